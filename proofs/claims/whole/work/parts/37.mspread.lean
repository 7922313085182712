/-! the reference: how sound goes -/
theorem mdR {N x : Int} (h : 0 ≤ x ∧ x < N) : (x + 1) % N = if x + 1 < N then x + 1 else 0 := by
  split
  · exact Int.emod_eq_of_lt (by omega) (by omega)
  · rw [show x + 1 = N by omega, Int.emod_self]
theorem mdL {N x : Int} (h : 0 ≤ x ∧ x < N) : (x + N - 1) % N = if 0 < x then x - 1 else N - 1 := by
  split
  · rw [show x + N - 1 = x - 1 + N by omega, Int.add_emod_right]; exact Int.emod_eq_of_lt (by omega) (by omega)
  · rw [show x + N - 1 = N - 1 by omega]; exact Int.emod_eq_of_lt (by omega) (by omega)
def bt (J : It) (s : Int) : Int → Int := fun v => J 141 (192 * s + v)
def PQ (α : Nat → Int → Int) (s : Int) (β0 β : Int → Int) (y : Int) : Prop := (∀ v, 0 ≤ v → v < 192 → β v = 100000 ∨ Rch α s v (β v)) ∧ (∀ v, 0 ≤ v → v < 192 → β v ≤ β0 v) ∧ (y = 0 ∨ y = 1) ∧ (y = 0 → ∀ v, 0 ≤ v → v < 192 → β v = β0 v) ∧ (y = 1 → ∃ v, 0 ≤ v ∧ v < 192 ∧ β v < β0 v)
theorem push {α : Nat → Int → Int} {s u v w y e : Int} {β0 : Int → Int} {J J' : It} (h : PQ α s β0 (bt J s) y) (hu : 0 ≤ u ∧ u < 192) (hv : 0 ≤ v ∧ v < 192) (hc : bt J s u < 100000) (hE : op α v → Ed α u v w) (huv : u ≠ v) (hw : 1 ≤ w)
    (f : (op α v ∧ J 141 (192 * s + u) + w < J 141 (192 * s + v) ∧ e = 1 ∧ J' = upI J 141 (192 * s + v) (J 141 (192 * s + u) + w)) ∨ (¬ (op α v ∧ J 141 (192 * s + u) + w < J 141 (192 * s + v)) ∧ e = 0 ∧ J' = J)) :
    (e = 0 ∨ e = 1) ∧ (∀ y', (y' = 0 ∨ y' = 1) → (y' = 1 ↔ (e = 1 ∨ y = 1)) → PQ α s β0 (bt J' s) y') ∧ (∀ z, 0 ≤ z → z < 192 → bt J' s z ≤ bt J s z) ∧ (op α v → bt J' s v ≤ β0 u + w) ∧ bt J' s u < 100000 ∧ (∀ a, a ≠ 141 → J' a = J a) ∧ ∀ i, (i < 192 * s ∨ 192 * s + 192 ≤ i) → J' 141 i = J 141 i := by
  obtain ⟨h1, h2, h3, h4, h5⟩ := h
  have hb := h2 u hu.1 hu.2
  rcases f with ⟨f1, f2, f3, f4⟩ | ⟨f1, f2, f3⟩
  · subst f3
    have bv : bt J' s v = bt J s u + w := by unfold bt; rw [f4, upI_s]
    have bo : ∀ z, z ≠ v → bt J' s z = bt J s z := fun z hz => by unfold bt; rw [f4, upI_k (by omega)]
    have lt : bt J s u + w < bt J s v := f2
    refine ⟨Or.inr rfl, fun y' q1 q2 => ⟨fun z a b => ?_, fun z a b => ?_, q1, fun q => by have := q2.mpr (Or.inl rfl); omega, fun _ => ⟨v, hv.1, hv.2, ?_⟩⟩, fun z a b => ?_, fun _ => by omega, by rw [bo u huv]; exact hc, fun a ha => by rw [f4, upI_A ha], fun i hi => by rw [f4, upI_k (by omega)]⟩
    · by_cases q : z = v
      · subst q
        rw [bv]
        rcases h1 u hu.1 hu.2 with r | ⟨n, r⟩
        · omega
        · exact Or.inr ⟨n + 1, u, w, by rw [show bt J s u + w - w = bt J s u by omega]; exact r, hE f1⟩
      · rw [bo z q]; exact h1 z a b
    · by_cases q : z = v
      · subst q; have := h2 z a b; omega
      · rw [bo z q]; exact h2 z a b
    · have := h2 v hv.1 hv.2; omega
    · by_cases q : z = v
      · subst q; omega
      · rw [bo z q]; omega
  · subst f3; subst f2
    refine ⟨Or.inl rfl, fun y' q1 q2 => ?_, fun z a b => Int.le_refl _, fun ho => ?_, hc, fun _ _ => rfl, fun _ _ => rfl⟩
    · have : y' = y := by clear h5 h4; omega
      rw [this]; exact ⟨h1, h2, h3, h4, h5⟩
    · have : ¬ (bt J' s u + w < bt J' s v) := fun z => f1 ⟨ho, z⟩
      clear h5 h4; omega
theorem PQ_op {α : Nat → Int → Int} {s u y : Int} {β0 β : Int → Int} (h : PQ α s β0 β y) (hu : 0 ≤ u ∧ u < 192) (hc : β u < 100000) : op α u := by
  rcases h.1 u hu.1 hu.2 with r | ⟨n, r⟩
  · omega
  · exact Wk_op n _ _ r
/-- all ways on from one spot -/
theorem ed_all {α : Nat → Int → Int} {u : Int} {β : Int → Int} {b : Int} (hW : WF α) (hu : gr α u) (r1 : op α (24 * (u / 24) + (u % 24 + 1) % α 0 0) → β (24 * (u / 24) + (u % 24 + 1) % α 0 0) ≤ b + 1) (r2 : op α (24 * (u / 24) + (u % 24 + α 0 0 - 1) % α 0 0) → β (24 * (u / 24) + (u % 24 + α 0 0 - 1) % α 0 0) ≤ b + 1)
    (r3 : u / 24 + 1 < α 0 1 → op α (u + 24) → β (u + 24) ≤ b + α 3 (u / 24)) (r4 : 0 < u / 24 → op α (u - 24) → β (u - 24) ≤ b + α 3 (u / 24 - 1)) : ∀ v w, Ed α u v w → β v ≤ b + w := by
  intro v w ⟨e1, e2, e3⟩
  have w0 := hW.1
  obtain ⟨u1, u2, u3⟩ := hu
  have v2 := e2.1
  obtain ⟨v1, v3, v4⟩ := v2
  have m1 := mdR (N := α 0 0) (x := u % 24) (by omega)
  have m2 := mdL (N := α 0 0) (x := u % 24) (by omega)
  rcases e3 with ⟨c1, c2 | c2, c3⟩ | ⟨c1, c2, c3⟩ | ⟨c1, c2, c3⟩
  · have ev : v = 24 * (u / 24) + (u % 24 + 1) % α 0 0 := by
      rw [m1]
      rcases c2 with ⟨x1, x2⟩ | ⟨x1, x2⟩
      · rw [if_pos x1]; omega
      · rw [if_neg (by omega)]; omega
    rw [← ev] at r1
    have := r1 e2; omega
  · have ev : v = 24 * (u / 24) + (u % 24 + α 0 0 - 1) % α 0 0 := by
      rw [m2]
      rcases c2 with ⟨x1, x2⟩ | ⟨x1, x2⟩
      · rw [if_pos (by omega)]; omega
      · rw [if_neg (by omega)]; omega
    rw [← ev] at r2
    have := r2 e2; omega
  · have ev : v = u + 24 := by omega
    rw [← ev] at r3
    have := r3 (by omega) e2; omega
  · have ev : v = u - 24 := by omega
    rw [← ev] at r4
    have := r4 (by omega) e2
    rw [show v / 24 = u / 24 - 1 by omega] at c3; omega
theorem ed_r {α : Nat → Int → Int} {u : Int} (hW : WF α) (hu : gr α u) : (0 ≤ 24 * (u / 24) + (u % 24 + 1) % α 0 0 ∧ 24 * (u / 24) + (u % 24 + 1) % α 0 0 < 192) ∧ u ≠ 24 * (u / 24) + (u % 24 + 1) % α 0 0 ∧ (op α (24 * (u / 24) + (u % 24 + 1) % α 0 0) → Ed α u (24 * (u / 24) + (u % 24 + 1) % α 0 0) 1) := by
  have w0 := hW.1
  have w1 := hW.2.1
  obtain ⟨u1, u2, u3⟩ := id hu
  have m1 := mdR (N := α 0 0) (x := u % 24) (by omega)
  by_cases c : u % 24 + 1 < α 0 0
  · rw [if_pos c] at m1
    rw [m1]
    exact ⟨by omega, by omega, fun h => ⟨hu, h, Or.inl ⟨by omega, Or.inl (Or.inl ⟨c, by omega⟩), rfl⟩⟩⟩
  · rw [if_neg c] at m1
    rw [m1]
    exact ⟨by omega, by omega, fun h => ⟨hu, h, Or.inl ⟨by omega, Or.inl (Or.inr ⟨by omega, by omega⟩), rfl⟩⟩⟩
theorem ed_l {α : Nat → Int → Int} {u : Int} (hW : WF α) (hu : gr α u) : (0 ≤ 24 * (u / 24) + (u % 24 + α 0 0 - 1) % α 0 0 ∧ 24 * (u / 24) + (u % 24 + α 0 0 - 1) % α 0 0 < 192) ∧ u ≠ 24 * (u / 24) + (u % 24 + α 0 0 - 1) % α 0 0 ∧ (op α (24 * (u / 24) + (u % 24 + α 0 0 - 1) % α 0 0) → Ed α u (24 * (u / 24) + (u % 24 + α 0 0 - 1) % α 0 0) 1) := by
  have w0 := hW.1
  have w1 := hW.2.1
  obtain ⟨u1, u2, u3⟩ := id hu
  have m1 := mdL (N := α 0 0) (x := u % 24) (by omega)
  by_cases c : 0 < u % 24
  · rw [if_pos c] at m1
    rw [m1]
    exact ⟨by omega, by omega, fun h => ⟨hu, h, Or.inl ⟨by omega, Or.inr (Or.inl ⟨by omega, by omega⟩), rfl⟩⟩⟩
  · rw [if_neg c] at m1
    rw [m1]
    exact ⟨by omega, by omega, fun h => ⟨hu, h, Or.inl ⟨by omega, Or.inr (Or.inr ⟨by omega, by omega⟩), rfl⟩⟩⟩
theorem ed_d {α : Nat → Int → Int} {u : Int} (hu : gr α u) (h : op α (u + 24)) : Ed α u (u + 24) (α 3 (u / 24)) := ⟨hu, h, Or.inr (Or.inl ⟨by omega, by omega, rfl⟩)⟩
theorem ed_u {α : Nat → Int → Int} {u : Int} (hu : gr α u) (h : op α (u - 24)) : Ed α u (u - 24) (α 3 (u / 24 - 1)) := ⟨hu, h, Or.inr (Or.inr ⟨by omega, by omega, by rw [show (u - 24) / 24 = u / 24 - 1 by omega]⟩)⟩
/-- all rows as they should be -/
def FO (I : It) (α : Nat → Int → Int) : Prop := ∀ s v, 0 ≤ s → s < 24 * α 0 1 → 0 ≤ v → v < 192 → I 141 (192 * s + v) = dS 100000 α s v
def HF (I : It) (α : Nat → Int → Int) : Prop := I 131 16 = 0 ∨ (I 131 16 = 1 ∧ FO I α)
def SO (α : Nat → Int → Int) (I I' : It) : Prop := HF I' α ∧ (∀ j, j ≠ 16 → I' 131 j = I 131 j) ∧ ∀ a, a ≠ 131 → a ≠ 141 → I' a = I a
theorem SO.vm {α : Nat → Int → Int} {I J : It} (h : SO α I J) (k : VM I α) : VM J α := k.fr (h.2.2 133 (by omega) (by omega)) (h.2.2 134 (by omega) (by omega)) (h.2.2 135 (by omega) (by omega)) (h.2.2 136 (by omega) (by omega))
theorem m_isSpot {l : Launch} {g : Gt} {d : Nat} {Z : Zt} {I : It} {P : Pt'} (hM : LayM Z) (hN : LayQ P) {α : Nat → Int → Int} (hV : VM I α) (hW : WF α) {v : Int} (hv : 0 ≤ v ∧ v < 192) : Mt l g mX12_isSpot (d + 1) 0 0 [vA 131, vI v] Z I P (QP (b2 (op α v)) Z I P) := by
  have v0 := hV.1.1
  have v1 := hV.1.2.1
  have v2 := hV.1.2.2.1
  have v3 := hV.1.2.2.2.1
  have v4 := hV.1.2.2.2.2
  have w0 := hW.1
  have w1 := hW.2.1
  have w5 := hW.2.2.1
  have w10 := hW.2.2.2.1
  refine Mt.of kmX12_isSpot (ls := [vA 131, vI v]) (fun _ => rfl) (fun _ => rfl) (okf_k (okf_k (okf_n rfl))) (fun hok => ?_)
  refine ev_iload_1 0 dX12_isSpot_0 ?_
  refine ev_bipush 1 dX12_isSpot_1 ⟨by decide, by decide⟩ ?_
  refine ev_idiv 3 dX12_isSpot_3 (by omega) (by rw [Int.tdiv_eq_ediv_of_nonneg (by omega)]; exact ⟨by omega, by omega⟩) ?_
  rw [Int.tdiv_eq_ediv_of_nonneg (by omega)]
  refine ev_aload_0 4 dX12_isSpot_4 ?_
  refine ev_getA 5 3 dX12_isSpot_5 fa_X12_13 (kd_131 hM) (pr_131_3 hN) rfl ?_
  refine ev_iconst 8 dX12_isSpot_8 ⟨by decide, by decide⟩ ?_
  refine ev_iald 9 dX12_isSpot_9 (kd_133 hM) ⟨by omega, by have := (ln_133 hM); omega⟩ ?_
  try simp only [v0, v1, v2, v3, v4]
  refine ev_icmp_ge 10 45 dX12_isSpot_10 rfl (fun h10 => ?_) (fun h10 => ?_)
  · refine ev_iconst 45 dX12_isSpot_45 ⟨by decide, by decide⟩ ?_
    refine ev_zret 46 dX12_isSpot_46 (by first | omega | exact b2_or _) ?_ rfl
    first
      | exact QP_of (b2_t ⟨⟨by omega, by omega, by omega⟩, by assumption⟩).symm
      | exact QP_of (b2_f (fun z => by have z1 := z.1.2.1; have z2 := z.1.2.2; omega)).symm
      | exact QP_of (b2_f (fun z => z.2 (by assumption))).symm
  · refine ev_iload_1 13 dX12_isSpot_13 ?_
    refine ev_bipush 14 dX12_isSpot_14 ⟨by decide, by decide⟩ ?_
    refine ev_irem 16 dX12_isSpot_16 (by omega) ?_
    rw [Int.tmod_eq_emod_of_nonneg (by omega)]
    refine ev_aload_0 17 dX12_isSpot_17 ?_
    refine ev_getA 18 3 dX12_isSpot_18 fa_X12_13 (kd_131 hM) (pr_131_3 hN) rfl ?_
    refine ev_iconst 21 dX12_isSpot_21 ⟨by decide, by decide⟩ ?_
    refine ev_iald 22 dX12_isSpot_22 (kd_133 hM) ⟨by omega, by have := (ln_133 hM); omega⟩ ?_
    try simp only [v0, v1, v2, v3, v4]
    refine ev_icmp_ge 23 45 dX12_isSpot_23 rfl (fun h23 => ?_) (fun h23 => ?_)
    · refine ev_iconst 45 dX12_isSpot_45 ⟨by decide, by decide⟩ ?_
      refine ev_zret 46 dX12_isSpot_46 (by first | omega | exact b2_or _) ?_ rfl
      first
        | exact QP_of (b2_t ⟨⟨by omega, by omega, by omega⟩, by assumption⟩).symm
        | exact QP_of (b2_f (fun z => by have z1 := z.1.2.1; have z2 := z.1.2.2; omega)).symm
        | exact QP_of (b2_f (fun z => z.2 (by assumption))).symm
    · refine ev_aload_0 26 dX12_isSpot_26 ?_
      refine ev_iload_1 27 dX12_isSpot_27 ?_
      refine ev_bipush 28 dX12_isSpot_28 ⟨by decide, by decide⟩ ?_
      refine ev_idiv 30 dX12_isSpot_30 (by omega) (by rw [Int.tdiv_eq_ediv_of_nonneg (by omega)]; exact ⟨by omega, by omega⟩) ?_
      rw [Int.tdiv_eq_ediv_of_nonneg (by omega)]
      refine ev_iload_1 31 dX12_isSpot_31 ?_
      refine ev_bipush 32 dX12_isSpot_32 ⟨by decide, by decide⟩ ?_
      refine ev_irem 34 dX12_isSpot_34 (by omega) ?_
      rw [Int.tmod_eq_emod_of_nonneg (by omega)]
      refine ev_cVp_2 35 dX12_isSpot_35 kmX12_isMarket lk_X12_175 (kd_131 hM) (m_isMarket hM hN hV hW _ (by omega)) rfl rfl ?_
      try simp only [v0, v1, v2, v3, v4]
      rw [show 24 * (v / 24) + v % 24 = v by omega]
      refine ev_ifb_ne 38 45 dX12_isSpot_38 rfl (fun h38 => ?_) (fun h38 => ?_)
      · refine ev_iconst 45 dX12_isSpot_45 ⟨by decide, by decide⟩ ?_
        refine ev_zret 46 dX12_isSpot_46 (by first | omega | exact b2_or _) ?_ rfl
        first
          | exact QP_of (b2_t ⟨⟨by omega, by omega, by omega⟩, by assumption⟩).symm
          | exact QP_of (b2_f (fun z => by have z1 := z.1.2.1; have z2 := z.1.2.2; omega)).symm
          | exact QP_of (b2_f (fun z => z.2 (by assumption))).symm
      · refine ev_iconst 41 dX12_isSpot_41 ⟨by decide, by decide⟩ ?_
        refine ev_goto 42 46 dX12_isSpot_42 rfl ?_
        refine ev_zret 46 dX12_isSpot_46 (by first | omega | exact b2_or _) ?_ rfl
        first
          | exact QP_of (b2_t ⟨⟨by omega, by omega, by omega⟩, by assumption⟩).symm
          | exact QP_of (b2_f (fun z => by have z1 := z.1.2.1; have z2 := z.1.2.2; omega)).symm
          | exact QP_of (b2_f (fun z => z.2 (by assumption))).symm
theorem m_isSooner {l : Launch} {g : Gt} {d : Nat} {Z : Zt} {I : It} {P : Pt'} (hM : LayM Z) (hN : LayQ P) {α : Nat → Int → Int} (hV : VM I α) (hW : WF α) {s u v w : Int} (hs : 0 ≤ s ∧ s < 192) (hu : 0 ≤ u ∧ u < 192) (hv : 0 ≤ v ∧ v < 192) (hw : 1 ≤ w ∧ w ≤ 9) (hb : 0 ≤ I 141 (192 * s + u) ∧ I 141 (192 * s + u) ≤ 100000) : Mt l g mX12_isSooner (d + 2) 0 0 [vA 131, vI s, vI u, vI v, vI w] Z I P (QM (fun r I' => (op α v ∧ I 141 (192 * s + u) + w < I 141 (192 * s + v) ∧ r = 1 ∧ I' = upI I 141 (192 * s + v) (I 141 (192 * s + u) + w)) ∨ (¬ (op α v ∧ I 141 (192 * s + u) + w < I 141 (192 * s + v)) ∧ r = 0 ∧ I' = I)) Z P) := by
  have v0 := hV.1.1
  have v1 := hV.1.2.1
  have v2 := hV.1.2.2.1
  have v3 := hV.1.2.2.2.1
  have v4 := hV.1.2.2.2.2
  have w0 := hW.1
  have w1 := hW.2.1
  have w5 := hW.2.2.1
  have w10 := hW.2.2.2.1
  refine Mt.of kmX12_isSooner (ls := [vA 131, vI s, vI u, vI v, vI w]) (fun _ => rfl) (fun _ => rfl) (okf_k (okf_k (okf_k (okf_k (okf_k (okf_n rfl)))))) (fun hok => ?_)
  refine ev_aload_0 0 dX12_isSooner_0 ?_
  refine ev_iload_3 1 dX12_isSooner_1 ?_
  refine ev_cVp_1 2 dX12_isSooner_2 kmX12_isSpot lk_X12_182 (kd_131 hM) (m_isSpot hM hN hV hW (by omega)) rfl rfl ?_
  refine ev_ifb_eq 5 38 dX12_isSooner_5 rfl (fun h5 => ?_) (fun h5 => ?_)
  · refine ev_iconst 38 dX12_isSooner_38 ⟨by decide, by decide⟩ ?_
    refine ev_zret 39 dX12_isSooner_39 (by first | omega | exact b2_or _) ?_ rfl
    first
      | exact QM_of (Or.inr ⟨fun z => absurd z.1 (by assumption), rfl, rfl⟩)
      | exact QM_of (Or.inr ⟨fun z => by have z2 := z.2; omega, rfl, rfl⟩)
  · refine ev_aload_0 8 dX12_isSooner_8 ?_
    refine ev_getA 9 15 dX12_isSooner_9 fa_X12_39 (kd_131 hM) (pr_131_15 hN) rfl ?_
    refine ev_sipush 12 dX12_isSooner_12 ⟨by decide, by decide⟩ ?_
    refine ev_iload_1 15 dX12_isSooner_15 ?_
    refine ev_imul 16 dX12_isSooner_16 ⟨by omega, by omega⟩ ?_
    refine ev_iload_2 17 dX12_isSooner_17 ?_
    refine ev_iadd 18 dX12_isSooner_18 ⟨by omega, by omega⟩ ?_
    refine ev_iald 19 dX12_isSooner_19 (kd_141 hM) ⟨by omega, by have := (ln_141 hM); omega⟩ ?_
    refine ev_iload_4 20 dX12_isSooner_20 ?_
    refine ev_iadd 22 dX12_isSooner_22 ⟨by omega, by omega⟩ ?_
    refine ev_aload_0 23 dX12_isSooner_23 ?_
    refine ev_getA 24 15 dX12_isSooner_24 fa_X12_39 (kd_131 hM) (pr_131_15 hN) rfl ?_
    refine ev_sipush 27 dX12_isSooner_27 ⟨by decide, by decide⟩ ?_
    refine ev_iload_1 30 dX12_isSooner_30 ?_
    refine ev_imul 31 dX12_isSooner_31 ⟨by omega, by omega⟩ ?_
    refine ev_iload_3 32 dX12_isSooner_32 ?_
    refine ev_iadd 33 dX12_isSooner_33 ⟨by omega, by omega⟩ ?_
    refine ev_iald 34 dX12_isSooner_34 (kd_141 hM) ⟨by omega, by have := (ln_141 hM); omega⟩ ?_
    refine ev_icmp_lt 35 40 dX12_isSooner_35 rfl (fun h35 => ?_) (fun h35 => ?_)
    · refine ev_aload_0 40 dX12_isSooner_40 ?_
      refine ev_getA 41 15 dX12_isSooner_41 fa_X12_39 (kd_131 hM) (pr_131_15 hN) rfl ?_
      refine ev_sipush 44 dX12_isSooner_44 ⟨by decide, by decide⟩ ?_
      refine ev_iload_1 47 dX12_isSooner_47 ?_
      refine ev_imul 48 dX12_isSooner_48 ⟨by omega, by omega⟩ ?_
      refine ev_iload_3 49 dX12_isSooner_49 ?_
      refine ev_iadd 50 dX12_isSooner_50 ⟨by omega, by omega⟩ ?_
      refine ev_aload_0 51 dX12_isSooner_51 ?_
      refine ev_getA 52 15 dX12_isSooner_52 fa_X12_39 (kd_131 hM) (pr_131_15 hN) rfl ?_
      refine ev_sipush 55 dX12_isSooner_55 ⟨by decide, by decide⟩ ?_
      refine ev_iload_1 58 dX12_isSooner_58 ?_
      refine ev_imul 59 dX12_isSooner_59 ⟨by omega, by omega⟩ ?_
      refine ev_iload_2 60 dX12_isSooner_60 ?_
      refine ev_iadd 61 dX12_isSooner_61 ⟨by omega, by omega⟩ ?_
      refine ev_iald 62 dX12_isSooner_62 (kd_141 hM) ⟨by omega, by have := (ln_141 hM); omega⟩ ?_
      refine ev_iload_4 63 dX12_isSooner_63 ?_
      refine ev_iadd 65 dX12_isSooner_65 ⟨by omega, by omega⟩ ?_
      refine ev_iast 66 dX12_isSooner_66 (kd_141 hM) ⟨by omega, by have := (ln_141 hM); omega⟩ ?_
      refine ev_iconst 67 dX12_isSooner_67 ⟨by decide, by decide⟩ ?_
      refine ev_zret 68 dX12_isSooner_68 (by first | omega | exact b2_or _) ?_ rfl
      exact QM_of (Or.inl ⟨by assumption, by omega, rfl, rfl⟩)
    · refine ev_iconst 38 dX12_isSooner_38 ⟨by decide, by decide⟩ ?_
      refine ev_zret 39 dX12_isSooner_39 (by first | omega | exact b2_or _) ?_ rfl
      first
        | exact QM_of (Or.inr ⟨fun z => absurd z.1 (by assumption), rfl, rfl⟩)
        | exact QM_of (Or.inr ⟨fun z => by have z2 := z.2; omega, rfl, rfl⟩)
theorem PQ.bd {α : Nat → Int → Int} (hW : WF α) {s y : Int} {β0 : Int → Int} {J : It} (h0 : ∀ v, 0 ≤ v → v < 192 → β0 v ≤ 100000) (h : PQ α s β0 (bt J s) y) : ∀ v, 0 ≤ v → v < 192 → 0 ≤ J 141 (192 * s + v) ∧ J 141 (192 * s + v) ≤ 100000 := fun v a b => by
  have h2 : bt J s v ≤ 100000 := Int.le_trans (h.2.1 v a b) (h0 v a b)
  refine ⟨?_, h2⟩
  rcases h.1 v a b with e | ⟨n, e⟩
  · have : J 141 (192 * s + v) = 100000 := e
    omega
  · exact Wk_nn hW n _ _ e
theorem m_isSpread {l : Launch} {g : Gt} {d : Nat} {Z : Zt} {I : It} {P : Pt'} (hM : LayM Z) (hN : LayQ P) {α : Nat → Int → Int} (hV : VM I α) (hW : WF α) {s : Int} (hs : 0 ≤ s ∧ s < 192) (hsd : ∀ v, 0 ≤ v → v < 192 → bt I s v = 100000 ∨ Rch α s v (bt I s v)) (hle : ∀ v, 0 ≤ v → v < 192 → bt I s v ≤ 100000) : Mt l g mX12_isSpread (d + 3) 0 0 [vA 131, vI s] Z I P (QM (fun r I' => PQ α s (bt I s) (bt I' s) r ∧ (∀ u v w, Ed α u v w → bt I' s v ≤ bt I s u + w) ∧ (∀ a, a ≠ 141 → I' a = I a) ∧ ∀ i, (i < 192 * s ∨ 192 * s + 192 ≤ i) → I' 141 i = I 141 i) Z P) := by
  have v0 := hV.1.1
  have v1 := hV.1.2.1
  have v2 := hV.1.2.2.1
  have v3 := hV.1.2.2.2.1
  have v4 := hV.1.2.2.2.2
  have w0 := hW.1
  have w1 := hW.2.1
  have w5 := hW.2.2.1
  have w10 := hW.2.2.2.1
  refine Mt.of kmX12_isSpread (ls := [vA 131, vI s, vX, vX, vX, vX]) (fun _ => rfl) (fun _ => rfl) (okf_k (okf_k (okf_n rfl))) (fun hok => ?_)
  have loop : ∀ (r : Nat) (e y : Int) (J : It) (vx vy : Vv), 0 ≤ e → e + r = 24 * α 0 1 → PQ α s (bt I s) (bt J s) y → (∀ u v w, Ed α u v w → u < e → bt J s v ≤ bt I s u + w) → (∀ a, a ≠ 141 → J a = I a) → (∀ i, (i < 192 * s ∨ 192 * s + 192 ≤ i) → J 141 i = I 141 i) → Ev l g mX12_isSpread (d + 3) 0 0 Z J P 4 [vA 131, vI s, vI y, vI e, vx, vy] [] (QM (fun r I' => PQ α s (bt I s) (bt I' s) r ∧ (∀ u v w, Ed α u v w → bt I' s v ≤ bt I s u + w) ∧ (∀ a, a ≠ 141 → I' a = I a) ∧ ∀ i, (i < 192 * s ∨ 192 * s + 192 ≤ i) → I' 141 i = I 141 i) Z P) := by
    intro r
    induction r with
    | zero =>
      intro e y J vx vy h0 h1 hq hpd fr1 fr2
      have hVJ : VM J α := hV.fr (fr1 133 (by omega)) (fr1 134 (by omega)) (fr1 135 (by omega)) (fr1 136 (by omega))
      have v0 : J 133 0 = α 0 0 := hVJ.1.1
      have v1 : J 133 1 = α 0 1 := hVJ.1.2.1
      have hbd := PQ.bd hW hle hq
      have hy := hq.2.2.1
      refine ev_iload_3 4 dX12_isSpread_4 ?_
      refine ev_bipush 5 dX12_isSpread_5 ⟨by decide, by decide⟩ ?_
      refine ev_aload_0 7 dX12_isSpread_7 ?_
      refine ev_getA 8 3 dX12_isSpread_8 fa_X12_13 (kd_131 hM) (pr_131_3 hN) rfl ?_
      refine ev_iconst 11 dX12_isSpread_11 ⟨by decide, by decide⟩ ?_
      refine ev_iald 12 dX12_isSpread_12 (kd_133 hM) ⟨by omega, by have := (ln_133 hM); omega⟩ ?_
      try simp only [v1]
      refine ev_imul 13 dX12_isSpread_13 ⟨by omega, by omega⟩ ?_
      refine ev_icmp_ge 14 219 dX12_isSpread_14 rfl (fun h14 => ?_) (fun h14 => ?_)
      · refine ev_iload_2 219 dX12_isSpread_219 ?_
        refine ev_zret 220 dX12_isSpread_220 (by first | omega | exact b2_or _) ?_ rfl
        exact QM_of ⟨hq, fun u v w z => hpd u v w z (by have z1 := z.1.2.1; omega), fr1, fr2⟩
      · exfalso; omega
    | succ r ih =>
      intro e y J vx vy h0 h1 hq hpd fr1 fr2
      have n213 : ∀ (y : Int) (J : It) (vx vy : Vv), PQ α s (bt I s) (bt J s) y → (∀ u v w, Ed α u v w → u < e + 1 → bt J s v ≤ bt I s u + w) → (∀ a, a ≠ 141 → J a = I a) → (∀ i, (i < 192 * s ∨ 192 * s + 192 ≤ i) → J 141 i = I 141 i) → Ev l g mX12_isSpread (d + 3) 0 0 Z J P 213 [vA 131, vI s, vI y, vI e, vx, vy] [] (QM (fun r I' => PQ α s (bt I s) (bt I' s) r ∧ (∀ u v w, Ed α u v w → bt I' s v ≤ bt I s u + w) ∧ (∀ a, a ≠ 141 → I' a = I a) ∧ ∀ i, (i < 192 * s ∨ 192 * s + 192 ≤ i) → I' 141 i = I 141 i) Z P) := by
        intro y J vx vy hq hpd fr1 fr2
        refine ev_iinc_3 213 dX12_isSpread_213 ⟨by omega, by omega⟩ rfl rfl ?_
        refine ev_goto 216 4 dX12_isSpread_216 rfl ?_
        exact ih (e + 1) y J _ _ (by omega) (by omega) hq hpd fr1 fr2
      have hv : 0 ≤ e ∧ e < 192 := by omega
      have ed24 : e.tdiv 24 = e / 24 := Int.tdiv_eq_ediv_of_nonneg (by omega)
      have em24 : e.tmod 24 = e % 24 := Int.tmod_eq_emod_of_nonneg (by omega)
      have hvJ : VM J α := hV.fr (fr1 133 (by omega)) (fr1 134 (by omega)) (fr1 135 (by omega)) (fr1 136 (by omega))
      have v1J : J 133 1 = α 0 1 := hvJ.1.2.1
      by_cases hc : bt J s e < 100000
      · have hop : op α e := PQ_op hq hv hc
        have hgr := hop.1
        have hg1 := hgr.2.1
        have hg2 := hgr.2.2
        have hg3 : 0 ≤ e / 24 ∧ 0 ≤ e % 24 := by omega
        have al3 := hW.2.2.2.2.2.1 (e / 24) hg3.1 hg1
        have n212 : ∀ (y y0 : Int) (J : It), PQ α s (bt I s) (bt J s) y → (∀ u v w, Ed α u v w → u < e → bt J s v ≤ bt I s u + w) → (op α (24 * (e / 24) + (e % 24 + 1) % α 0 0) → bt J s (24 * (e / 24) + (e % 24 + 1) % α 0 0) ≤ bt I s e + 1) → (op α (24 * (e / 24) + (e % 24 + α 0 0 - 1) % α 0 0) → bt J s (24 * (e / 24) + (e % 24 + α 0 0 - 1) % α 0 0) ≤ bt I s e + 1) → (e / 24 + 1 < α 0 1 → op α (e + 24) → bt J s (e + 24) ≤ bt I s e + α 3 (e / 24)) → (0 < e / 24 → op α (e - 24) → bt J s (e - 24) ≤ bt I s e + α 3 (e / 24 - 1)) → (∀ a, a ≠ 141 → J a = I a) → (∀ i, (i < 192 * s ∨ 192 * s + 192 ≤ i) → J 141 i = I 141 i) → Ev l g mX12_isSpread (d + 3) 0 0 Z J P 212 [vA 131, vI s, vI y0, vI e, vI (e / 24), vI (e % 24)] [vI y] (QM (fun r I' => PQ α s (bt I s) (bt I' s) r ∧ (∀ u v w, Ed α u v w → bt I' s v ≤ bt I s u + w) ∧ (∀ a, a ≠ 141 → I' a = I a) ∧ ∀ i, (i < 192 * s ∨ 192 * s + 192 ≤ i) → I' 141 i = I 141 i) Z P) := by
          intro y y0 J hq hpd rR rL rD rU fr1 fr2
          refine ev_istore_2 212 dX12_isSpread_212 rfl rfl ?_
          exact n213 y J _ _ hq (fun u v w z1 z2 => by
            by_cases q : u = e
            · subst q; exact ed_all hW hgr rR rL rD rU v w z1
            · exact hpd u v w z1 (by omega)) fr1 fr2
        have n174 : ∀ (y : Int) (J : It), PQ α s (bt I s) (bt J s) y → bt J s e < 100000 → (∀ u v w, Ed α u v w → u < e → bt J s v ≤ bt I s u + w) → (op α (24 * (e / 24) + (e % 24 + 1) % α 0 0) → bt J s (24 * (e / 24) + (e % 24 + 1) % α 0 0) ≤ bt I s e + 1) → (op α (24 * (e / 24) + (e % 24 + α 0 0 - 1) % α 0 0) → bt J s (24 * (e / 24) + (e % 24 + α 0 0 - 1) % α 0 0) ≤ bt I s e + 1) → (e / 24 + 1 < α 0 1 → op α (e + 24) → bt J s (e + 24) ≤ bt I s e + α 3 (e / 24)) → (∀ a, a ≠ 141 → J a = I a) → (∀ i, (i < 192 * s ∨ 192 * s + 192 ≤ i) → J 141 i = I 141 i) → Ev l g mX12_isSpread (d + 3) 0 0 Z J P 174 [vA 131, vI s, vI y, vI e, vI (e / 24), vI (e % 24)] [] (QM (fun r I' => PQ α s (bt I s) (bt I' s) r ∧ (∀ u v w, Ed α u v w → bt I' s v ≤ bt I s u + w) ∧ (∀ a, a ≠ 141 → I' a = I a) ∧ ∀ i, (i < 192 * s ∨ 192 * s + 192 ≤ i) → I' 141 i = I 141 i) Z P) := by
          intro y J hq hcu hpd rR rL rD fr1 fr2
          have hVJ : VM J α := hV.fr (fr1 133 (by omega)) (fr1 134 (by omega)) (fr1 135 (by omega)) (fr1 136 (by omega))
          have v0 : J 133 0 = α 0 0 := hVJ.1.1
          have v1 : J 133 1 = α 0 1 := hVJ.1.2.1
          have hbd := PQ.bd hW hle hq
          have hy := hq.2.2.1
          refine ev_iload_4 174 dX12_isSpread_174 ?_
          refine ev_if_le 176 203 dX12_isSpread_176 rfl (fun h176 => ?_) (fun h176 => ?_)
          · refine ev_iload_2 203 dX12_isSpread_203 ?_
            refine ev_if_eq 204 211 dX12_isSpread_204 rfl (fun h204 => ?_) (fun h204 => ?_)
            · refine ev_iconst 211 dX12_isSpread_211 ⟨by decide, by decide⟩ ?_
              first
                | exact n212 1 _ _ (p1 1 (Or.inr rfl) (by omega)) (fun u v w z1 z2 => Int.le_trans (p2 v (gr_192 hW z1.2.1.1).1 (gr_192 hW z1.2.1.1).2) (hpd u v w z1 z2)) (fun z => Int.le_trans (p2 _ (ed_r hW hgr).1.1 (ed_r hW hgr).1.2) (rR z)) (fun z => Int.le_trans (p2 _ (ed_l hW hgr).1.1 (ed_l hW hgr).1.2) (rL z)) (fun z z2 => Int.le_trans (p2 _ (by omega) (by omega)) (rD z z2)) (fun _ => p3) (fun a z => (p5 a z).trans (fr1 a z)) (fun i z => (p6 i z).trans (fr2 i z))
                | exact n212 0 _ _ (p1 0 (Or.inl rfl) (by omega)) (fun u v w z1 z2 => Int.le_trans (p2 v (gr_192 hW z1.2.1.1).1 (gr_192 hW z1.2.1.1).2) (hpd u v w z1 z2)) (fun z => Int.le_trans (p2 _ (ed_r hW hgr).1.1 (ed_r hW hgr).1.2) (rR z)) (fun z => Int.le_trans (p2 _ (ed_l hW hgr).1.1 (ed_l hW hgr).1.2) (rL z)) (fun z z2 => Int.le_trans (p2 _ (by omega) (by omega)) (rD z z2)) (fun _ => p3) (fun a z => (p5 a z).trans (fr1 a z)) (fun i z => (p6 i z).trans (fr2 i z))
                | exact n212 1 _ J (by rw [show (1 : Int) = y by omega]; exact hq) hpd rR rL rD (fun z => by omega) fr1 fr2
                | exact n212 0 _ J (by rw [show (0 : Int) = y by omega]; exact hq) hpd rR rL rD (fun z => by omega) fr1 fr2
            · refine ev_iconst 207 dX12_isSpread_207 ⟨by decide, by decide⟩ ?_
              refine ev_goto 208 212 dX12_isSpread_208 rfl ?_
              first
                | exact n212 1 _ _ (p1 1 (Or.inr rfl) (by omega)) (fun u v w z1 z2 => Int.le_trans (p2 v (gr_192 hW z1.2.1.1).1 (gr_192 hW z1.2.1.1).2) (hpd u v w z1 z2)) (fun z => Int.le_trans (p2 _ (ed_r hW hgr).1.1 (ed_r hW hgr).1.2) (rR z)) (fun z => Int.le_trans (p2 _ (ed_l hW hgr).1.1 (ed_l hW hgr).1.2) (rL z)) (fun z z2 => Int.le_trans (p2 _ (by omega) (by omega)) (rD z z2)) (fun _ => p3) (fun a z => (p5 a z).trans (fr1 a z)) (fun i z => (p6 i z).trans (fr2 i z))
                | exact n212 0 _ _ (p1 0 (Or.inl rfl) (by omega)) (fun u v w z1 z2 => Int.le_trans (p2 v (gr_192 hW z1.2.1.1).1 (gr_192 hW z1.2.1.1).2) (hpd u v w z1 z2)) (fun z => Int.le_trans (p2 _ (ed_r hW hgr).1.1 (ed_r hW hgr).1.2) (rR z)) (fun z => Int.le_trans (p2 _ (ed_l hW hgr).1.1 (ed_l hW hgr).1.2) (rL z)) (fun z z2 => Int.le_trans (p2 _ (by omega) (by omega)) (rD z z2)) (fun _ => p3) (fun a z => (p5 a z).trans (fr1 a z)) (fun i z => (p6 i z).trans (fr2 i z))
                | exact n212 1 _ J (by rw [show (1 : Int) = y by omega]; exact hq) hpd rR rL rD (fun z => by omega) fr1 fr2
                | exact n212 0 _ J (by rw [show (0 : Int) = y by omega]; exact hq) hpd rR rL rD (fun z => by omega) fr1 fr2
          · have al4 := hW.2.2.2.2.2.1 (e / 24 - 1) (by omega) (by omega)
            have m3 : J 134 (3 * (e / 24) - 1) = α 3 (e / 24 - 1) := by rw [show 3 * (e / 24) - 1 = 3 * (e / 24 - 1) + 2 by omega]; exact (hVJ.2.1 (e / 24 - 1) (by omega) (by omega)).2.2
            refine ev_aload_0 179 dX12_isSpread_179 ?_
            refine ev_iload_1 180 dX12_isSpread_180 ?_
            refine ev_iload_3 181 dX12_isSpread_181 ?_
            refine ev_iload_3 182 dX12_isSpread_182 ?_
            refine ev_bipush 183 dX12_isSpread_183 ⟨by decide, by decide⟩ ?_
            refine ev_isub 185 dX12_isSpread_185 ⟨by omega, by omega⟩ ?_
            refine ev_aload_0 186 dX12_isSpread_186 ?_
            refine ev_getA 187 4 dX12_isSpread_187 fa_X12_17 (kd_131 hM) (pr_131_4 hN) rfl ?_
            refine ev_iconst 190 dX12_isSpread_190 ⟨by decide, by decide⟩ ?_
            refine ev_iload_4 191 dX12_isSpread_191 ?_
            refine ev_imul 193 dX12_isSpread_193 ⟨by omega, by omega⟩ ?_
            refine ev_iconst 194 dX12_isSpread_194 ⟨by decide, by decide⟩ ?_
            refine ev_isub 195 dX12_isSpread_195 ⟨by omega, by omega⟩ ?_
            refine ev_iald 196 dX12_isSpread_196 (kd_134 hM) ⟨by omega, by have := (ln_134 hM); omega⟩ ?_
            try simp only [m3]
            refine ev_cVm_4 197 dX12_isSpread_197 kmX12_isSooner lk_X12_186 (kd_131 hM) (m_isSooner hM hN hVJ hW hs (by omega) (by omega) (by omega) (hbd _ (by omega) (by omega))) rfl rfl (fun x197 I197 f197 => ?_)
            obtain ⟨p0, p1, p2, p3, p4, p5, p6⟩ := push hq hv (by omega) hcu (ed_u hgr) (by omega) (by omega) f197
            refine ev_zne 200 207 dX12_isSpread_200 rfl (fun h200 => ?_) (fun h200 => ?_)
            · refine ev_iconst 207 dX12_isSpread_207 ⟨by decide, by decide⟩ ?_
              refine ev_goto 208 212 dX12_isSpread_208 rfl ?_
              first
                | exact n212 1 _ _ (p1 1 (Or.inr rfl) (by omega)) (fun u v w z1 z2 => Int.le_trans (p2 v (gr_192 hW z1.2.1.1).1 (gr_192 hW z1.2.1.1).2) (hpd u v w z1 z2)) (fun z => Int.le_trans (p2 _ (ed_r hW hgr).1.1 (ed_r hW hgr).1.2) (rR z)) (fun z => Int.le_trans (p2 _ (ed_l hW hgr).1.1 (ed_l hW hgr).1.2) (rL z)) (fun z z2 => Int.le_trans (p2 _ (by omega) (by omega)) (rD z z2)) (fun _ => p3) (fun a z => (p5 a z).trans (fr1 a z)) (fun i z => (p6 i z).trans (fr2 i z))
                | exact n212 0 _ _ (p1 0 (Or.inl rfl) (by omega)) (fun u v w z1 z2 => Int.le_trans (p2 v (gr_192 hW z1.2.1.1).1 (gr_192 hW z1.2.1.1).2) (hpd u v w z1 z2)) (fun z => Int.le_trans (p2 _ (ed_r hW hgr).1.1 (ed_r hW hgr).1.2) (rR z)) (fun z => Int.le_trans (p2 _ (ed_l hW hgr).1.1 (ed_l hW hgr).1.2) (rL z)) (fun z z2 => Int.le_trans (p2 _ (by omega) (by omega)) (rD z z2)) (fun _ => p3) (fun a z => (p5 a z).trans (fr1 a z)) (fun i z => (p6 i z).trans (fr2 i z))
                | exact n212 1 _ J (by rw [show (1 : Int) = y by omega]; exact hq) hpd rR rL rD (fun z => by omega) fr1 fr2
                | exact n212 0 _ J (by rw [show (0 : Int) = y by omega]; exact hq) hpd rR rL rD (fun z => by omega) fr1 fr2
            · refine ev_iload_2 203 dX12_isSpread_203 ?_
              refine ev_if_eq 204 211 dX12_isSpread_204 rfl (fun h204 => ?_) (fun h204 => ?_)
              · refine ev_iconst 211 dX12_isSpread_211 ⟨by decide, by decide⟩ ?_
                first
                  | exact n212 1 _ _ (p1 1 (Or.inr rfl) (by omega)) (fun u v w z1 z2 => Int.le_trans (p2 v (gr_192 hW z1.2.1.1).1 (gr_192 hW z1.2.1.1).2) (hpd u v w z1 z2)) (fun z => Int.le_trans (p2 _ (ed_r hW hgr).1.1 (ed_r hW hgr).1.2) (rR z)) (fun z => Int.le_trans (p2 _ (ed_l hW hgr).1.1 (ed_l hW hgr).1.2) (rL z)) (fun z z2 => Int.le_trans (p2 _ (by omega) (by omega)) (rD z z2)) (fun _ => p3) (fun a z => (p5 a z).trans (fr1 a z)) (fun i z => (p6 i z).trans (fr2 i z))
                  | exact n212 0 _ _ (p1 0 (Or.inl rfl) (by omega)) (fun u v w z1 z2 => Int.le_trans (p2 v (gr_192 hW z1.2.1.1).1 (gr_192 hW z1.2.1.1).2) (hpd u v w z1 z2)) (fun z => Int.le_trans (p2 _ (ed_r hW hgr).1.1 (ed_r hW hgr).1.2) (rR z)) (fun z => Int.le_trans (p2 _ (ed_l hW hgr).1.1 (ed_l hW hgr).1.2) (rL z)) (fun z z2 => Int.le_trans (p2 _ (by omega) (by omega)) (rD z z2)) (fun _ => p3) (fun a z => (p5 a z).trans (fr1 a z)) (fun i z => (p6 i z).trans (fr2 i z))
                  | exact n212 1 _ J (by rw [show (1 : Int) = y by omega]; exact hq) hpd rR rL rD (fun z => by omega) fr1 fr2
                  | exact n212 0 _ J (by rw [show (0 : Int) = y by omega]; exact hq) hpd rR rL rD (fun z => by omega) fr1 fr2
              · refine ev_iconst 207 dX12_isSpread_207 ⟨by decide, by decide⟩ ?_
                refine ev_goto 208 212 dX12_isSpread_208 rfl ?_
                first
                  | exact n212 1 _ _ (p1 1 (Or.inr rfl) (by omega)) (fun u v w z1 z2 => Int.le_trans (p2 v (gr_192 hW z1.2.1.1).1 (gr_192 hW z1.2.1.1).2) (hpd u v w z1 z2)) (fun z => Int.le_trans (p2 _ (ed_r hW hgr).1.1 (ed_r hW hgr).1.2) (rR z)) (fun z => Int.le_trans (p2 _ (ed_l hW hgr).1.1 (ed_l hW hgr).1.2) (rL z)) (fun z z2 => Int.le_trans (p2 _ (by omega) (by omega)) (rD z z2)) (fun _ => p3) (fun a z => (p5 a z).trans (fr1 a z)) (fun i z => (p6 i z).trans (fr2 i z))
                  | exact n212 0 _ _ (p1 0 (Or.inl rfl) (by omega)) (fun u v w z1 z2 => Int.le_trans (p2 v (gr_192 hW z1.2.1.1).1 (gr_192 hW z1.2.1.1).2) (hpd u v w z1 z2)) (fun z => Int.le_trans (p2 _ (ed_r hW hgr).1.1 (ed_r hW hgr).1.2) (rR z)) (fun z => Int.le_trans (p2 _ (ed_l hW hgr).1.1 (ed_l hW hgr).1.2) (rL z)) (fun z z2 => Int.le_trans (p2 _ (by omega) (by omega)) (rD z z2)) (fun _ => p3) (fun a z => (p5 a z).trans (fr1 a z)) (fun i z => (p6 i z).trans (fr2 i z))
                  | exact n212 1 _ J (by rw [show (1 : Int) = y by omega]; exact hq) hpd rR rL rD (fun z => by omega) fr1 fr2
                  | exact n212 0 _ J (by rw [show (0 : Int) = y by omega]; exact hq) hpd rR rL rD (fun z => by omega) fr1 fr2
        have n173 : ∀ (y y0 : Int) (J : It), PQ α s (bt I s) (bt J s) y → bt J s e < 100000 → (∀ u v w, Ed α u v w → u < e → bt J s v ≤ bt I s u + w) → (op α (24 * (e / 24) + (e % 24 + 1) % α 0 0) → bt J s (24 * (e / 24) + (e % 24 + 1) % α 0 0) ≤ bt I s e + 1) → (op α (24 * (e / 24) + (e % 24 + α 0 0 - 1) % α 0 0) → bt J s (24 * (e / 24) + (e % 24 + α 0 0 - 1) % α 0 0) ≤ bt I s e + 1) → (e / 24 + 1 < α 0 1 → op α (e + 24) → bt J s (e + 24) ≤ bt I s e + α 3 (e / 24)) → (∀ a, a ≠ 141 → J a = I a) → (∀ i, (i < 192 * s ∨ 192 * s + 192 ≤ i) → J 141 i = I 141 i) → Ev l g mX12_isSpread (d + 3) 0 0 Z J P 173 [vA 131, vI s, vI y0, vI e, vI (e / 24), vI (e % 24)] [vI y] (QM (fun r I' => PQ α s (bt I s) (bt I' s) r ∧ (∀ u v w, Ed α u v w → bt I' s v ≤ bt I s u + w) ∧ (∀ a, a ≠ 141 → I' a = I a) ∧ ∀ i, (i < 192 * s ∨ 192 * s + 192 ≤ i) → I' 141 i = I 141 i) Z P) := by
          intro y y0 J hq hcu hpd rR rL rD fr1 fr2
          refine ev_istore_2 173 dX12_isSpread_173 rfl rfl ?_
          exact n174 y J hq hcu hpd rR rL rD fr1 fr2
        have n127 : ∀ (y : Int) (J : It), PQ α s (bt I s) (bt J s) y → bt J s e < 100000 → (∀ u v w, Ed α u v w → u < e → bt J s v ≤ bt I s u + w) → (op α (24 * (e / 24) + (e % 24 + 1) % α 0 0) → bt J s (24 * (e / 24) + (e % 24 + 1) % α 0 0) ≤ bt I s e + 1) → (op α (24 * (e / 24) + (e % 24 + α 0 0 - 1) % α 0 0) → bt J s (24 * (e / 24) + (e % 24 + α 0 0 - 1) % α 0 0) ≤ bt I s e + 1) → (∀ a, a ≠ 141 → J a = I a) → (∀ i, (i < 192 * s ∨ 192 * s + 192 ≤ i) → J 141 i = I 141 i) → Ev l g mX12_isSpread (d + 3) 0 0 Z J P 127 [vA 131, vI s, vI y, vI e, vI (e / 24), vI (e % 24)] [] (QM (fun r I' => PQ α s (bt I s) (bt I' s) r ∧ (∀ u v w, Ed α u v w → bt I' s v ≤ bt I s u + w) ∧ (∀ a, a ≠ 141 → I' a = I a) ∧ ∀ i, (i < 192 * s ∨ 192 * s + 192 ≤ i) → I' 141 i = I 141 i) Z P) := by
          intro y J hq hcu hpd rR rL fr1 fr2
          have hVJ : VM J α := hV.fr (fr1 133 (by omega)) (fr1 134 (by omega)) (fr1 135 (by omega)) (fr1 136 (by omega))
          have v0 : J 133 0 = α 0 0 := hVJ.1.1
          have v1 : J 133 1 = α 0 1 := hVJ.1.2.1
          have hbd := PQ.bd hW hle hq
          have hy := hq.2.2.1
          have m3 : J 134 (3 * (e / 24) + 2) = α 3 (e / 24) := (hVJ.2.1 (e / 24) hg3.1 hg1).2.2
          refine ev_iload_4 127 dX12_isSpread_127 ?_
          refine ev_iconst 129 dX12_isSpread_129 ⟨by decide, by decide⟩ ?_
          refine ev_iadd 130 dX12_isSpread_130 ⟨by omega, by omega⟩ ?_
          refine ev_aload_0 131 dX12_isSpread_131 ?_
          refine ev_getA 132 3 dX12_isSpread_132 fa_X12_13 (kd_131 hM) (pr_131_3 hN) rfl ?_
          refine ev_iconst 135 dX12_isSpread_135 ⟨by decide, by decide⟩ ?_
          refine ev_iald 136 dX12_isSpread_136 (kd_133 hM) ⟨by omega, by have := (ln_133 hM); omega⟩ ?_
          try simp only [v1, m3]
          refine ev_icmp_ge 137 164 dX12_isSpread_137 rfl (fun h137 => ?_) (fun h137 => ?_)
          · refine ev_iload_2 164 dX12_isSpread_164 ?_
            refine ev_if_eq 165 172 dX12_isSpread_165 rfl (fun h165 => ?_) (fun h165 => ?_)
            · refine ev_iconst 172 dX12_isSpread_172 ⟨by decide, by decide⟩ ?_
              first
                | exact n173 1 _ _ (p1 1 (Or.inr rfl) (by omega)) p4 (fun u v w z1 z2 => Int.le_trans (p2 v (gr_192 hW z1.2.1.1).1 (gr_192 hW z1.2.1.1).2) (hpd u v w z1 z2)) (fun z => Int.le_trans (p2 _ (ed_r hW hgr).1.1 (ed_r hW hgr).1.2) (rR z)) (fun z => Int.le_trans (p2 _ (ed_l hW hgr).1.1 (ed_l hW hgr).1.2) (rL z)) (fun _ => p3) (fun a z => (p5 a z).trans (fr1 a z)) (fun i z => (p6 i z).trans (fr2 i z))
                | exact n173 0 _ _ (p1 0 (Or.inl rfl) (by omega)) p4 (fun u v w z1 z2 => Int.le_trans (p2 v (gr_192 hW z1.2.1.1).1 (gr_192 hW z1.2.1.1).2) (hpd u v w z1 z2)) (fun z => Int.le_trans (p2 _ (ed_r hW hgr).1.1 (ed_r hW hgr).1.2) (rR z)) (fun z => Int.le_trans (p2 _ (ed_l hW hgr).1.1 (ed_l hW hgr).1.2) (rL z)) (fun _ => p3) (fun a z => (p5 a z).trans (fr1 a z)) (fun i z => (p6 i z).trans (fr2 i z))
                | exact n173 1 _ J (by rw [show (1 : Int) = y by omega]; exact hq) hcu hpd rR rL (fun z => by omega) fr1 fr2
                | exact n173 0 _ J (by rw [show (0 : Int) = y by omega]; exact hq) hcu hpd rR rL (fun z => by omega) fr1 fr2
            · refine ev_iconst 168 dX12_isSpread_168 ⟨by decide, by decide⟩ ?_
              refine ev_goto 169 173 dX12_isSpread_169 rfl ?_
              first
                | exact n173 1 _ _ (p1 1 (Or.inr rfl) (by omega)) p4 (fun u v w z1 z2 => Int.le_trans (p2 v (gr_192 hW z1.2.1.1).1 (gr_192 hW z1.2.1.1).2) (hpd u v w z1 z2)) (fun z => Int.le_trans (p2 _ (ed_r hW hgr).1.1 (ed_r hW hgr).1.2) (rR z)) (fun z => Int.le_trans (p2 _ (ed_l hW hgr).1.1 (ed_l hW hgr).1.2) (rL z)) (fun _ => p3) (fun a z => (p5 a z).trans (fr1 a z)) (fun i z => (p6 i z).trans (fr2 i z))
                | exact n173 0 _ _ (p1 0 (Or.inl rfl) (by omega)) p4 (fun u v w z1 z2 => Int.le_trans (p2 v (gr_192 hW z1.2.1.1).1 (gr_192 hW z1.2.1.1).2) (hpd u v w z1 z2)) (fun z => Int.le_trans (p2 _ (ed_r hW hgr).1.1 (ed_r hW hgr).1.2) (rR z)) (fun z => Int.le_trans (p2 _ (ed_l hW hgr).1.1 (ed_l hW hgr).1.2) (rL z)) (fun _ => p3) (fun a z => (p5 a z).trans (fr1 a z)) (fun i z => (p6 i z).trans (fr2 i z))
                | exact n173 1 _ J (by rw [show (1 : Int) = y by omega]; exact hq) hcu hpd rR rL (fun z => by omega) fr1 fr2
                | exact n173 0 _ J (by rw [show (0 : Int) = y by omega]; exact hq) hcu hpd rR rL (fun z => by omega) fr1 fr2
          · refine ev_aload_0 140 dX12_isSpread_140 ?_
            refine ev_iload_1 141 dX12_isSpread_141 ?_
            refine ev_iload_3 142 dX12_isSpread_142 ?_
            refine ev_iload_3 143 dX12_isSpread_143 ?_
            refine ev_bipush 144 dX12_isSpread_144 ⟨by decide, by decide⟩ ?_
            refine ev_iadd 146 dX12_isSpread_146 ⟨by omega, by omega⟩ ?_
            refine ev_aload_0 147 dX12_isSpread_147 ?_
            refine ev_getA 148 4 dX12_isSpread_148 fa_X12_17 (kd_131 hM) (pr_131_4 hN) rfl ?_
            refine ev_iconst 151 dX12_isSpread_151 ⟨by decide, by decide⟩ ?_
            refine ev_iload_4 152 dX12_isSpread_152 ?_
            refine ev_imul 154 dX12_isSpread_154 ⟨by omega, by omega⟩ ?_
            refine ev_iconst 155 dX12_isSpread_155 ⟨by decide, by decide⟩ ?_
            refine ev_iadd 156 dX12_isSpread_156 ⟨by omega, by omega⟩ ?_
            refine ev_iald 157 dX12_isSpread_157 (kd_134 hM) ⟨by omega, by have := (ln_134 hM); omega⟩ ?_
            try simp only [v1, m3]
            refine ev_cVm_4 158 dX12_isSpread_158 kmX12_isSooner lk_X12_186 (kd_131 hM) (m_isSooner hM hN hVJ hW hs (by omega) (by omega) (by omega) (hbd _ (by omega) (by omega))) rfl rfl (fun x158 I158 f158 => ?_)
            obtain ⟨p0, p1, p2, p3, p4, p5, p6⟩ := push hq hv (by omega) hcu (ed_d hgr) (by omega) (by omega) f158
            refine ev_zne 161 168 dX12_isSpread_161 rfl (fun h161 => ?_) (fun h161 => ?_)
            · refine ev_iconst 168 dX12_isSpread_168 ⟨by decide, by decide⟩ ?_
              refine ev_goto 169 173 dX12_isSpread_169 rfl ?_
              first
                | exact n173 1 _ _ (p1 1 (Or.inr rfl) (by omega)) p4 (fun u v w z1 z2 => Int.le_trans (p2 v (gr_192 hW z1.2.1.1).1 (gr_192 hW z1.2.1.1).2) (hpd u v w z1 z2)) (fun z => Int.le_trans (p2 _ (ed_r hW hgr).1.1 (ed_r hW hgr).1.2) (rR z)) (fun z => Int.le_trans (p2 _ (ed_l hW hgr).1.1 (ed_l hW hgr).1.2) (rL z)) (fun _ => p3) (fun a z => (p5 a z).trans (fr1 a z)) (fun i z => (p6 i z).trans (fr2 i z))
                | exact n173 0 _ _ (p1 0 (Or.inl rfl) (by omega)) p4 (fun u v w z1 z2 => Int.le_trans (p2 v (gr_192 hW z1.2.1.1).1 (gr_192 hW z1.2.1.1).2) (hpd u v w z1 z2)) (fun z => Int.le_trans (p2 _ (ed_r hW hgr).1.1 (ed_r hW hgr).1.2) (rR z)) (fun z => Int.le_trans (p2 _ (ed_l hW hgr).1.1 (ed_l hW hgr).1.2) (rL z)) (fun _ => p3) (fun a z => (p5 a z).trans (fr1 a z)) (fun i z => (p6 i z).trans (fr2 i z))
                | exact n173 1 _ J (by rw [show (1 : Int) = y by omega]; exact hq) hcu hpd rR rL (fun z => by omega) fr1 fr2
                | exact n173 0 _ J (by rw [show (0 : Int) = y by omega]; exact hq) hcu hpd rR rL (fun z => by omega) fr1 fr2
            · refine ev_iload_2 164 dX12_isSpread_164 ?_
              refine ev_if_eq 165 172 dX12_isSpread_165 rfl (fun h165 => ?_) (fun h165 => ?_)
              · refine ev_iconst 172 dX12_isSpread_172 ⟨by decide, by decide⟩ ?_
                first
                  | exact n173 1 _ _ (p1 1 (Or.inr rfl) (by omega)) p4 (fun u v w z1 z2 => Int.le_trans (p2 v (gr_192 hW z1.2.1.1).1 (gr_192 hW z1.2.1.1).2) (hpd u v w z1 z2)) (fun z => Int.le_trans (p2 _ (ed_r hW hgr).1.1 (ed_r hW hgr).1.2) (rR z)) (fun z => Int.le_trans (p2 _ (ed_l hW hgr).1.1 (ed_l hW hgr).1.2) (rL z)) (fun _ => p3) (fun a z => (p5 a z).trans (fr1 a z)) (fun i z => (p6 i z).trans (fr2 i z))
                  | exact n173 0 _ _ (p1 0 (Or.inl rfl) (by omega)) p4 (fun u v w z1 z2 => Int.le_trans (p2 v (gr_192 hW z1.2.1.1).1 (gr_192 hW z1.2.1.1).2) (hpd u v w z1 z2)) (fun z => Int.le_trans (p2 _ (ed_r hW hgr).1.1 (ed_r hW hgr).1.2) (rR z)) (fun z => Int.le_trans (p2 _ (ed_l hW hgr).1.1 (ed_l hW hgr).1.2) (rL z)) (fun _ => p3) (fun a z => (p5 a z).trans (fr1 a z)) (fun i z => (p6 i z).trans (fr2 i z))
                  | exact n173 1 _ J (by rw [show (1 : Int) = y by omega]; exact hq) hcu hpd rR rL (fun z => by omega) fr1 fr2
                  | exact n173 0 _ J (by rw [show (0 : Int) = y by omega]; exact hq) hcu hpd rR rL (fun z => by omega) fr1 fr2
              · refine ev_iconst 168 dX12_isSpread_168 ⟨by decide, by decide⟩ ?_
                refine ev_goto 169 173 dX12_isSpread_169 rfl ?_
                first
                  | exact n173 1 _ _ (p1 1 (Or.inr rfl) (by omega)) p4 (fun u v w z1 z2 => Int.le_trans (p2 v (gr_192 hW z1.2.1.1).1 (gr_192 hW z1.2.1.1).2) (hpd u v w z1 z2)) (fun z => Int.le_trans (p2 _ (ed_r hW hgr).1.1 (ed_r hW hgr).1.2) (rR z)) (fun z => Int.le_trans (p2 _ (ed_l hW hgr).1.1 (ed_l hW hgr).1.2) (rL z)) (fun _ => p3) (fun a z => (p5 a z).trans (fr1 a z)) (fun i z => (p6 i z).trans (fr2 i z))
                  | exact n173 0 _ _ (p1 0 (Or.inl rfl) (by omega)) p4 (fun u v w z1 z2 => Int.le_trans (p2 v (gr_192 hW z1.2.1.1).1 (gr_192 hW z1.2.1.1).2) (hpd u v w z1 z2)) (fun z => Int.le_trans (p2 _ (ed_r hW hgr).1.1 (ed_r hW hgr).1.2) (rR z)) (fun z => Int.le_trans (p2 _ (ed_l hW hgr).1.1 (ed_l hW hgr).1.2) (rL z)) (fun _ => p3) (fun a z => (p5 a z).trans (fr1 a z)) (fun i z => (p6 i z).trans (fr2 i z))
                  | exact n173 1 _ J (by rw [show (1 : Int) = y by omega]; exact hq) hcu hpd rR rL (fun z => by omega) fr1 fr2
                  | exact n173 0 _ J (by rw [show (0 : Int) = y by omega]; exact hq) hcu hpd rR rL (fun z => by omega) fr1 fr2
        have n126 : ∀ (y y0 : Int) (J : It), PQ α s (bt I s) (bt J s) y → bt J s e < 100000 → (∀ u v w, Ed α u v w → u < e → bt J s v ≤ bt I s u + w) → (op α (24 * (e / 24) + (e % 24 + 1) % α 0 0) → bt J s (24 * (e / 24) + (e % 24 + 1) % α 0 0) ≤ bt I s e + 1) → (op α (24 * (e / 24) + (e % 24 + α 0 0 - 1) % α 0 0) → bt J s (24 * (e / 24) + (e % 24 + α 0 0 - 1) % α 0 0) ≤ bt I s e + 1) → (∀ a, a ≠ 141 → J a = I a) → (∀ i, (i < 192 * s ∨ 192 * s + 192 ≤ i) → J 141 i = I 141 i) → Ev l g mX12_isSpread (d + 3) 0 0 Z J P 126 [vA 131, vI s, vI y0, vI e, vI (e / 24), vI (e % 24)] [vI y] (QM (fun r I' => PQ α s (bt I s) (bt I' s) r ∧ (∀ u v w, Ed α u v w → bt I' s v ≤ bt I s u + w) ∧ (∀ a, a ≠ 141 → I' a = I a) ∧ ∀ i, (i < 192 * s ∨ 192 * s + 192 ≤ i) → I' 141 i = I 141 i) Z P) := by
          intro y y0 J hq hcu hpd rR rL fr1 fr2
          refine ev_istore_2 126 dX12_isSpread_126 rfl rfl ?_
          exact n127 y J hq hcu hpd rR rL fr1 fr2
        have n83 : ∀ (y : Int) (J : It), PQ α s (bt I s) (bt J s) y → bt J s e < 100000 → (∀ u v w, Ed α u v w → u < e → bt J s v ≤ bt I s u + w) → (op α (24 * (e / 24) + (e % 24 + 1) % α 0 0) → bt J s (24 * (e / 24) + (e % 24 + 1) % α 0 0) ≤ bt I s e + 1) → (∀ a, a ≠ 141 → J a = I a) → (∀ i, (i < 192 * s ∨ 192 * s + 192 ≤ i) → J 141 i = I 141 i) → Ev l g mX12_isSpread (d + 3) 0 0 Z J P 83 [vA 131, vI s, vI y, vI e, vI (e / 24), vI (e % 24)] [] (QM (fun r I' => PQ α s (bt I s) (bt I' s) r ∧ (∀ u v w, Ed α u v w → bt I' s v ≤ bt I s u + w) ∧ (∀ a, a ≠ 141 → I' a = I a) ∧ ∀ i, (i < 192 * s ∨ 192 * s + 192 ≤ i) → I' 141 i = I 141 i) Z P) := by
          intro y J hq hcu hpd rR fr1 fr2
          have hVJ : VM J α := hV.fr (fr1 133 (by omega)) (fr1 134 (by omega)) (fr1 135 (by omega)) (fr1 136 (by omega))
          have v0 : J 133 0 = α 0 0 := hVJ.1.1
          have v1 : J 133 1 = α 0 1 := hVJ.1.2.1
          have hbd := PQ.bd hW hle hq
          have hy := hq.2.2.1
          have tl : (e % 24 + α 0 0 - 1).tmod (α 0 0) = (e % 24 + α 0 0 - 1) % α 0 0 := Int.tmod_eq_emod_of_nonneg (by omega)
          have eL := ed_l hW hgr
          refine ev_aload_0 83 dX12_isSpread_83 ?_
          refine ev_iload_1 84 dX12_isSpread_84 ?_
          refine ev_iload_3 85 dX12_isSpread_85 ?_
          refine ev_bipush 86 dX12_isSpread_86 ⟨by decide, by decide⟩ ?_
          refine ev_iload_4 88 dX12_isSpread_88 ?_
          refine ev_imul 90 dX12_isSpread_90 ⟨by omega, by omega⟩ ?_
          refine ev_iload_5 91 dX12_isSpread_91 ?_
          refine ev_aload_0 93 dX12_isSpread_93 ?_
          refine ev_getA 94 3 dX12_isSpread_94 fa_X12_13 (kd_131 hM) (pr_131_3 hN) rfl ?_
          refine ev_iconst 97 dX12_isSpread_97 ⟨by decide, by decide⟩ ?_
          refine ev_iald 98 dX12_isSpread_98 (kd_133 hM) ⟨by omega, by have := (ln_133 hM); omega⟩ ?_
          try simp only [v0]
          refine ev_iadd 99 dX12_isSpread_99 ⟨by omega, by omega⟩ ?_
          refine ev_iconst 100 dX12_isSpread_100 ⟨by decide, by decide⟩ ?_
          refine ev_isub 101 dX12_isSpread_101 ⟨by omega, by omega⟩ ?_
          refine ev_aload_0 102 dX12_isSpread_102 ?_
          refine ev_getA 103 3 dX12_isSpread_103 fa_X12_13 (kd_131 hM) (pr_131_3 hN) rfl ?_
          refine ev_iconst 106 dX12_isSpread_106 ⟨by decide, by decide⟩ ?_
          refine ev_iald 107 dX12_isSpread_107 (kd_133 hM) ⟨by omega, by have := (ln_133 hM); omega⟩ ?_
          try simp only [v0]
          refine ev_irem 108 dX12_isSpread_108 (by omega) ?_
          rw [tl]
          refine ev_iadd 109 dX12_isSpread_109 ⟨by omega, by omega⟩ ?_
          refine ev_iconst 110 dX12_isSpread_110 ⟨by decide, by decide⟩ ?_
          refine ev_cVm_4 111 dX12_isSpread_111 kmX12_isSooner lk_X12_186 (kd_131 hM) (m_isSooner hM hN hVJ hW hs (by omega) eL.1 (by omega) (hbd _ (by omega) (by omega))) rfl rfl (fun x111 I111 f111 => ?_)
          obtain ⟨p0, p1, p2, p3, p4, p5, p6⟩ := push hq hv eL.1 hcu eL.2.2 eL.2.1 (by omega) f111
          refine ev_zne 114 121 dX12_isSpread_114 rfl (fun h114 => ?_) (fun h114 => ?_)
          · refine ev_iconst 121 dX12_isSpread_121 ⟨by decide, by decide⟩ ?_
            refine ev_goto 122 126 dX12_isSpread_122 rfl ?_
            first
              | exact n126 1 _ _ (p1 1 (Or.inr rfl) (by omega)) p4 (fun u v w z1 z2 => Int.le_trans (p2 v (gr_192 hW z1.2.1.1).1 (gr_192 hW z1.2.1.1).2) (hpd u v w z1 z2)) (fun z => Int.le_trans (p2 _ (ed_r hW hgr).1.1 (ed_r hW hgr).1.2) (rR z)) p3 (fun a z => (p5 a z).trans (fr1 a z)) (fun i z => (p6 i z).trans (fr2 i z))
              | exact n126 0 _ _ (p1 0 (Or.inl rfl) (by omega)) p4 (fun u v w z1 z2 => Int.le_trans (p2 v (gr_192 hW z1.2.1.1).1 (gr_192 hW z1.2.1.1).2) (hpd u v w z1 z2)) (fun z => Int.le_trans (p2 _ (ed_r hW hgr).1.1 (ed_r hW hgr).1.2) (rR z)) p3 (fun a z => (p5 a z).trans (fr1 a z)) (fun i z => (p6 i z).trans (fr2 i z))
          · refine ev_iload_2 117 dX12_isSpread_117 ?_
            refine ev_if_eq 118 125 dX12_isSpread_118 rfl (fun h118 => ?_) (fun h118 => ?_)
            · refine ev_iconst 125 dX12_isSpread_125 ⟨by decide, by decide⟩ ?_
              first
                | exact n126 1 _ _ (p1 1 (Or.inr rfl) (by omega)) p4 (fun u v w z1 z2 => Int.le_trans (p2 v (gr_192 hW z1.2.1.1).1 (gr_192 hW z1.2.1.1).2) (hpd u v w z1 z2)) (fun z => Int.le_trans (p2 _ (ed_r hW hgr).1.1 (ed_r hW hgr).1.2) (rR z)) p3 (fun a z => (p5 a z).trans (fr1 a z)) (fun i z => (p6 i z).trans (fr2 i z))
                | exact n126 0 _ _ (p1 0 (Or.inl rfl) (by omega)) p4 (fun u v w z1 z2 => Int.le_trans (p2 v (gr_192 hW z1.2.1.1).1 (gr_192 hW z1.2.1.1).2) (hpd u v w z1 z2)) (fun z => Int.le_trans (p2 _ (ed_r hW hgr).1.1 (ed_r hW hgr).1.2) (rR z)) p3 (fun a z => (p5 a z).trans (fr1 a z)) (fun i z => (p6 i z).trans (fr2 i z))
            · refine ev_iconst 121 dX12_isSpread_121 ⟨by decide, by decide⟩ ?_
              refine ev_goto 122 126 dX12_isSpread_122 rfl ?_
              first
                | exact n126 1 _ _ (p1 1 (Or.inr rfl) (by omega)) p4 (fun u v w z1 z2 => Int.le_trans (p2 v (gr_192 hW z1.2.1.1).1 (gr_192 hW z1.2.1.1).2) (hpd u v w z1 z2)) (fun z => Int.le_trans (p2 _ (ed_r hW hgr).1.1 (ed_r hW hgr).1.2) (rR z)) p3 (fun a z => (p5 a z).trans (fr1 a z)) (fun i z => (p6 i z).trans (fr2 i z))
                | exact n126 0 _ _ (p1 0 (Or.inl rfl) (by omega)) p4 (fun u v w z1 z2 => Int.le_trans (p2 v (gr_192 hW z1.2.1.1).1 (gr_192 hW z1.2.1.1).2) (hpd u v w z1 z2)) (fun z => Int.le_trans (p2 _ (ed_r hW hgr).1.1 (ed_r hW hgr).1.2) (rR z)) p3 (fun a z => (p5 a z).trans (fr1 a z)) (fun i z => (p6 i z).trans (fr2 i z))
        have n82 : ∀ (y y0 : Int) (J : It), PQ α s (bt I s) (bt J s) y → bt J s e < 100000 → (∀ u v w, Ed α u v w → u < e → bt J s v ≤ bt I s u + w) → (op α (24 * (e / 24) + (e % 24 + 1) % α 0 0) → bt J s (24 * (e / 24) + (e % 24 + 1) % α 0 0) ≤ bt I s e + 1) → (∀ a, a ≠ 141 → J a = I a) → (∀ i, (i < 192 * s ∨ 192 * s + 192 ≤ i) → J 141 i = I 141 i) → Ev l g mX12_isSpread (d + 3) 0 0 Z J P 82 [vA 131, vI s, vI y0, vI e, vI (e / 24), vI (e % 24)] [vI y] (QM (fun r I' => PQ α s (bt I s) (bt I' s) r ∧ (∀ u v w, Ed α u v w → bt I' s v ≤ bt I s u + w) ∧ (∀ a, a ≠ 141 → I' a = I a) ∧ ∀ i, (i < 192 * s ∨ 192 * s + 192 ≤ i) → I' 141 i = I 141 i) Z P) := by
          intro y y0 J hq hcu hpd rR fr1 fr2
          refine ev_istore_2 82 dX12_isSpread_82 rfl rfl ?_
          exact n83 y J hq hcu hpd rR fr1 fr2
        have hVJ : VM J α := hV.fr (fr1 133 (by omega)) (fr1 134 (by omega)) (fr1 135 (by omega)) (fr1 136 (by omega))
        have v0 : J 133 0 = α 0 0 := hVJ.1.1
        have v1 : J 133 1 = α 0 1 := hVJ.1.2.1
        have hbd := PQ.bd hW hle hq
        have hy := hq.2.2.1
        have hcu := hc
        have tr : (e % 24 + 1).tmod (α 0 0) = (e % 24 + 1) % α 0 0 := Int.tmod_eq_emod_of_nonneg (by omega)
        have eR := ed_r hW hgr
        have hc2 : J 141 (192 * s + e) < 100000 := hc
        refine ev_iload_3 4 dX12_isSpread_4 ?_
        refine ev_bipush 5 dX12_isSpread_5 ⟨by decide, by decide⟩ ?_
        refine ev_aload_0 7 dX12_isSpread_7 ?_
        refine ev_getA 8 3 dX12_isSpread_8 fa_X12_13 (kd_131 hM) (pr_131_3 hN) rfl ?_
        refine ev_iconst 11 dX12_isSpread_11 ⟨by decide, by decide⟩ ?_
        refine ev_iald 12 dX12_isSpread_12 (kd_133 hM) ⟨by omega, by have := (ln_133 hM); omega⟩ ?_
        try simp only [v0, v1]
        refine ev_imul 13 dX12_isSpread_13 ⟨by omega, by omega⟩ ?_
        refine ev_icmp_ge 14 219 dX12_isSpread_14 rfl (fun h14 => ?_) (fun h14 => ?_)
        · exfalso; omega
        · refine ev_aload_0 17 dX12_isSpread_17 ?_
          refine ev_getA 18 15 dX12_isSpread_18 fa_X12_39 (kd_131 hM) (pr_131_15 hN) rfl ?_
          refine ev_sipush 21 dX12_isSpread_21 ⟨by decide, by decide⟩ ?_
          refine ev_iload_1 24 dX12_isSpread_24 ?_
          refine ev_imul 25 dX12_isSpread_25 ⟨by omega, by omega⟩ ?_
          refine ev_iload_3 26 dX12_isSpread_26 ?_
          refine ev_iadd 27 dX12_isSpread_27 ⟨by omega, by omega⟩ ?_
          refine ev_iald 28 dX12_isSpread_28 (kd_141 hM) ⟨by omega, by have := (ln_141 hM); omega⟩ ?_
          try simp only [v0, v1]
          refine ev_ldc 29 dX12_isSpread_29 kc_X12_185 ⟨by decide, by decide⟩ ?_
          refine ev_icmp_ge 31 213 dX12_isSpread_31 rfl (fun h31 => ?_) (fun h31 => ?_)
          · exfalso; omega
          · refine ev_iload_3 34 dX12_isSpread_34 ?_
            refine ev_bipush 35 dX12_isSpread_35 ⟨by decide, by decide⟩ ?_
            refine ev_idiv 37 dX12_isSpread_37 (by omega) (by rw [ed24]; exact ⟨by omega, by omega⟩) ?_
            rw [ed24]
            refine ev_istore_4 38 dX12_isSpread_38 rfl rfl ?_
            refine ev_iload_3 40 dX12_isSpread_40 ?_
            refine ev_bipush 41 dX12_isSpread_41 ⟨by decide, by decide⟩ ?_
            refine ev_irem 43 dX12_isSpread_43 (by omega) ?_
            rw [em24]
            refine ev_istore_5 44 dX12_isSpread_44 rfl rfl ?_
            refine ev_aload_0 46 dX12_isSpread_46 ?_
            refine ev_iload_1 47 dX12_isSpread_47 ?_
            refine ev_iload_3 48 dX12_isSpread_48 ?_
            refine ev_bipush 49 dX12_isSpread_49 ⟨by decide, by decide⟩ ?_
            refine ev_iload_4 51 dX12_isSpread_51 ?_
            refine ev_imul 53 dX12_isSpread_53 ⟨by omega, by omega⟩ ?_
            refine ev_iload_5 54 dX12_isSpread_54 ?_
            refine ev_iconst 56 dX12_isSpread_56 ⟨by decide, by decide⟩ ?_
            refine ev_iadd 57 dX12_isSpread_57 ⟨by omega, by omega⟩ ?_
            refine ev_aload_0 58 dX12_isSpread_58 ?_
            refine ev_getA 59 3 dX12_isSpread_59 fa_X12_13 (kd_131 hM) (pr_131_3 hN) rfl ?_
            refine ev_iconst 62 dX12_isSpread_62 ⟨by decide, by decide⟩ ?_
            refine ev_iald 63 dX12_isSpread_63 (kd_133 hM) ⟨by omega, by have := (ln_133 hM); omega⟩ ?_
            try simp only [v0, v1]
            refine ev_irem 64 dX12_isSpread_64 (by omega) ?_
            rw [tr]
            refine ev_iadd 65 dX12_isSpread_65 ⟨by omega, by omega⟩ ?_
            refine ev_iconst 66 dX12_isSpread_66 ⟨by decide, by decide⟩ ?_
            refine ev_cVm_4 67 dX12_isSpread_67 kmX12_isSooner lk_X12_186 (kd_131 hM) (m_isSooner hM hN hVJ hW hs (by omega) eR.1 (by omega) (hbd _ (by omega) (by omega))) rfl rfl (fun x67 I67 f67 => ?_)
            obtain ⟨p0, p1, p2, p3, p4, p5, p6⟩ := push hq hv eR.1 hcu eR.2.2 eR.2.1 (by omega) f67
            refine ev_zne 70 77 dX12_isSpread_70 rfl (fun h70 => ?_) (fun h70 => ?_)
            · refine ev_iconst 77 dX12_isSpread_77 ⟨by decide, by decide⟩ ?_
              refine ev_goto 78 82 dX12_isSpread_78 rfl ?_
              first
                | exact n82 1 _ _ (p1 1 (Or.inr rfl) (by omega)) p4 (fun u v w z1 z2 => Int.le_trans (p2 v (gr_192 hW z1.2.1.1).1 (gr_192 hW z1.2.1.1).2) (hpd u v w z1 z2)) p3 (fun a z => (p5 a z).trans (fr1 a z)) (fun i z => (p6 i z).trans (fr2 i z))
                | exact n82 0 _ _ (p1 0 (Or.inl rfl) (by omega)) p4 (fun u v w z1 z2 => Int.le_trans (p2 v (gr_192 hW z1.2.1.1).1 (gr_192 hW z1.2.1.1).2) (hpd u v w z1 z2)) p3 (fun a z => (p5 a z).trans (fr1 a z)) (fun i z => (p6 i z).trans (fr2 i z))
            · refine ev_iload_2 73 dX12_isSpread_73 ?_
              refine ev_if_eq 74 81 dX12_isSpread_74 rfl (fun h74 => ?_) (fun h74 => ?_)
              · refine ev_iconst 81 dX12_isSpread_81 ⟨by decide, by decide⟩ ?_
                first
                  | exact n82 1 _ _ (p1 1 (Or.inr rfl) (by omega)) p4 (fun u v w z1 z2 => Int.le_trans (p2 v (gr_192 hW z1.2.1.1).1 (gr_192 hW z1.2.1.1).2) (hpd u v w z1 z2)) p3 (fun a z => (p5 a z).trans (fr1 a z)) (fun i z => (p6 i z).trans (fr2 i z))
                  | exact n82 0 _ _ (p1 0 (Or.inl rfl) (by omega)) p4 (fun u v w z1 z2 => Int.le_trans (p2 v (gr_192 hW z1.2.1.1).1 (gr_192 hW z1.2.1.1).2) (hpd u v w z1 z2)) p3 (fun a z => (p5 a z).trans (fr1 a z)) (fun i z => (p6 i z).trans (fr2 i z))
              · refine ev_iconst 77 dX12_isSpread_77 ⟨by decide, by decide⟩ ?_
                refine ev_goto 78 82 dX12_isSpread_78 rfl ?_
                first
                  | exact n82 1 _ _ (p1 1 (Or.inr rfl) (by omega)) p4 (fun u v w z1 z2 => Int.le_trans (p2 v (gr_192 hW z1.2.1.1).1 (gr_192 hW z1.2.1.1).2) (hpd u v w z1 z2)) p3 (fun a z => (p5 a z).trans (fr1 a z)) (fun i z => (p6 i z).trans (fr2 i z))
                  | exact n82 0 _ _ (p1 0 (Or.inl rfl) (by omega)) p4 (fun u v w z1 z2 => Int.le_trans (p2 v (gr_192 hW z1.2.1.1).1 (gr_192 hW z1.2.1.1).2) (hpd u v w z1 z2)) p3 (fun a z => (p5 a z).trans (fr1 a z)) (fun i z => (p6 i z).trans (fr2 i z))
      · have hc2 : ¬ J 141 (192 * s + e) < 100000 := hc
        have h2 : J 141 (192 * s + e) ≤ bt I s e := hq.2.1 e hv.1 hv.2
        refine ev_iload_3 4 dX12_isSpread_4 ?_
        refine ev_bipush 5 dX12_isSpread_5 ⟨by decide, by decide⟩ ?_
        refine ev_aload_0 7 dX12_isSpread_7 ?_
        refine ev_getA 8 3 dX12_isSpread_8 fa_X12_13 (kd_131 hM) (pr_131_3 hN) rfl ?_
        refine ev_iconst 11 dX12_isSpread_11 ⟨by decide, by decide⟩ ?_
        refine ev_iald 12 dX12_isSpread_12 (kd_133 hM) ⟨by omega, by have := (ln_133 hM); omega⟩ ?_
        try simp only [v1J]
        refine ev_imul 13 dX12_isSpread_13 ⟨by omega, by omega⟩ ?_
        refine ev_icmp_ge 14 219 dX12_isSpread_14 rfl (fun h14 => ?_) (fun h14 => ?_)
        · exfalso; omega
        · refine ev_aload_0 17 dX12_isSpread_17 ?_
          refine ev_getA 18 15 dX12_isSpread_18 fa_X12_39 (kd_131 hM) (pr_131_15 hN) rfl ?_
          refine ev_sipush 21 dX12_isSpread_21 ⟨by decide, by decide⟩ ?_
          refine ev_iload_1 24 dX12_isSpread_24 ?_
          refine ev_imul 25 dX12_isSpread_25 ⟨by omega, by omega⟩ ?_
          refine ev_iload_3 26 dX12_isSpread_26 ?_
          refine ev_iadd 27 dX12_isSpread_27 ⟨by omega, by omega⟩ ?_
          refine ev_iald 28 dX12_isSpread_28 (kd_141 hM) ⟨by omega, by have := (ln_141 hM); omega⟩ ?_
          try simp only [v1J]
          refine ev_ldc 29 dX12_isSpread_29 kc_X12_185 ⟨by decide, by decide⟩ ?_
          refine ev_icmp_ge 31 213 dX12_isSpread_31 rfl (fun h31 => ?_) (fun h31 => ?_)
          · refine n213 y J _ _ hq (fun u v w z1 z2 => ?_) fr1 fr2
            by_cases q : u = e
            · subst q
              have z3 := gr_192 hW z1.2.1.1
              have z4 := Int.le_trans (hq.2.1 v z3.1 z3.2) (hle v z3.1 z3.2)
              have z5 := (Ed_w hW z1).1
              omega
            · exact hpd u v w z1 (by omega)
          · exfalso; omega
  refine ev_iconst 0 dX12_isSpread_0 ⟨by decide, by decide⟩ ?_
  refine ev_istore_2 1 dX12_isSpread_1 rfl rfl ?_
  refine ev_iconst 2 dX12_isSpread_2 ⟨by decide, by decide⟩ ?_
  refine ev_istore_3 3 dX12_isSpread_3 rfl rfl ?_
  exact loop (24 * α 0 1).toNat 0 0 I _ _ (by omega) (by omega) ⟨hsd, fun _ _ _ => Int.le_refl _, Or.inl rfl, fun _ _ _ _ => rfl, fun z => by omega⟩ (fun u v w z1 z2 => by have := z1.1.1; omega) (fun _ _ => rfl) (fun _ _ => rfl)
