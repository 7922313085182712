/-! the reference: what it only reads -/
theorem RS.z {I : It} {α σ : Nat → Int → Int} (h : RS 0 I α σ) : RS (42 * 0) I α σ := by rw [show (42 * 0 : Int) = 0 by omega]; exact h
theorem RT.z {I : It} {α σ : Nat → Int → Int} (h : RT 0 I α σ) : RT (42 * 0) I α σ := by rw [show (42 * 0 : Int) = 0 by omega]; exact h
theorem cg_r (x : Int) : (x = -4 ∧ cg x = 0) ∨ (x ≠ -4 ∧ cg x = x + 1) := by
  unfold cg; split
  · exact Or.inl ⟨by assumption, rfl⟩
  · exact Or.inr ⟨by assumption, rfl⟩
theorem lvA_m {I : It} {α : Nat → Int → Int} (hV : VM I α) {t w : Int} (ht : 0 ≤ t ∧ t < α 0 1) (hw : 0 ≤ w ∧ w ≤ 2) : I 134 (3 * t + w) = lvA α t w := by
  obtain ⟨m1, m2, m3⟩ := hV.2.1 t ht.1 ht.2
  unfold lvA; rw [if_pos ht]
  rcases (show w = 0 ∨ w = 1 ∨ w = 2 by omega) with rfl | rfl | rfl
  · rw [show 3 * t + 0 = 3 * t by omega]; exact m1
  · exact m2
  · exact m3
def nmb (x : Int) : Int := if x = 116 then 4 else if x = 108 ∨ x = 103 then 3 else if x = 109 then 2 else if x = 110 then 1 else 0
/-- what a thing tells -/
def tlA (σ : Nat → Int → Int) (t w : Int) : Int := if w = 3 then σ 6 t else if w = 2 then σ 5 t else if w = 0 then σ 3 t else σ 4 t
/-- what is caught is where the town is; uncut towns lie apart -/
def CA (α σ : Nat → Int → Int) : Prop := ∀ j, 0 ≤ j → j < σ 0 1 → σ 6 j ≠ -4 → (0 ≤ σ 6 j ∧ σ 6 j < α 0 5) ∧ σ 4 j = σ 1 (σ 6 j)
def AP (α σ : Nat → Int → Int) : Prop := ∀ t u, 0 ≤ t → t < α 0 5 → 0 ≤ u → u < α 0 5 → σ 2 t = 0 → σ 2 u = 0 → α 4 t = α 4 u → σ 1 t = σ 1 u → t = u
theorem m_in {l : Launch} {g : Gt} {d : Nat} {Z : Zt} {I : It} {P : Pt'} (x lo hi : Int) : Mt l g mX12_in d 0 0 [vL x, vL lo, vL hi] Z I P (QP (b2 (lo ≤ x ∧ x ≤ hi)) Z I P) := by
  refine Mt.of kmX12_in (ls := [vL x, vX, vL lo, vX, vL hi, vX]) (fun _ => rfl) (fun _ => rfl) (okf_k (okf_x (okf_k (okf_x (okf_k (okf_x (okf_n rfl))))))) (fun hok => ?_)
  refine ev_lload_0 0 dX12_in_0 ?_
  refine ev_lload_2 1 dX12_in_1 ?_
  refine ev_lcmp 2 dX12_in_2 ?_
  refine ev_ifc_lt 3 17 dX12_in_3 rfl (fun h3 => ?_) (fun h3 => ?_)
  · refine ev_iconst 17 dX12_in_17 ⟨by decide, by decide⟩ ?_
    refine ev_zret 18 dX12_in_18 (by first | omega | exact b2_or _) ?_ rfl
    first | exact QP_of (b2_t (by omega)).symm | exact QP_of (b2_f (by omega)).symm
  · refine ev_lload_0 6 dX12_in_6 ?_
    refine ev_lload_4 7 dX12_in_7 ?_
    refine ev_lcmp 9 dX12_in_9 ?_
    refine ev_ifc_gt 10 17 dX12_in_10 rfl (fun h10 => ?_) (fun h10 => ?_)
    · refine ev_iconst 17 dX12_in_17 ⟨by decide, by decide⟩ ?_
      refine ev_zret 18 dX12_in_18 (by first | omega | exact b2_or _) ?_ rfl
      first | exact QP_of (b2_t (by omega)).symm | exact QP_of (b2_f (by omega)).symm
    · refine ev_iconst 13 dX12_in_13 ⟨by decide, by decide⟩ ?_
      refine ev_goto 14 18 dX12_in_14 rfl ?_
      refine ev_zret 18 dX12_in_18 (by first | omega | exact b2_or _) ?_ rfl
      first | exact QP_of (b2_t (by omega)).symm | exact QP_of (b2_f (by omega)).symm
theorem m_isLevel {l : Launch} {g : Gt} {d : Nat} {Z : Zt} {I : It} {P : Pt'} (hM : LayM Z) (hN : LayQ P) {α : Nat → Int → Int} (hV : VM I α) (hW : WF α) (x : Int) : Mt l g mX12_isLevel (d + 1) 0 0 [vA 131, vI x] Z I P (QP (b2 (0 ≤ x ∧ x < α 0 1)) Z I P) := by
  have v0 := hV.1.1
  have v1 := hV.1.2.1
  have v2 := hV.1.2.2.1
  have v3 := hV.1.2.2.2.1
  have v4 := hV.1.2.2.2.2
  have w0 := hW.1
  have w1 := hW.2.1
  have w5 := hW.2.2.1
  have w10 := hW.2.2.2.1
  refine Mt.of kmX12_isLevel (ls := [vA 131, vI x]) (fun _ => rfl) (fun _ => rfl) (okf_k (okf_k (okf_n rfl))) (fun hok => ?_)
  refine ev_iload_1 0 dX12_isLevel_0 ?_
  refine ev_i2l 1 dX12_isLevel_1 ?_
  refine ev_lconst0 2 dX12_isLevel_2 ?_
  refine ev_aload_0 3 dX12_isLevel_3 ?_
  refine ev_getA 4 3 dX12_isLevel_4 fa_X12_13 (kd_131 hM) (pr_131_3 hN) rfl ?_
  refine ev_iconst 7 dX12_isLevel_7 ⟨by decide, by decide⟩ ?_
  refine ev_iald 8 dX12_isLevel_8 (kd_133 hM) ⟨by omega, by have := (ln_133 hM); omega⟩ ?_
  try simp only [v0, v1, v2, v3, v4]
  refine ev_iconst 9 dX12_isLevel_9 ⟨by decide, by decide⟩ ?_
  refine ev_isub 10 dX12_isLevel_10 ⟨by omega, by omega⟩ ?_
  refine ev_i2l 11 dX12_isLevel_11 ?_
  refine ev_cSp_3 12 dX12_isLevel_12 kmX12_in lk_X12_62 (m_in _ _ _) rfl rfl ?_
  try simp only [v0, v1, v2, v3, v4]
  refine ev_zret 15 dX12_isLevel_15 (by first | omega | exact b2_or _) ?_ rfl
  exact QP_of (b2_c (by omega))
theorem m_isPlace {l : Launch} {g : Gt} {d : Nat} {Z : Zt} {I : It} {P : Pt'} (hM : LayM Z) (hN : LayQ P) {α : Nat → Int → Int} (hV : VM I α) (hW : WF α) (x : Int) : Mt l g mX12_isPlace (d + 1) 0 0 [vA 131, vI x] Z I P (QP (b2 (0 ≤ x ∧ x < α 0 0)) Z I P) := by
  have v0 := hV.1.1
  have v1 := hV.1.2.1
  have v2 := hV.1.2.2.1
  have v3 := hV.1.2.2.2.1
  have v4 := hV.1.2.2.2.2
  have w0 := hW.1
  have w1 := hW.2.1
  have w5 := hW.2.2.1
  have w10 := hW.2.2.2.1
  refine Mt.of kmX12_isPlace (ls := [vA 131, vI x]) (fun _ => rfl) (fun _ => rfl) (okf_k (okf_k (okf_n rfl))) (fun hok => ?_)
  refine ev_iload_1 0 dX12_isPlace_0 ?_
  refine ev_i2l 1 dX12_isPlace_1 ?_
  refine ev_lconst0 2 dX12_isPlace_2 ?_
  refine ev_aload_0 3 dX12_isPlace_3 ?_
  refine ev_getA 4 3 dX12_isPlace_4 fa_X12_13 (kd_131 hM) (pr_131_3 hN) rfl ?_
  refine ev_iconst 7 dX12_isPlace_7 ⟨by decide, by decide⟩ ?_
  refine ev_iald 8 dX12_isPlace_8 (kd_133 hM) ⟨by omega, by have := (ln_133 hM); omega⟩ ?_
  try simp only [v0, v1, v2, v3, v4]
  refine ev_iconst 9 dX12_isPlace_9 ⟨by decide, by decide⟩ ?_
  refine ev_isub 10 dX12_isPlace_10 ⟨by omega, by omega⟩ ?_
  refine ev_i2l 11 dX12_isPlace_11 ?_
  refine ev_cSp_3 12 dX12_isPlace_12 kmX12_in lk_X12_62 (m_in _ _ _) rfl rfl ?_
  try simp only [v0, v1, v2, v3, v4]
  refine ev_zret 15 dX12_isPlace_15 (by first | omega | exact b2_or _) ?_ rfl
  exact QP_of (b2_c (by omega))
theorem m_isTown {l : Launch} {g : Gt} {d : Nat} {Z : Zt} {I : It} {P : Pt'} (hM : LayM Z) (hN : LayQ P) {α : Nat → Int → Int} (hV : VM I α) (hW : WF α) (x : Int) : Mt l g mX12_isTown (d + 1) 0 0 [vA 131, vI x] Z I P (QP (b2 (0 ≤ x ∧ x < α 0 5)) Z I P) := by
  have v0 := hV.1.1
  have v1 := hV.1.2.1
  have v2 := hV.1.2.2.1
  have v3 := hV.1.2.2.2.1
  have v4 := hV.1.2.2.2.2
  have w0 := hW.1
  have w1 := hW.2.1
  have w5 := hW.2.2.1
  have w10 := hW.2.2.2.1
  refine Mt.of kmX12_isTown (ls := [vA 131, vI x]) (fun _ => rfl) (fun _ => rfl) (okf_k (okf_k (okf_n rfl))) (fun hok => ?_)
  refine ev_iload_1 0 dX12_isTown_0 ?_
  refine ev_i2l 1 dX12_isTown_1 ?_
  refine ev_lconst0 2 dX12_isTown_2 ?_
  refine ev_aload_0 3 dX12_isTown_3 ?_
  refine ev_getA 4 3 dX12_isTown_4 fa_X12_13 (kd_131 hM) (pr_131_3 hN) rfl ?_
  refine ev_iconst 7 dX12_isTown_7 ⟨by decide, by decide⟩ ?_
  refine ev_iald 8 dX12_isTown_8 (kd_133 hM) ⟨by omega, by have := (ln_133 hM); omega⟩ ?_
  try simp only [v0, v1, v2, v3, v4]
  refine ev_iconst 9 dX12_isTown_9 ⟨by decide, by decide⟩ ?_
  refine ev_isub 10 dX12_isTown_10 ⟨by omega, by omega⟩ ?_
  refine ev_i2l 11 dX12_isTown_11 ?_
  refine ev_cSp_3 12 dX12_isTown_12 kmX12_in lk_X12_62 (m_in _ _ _) rfl rfl ?_
  try simp only [v0, v1, v2, v3, v4]
  refine ev_zret 15 dX12_isTown_15 (by first | omega | exact b2_or _) ?_ rfl
  exact QP_of (b2_c (by omega))
theorem m_isThing {l : Launch} {g : Gt} {d : Nat} {Z : Zt} {I : It} {P : Pt'} (hM : LayM Z) (hN : LayQ P) {α : Nat → Int → Int} (hV : VM I α) (hW : WF α) (hn : 0 ≤ I 138 0 ∧ I 138 0 ≤ 7) (x : Int) : Mt l g mX12_isThing (d + 1) 0 0 [vA 131, vI x] Z I P (QP (b2 (0 ≤ x ∧ x < I 138 0)) Z I P) := by
  refine Mt.of kmX12_isThing (ls := [vA 131, vI x]) (fun _ => rfl) (fun _ => rfl) (okf_k (okf_k (okf_n rfl))) (fun hok => ?_)
  refine ev_iload_1 0 dX12_isThing_0 ?_
  refine ev_i2l 1 dX12_isThing_1 ?_
  refine ev_lconst0 2 dX12_isThing_2 ?_
  refine ev_aload_0 3 dX12_isThing_3 ?_
  refine ev_getA 4 8 dX12_isThing_4 fa_X12_29 (kd_131 hM) (pr_131_8 hN) rfl ?_
  refine ev_iconst 7 dX12_isThing_7 ⟨by decide, by decide⟩ ?_
  refine ev_iald 8 dX12_isThing_8 (kd_138 hM) ⟨by omega, by have := (ln_138 hM); omega⟩ ?_
  refine ev_iconst 9 dX12_isThing_9 ⟨by decide, by decide⟩ ?_
  refine ev_isub 10 dX12_isThing_10 ⟨by omega, by omega⟩ ?_
  refine ev_i2l 11 dX12_isThing_11 ?_
  refine ev_cSp_3 12 dX12_isThing_12 kmX12_in lk_X12_62 (m_in _ _ _) rfl rfl ?_
  refine ev_zret 15 dX12_isThing_15 (by first | omega | exact b2_or _) ?_ rfl
  exact QP_of (b2_c (by omega))
theorem m_isCut {l : Launch} {g : Gt} {d : Nat} {Z : Zt} {I : It} {P : Pt'} (hM : LayM Z) (hN : LayQ P) {α : Nat → Int → Int} (hV : VM I α) (hW : WF α) {σ : Nat → Int → Int} (hR : RT 0 I α σ) {t : Int} (ht : 0 ≤ t ∧ t < α 0 5) (hc : σ 2 t = 0 ∨ σ 2 t = 1) : Mt l g mX12_isCut d 0 0 [vA 131, vI t] Z I P (QP (b2 (σ 2 t = 1)) Z I P) := by
  have v0 := hV.1.1
  have v1 := hV.1.2.1
  have v2 := hV.1.2.2.1
  have v3 := hV.1.2.2.2.1
  have v4 := hV.1.2.2.2.2
  have w0 := hW.1
  have w1 := hW.2.1
  have w5 := hW.2.2.1
  have w10 := hW.2.2.2.1
  have e1 : I 138 (35 + t) = σ 2 t := hR.c ht.1 ht.2 (by omega)
  refine Mt.of kmX12_isCut (ls := [vA 131, vI t]) (fun _ => rfl) (fun _ => rfl) (okf_k (okf_k (okf_n rfl))) (fun hok => ?_)
  refine ev_aload_0 0 dX12_isCut_0 ?_
  refine ev_getA 1 8 dX12_isCut_1 fa_X12_29 (kd_131 hM) (pr_131_8 hN) rfl ?_
  refine ev_bipush 4 dX12_isCut_4 ⟨by decide, by decide⟩ ?_
  refine ev_iload_1 6 dX12_isCut_6 ?_
  refine ev_iadd 7 dX12_isCut_7 ⟨by omega, by omega⟩ ?_
  refine ev_iald 8 dX12_isCut_8 (kd_138 hM) ⟨by omega, by have := (ln_138 hM); omega⟩ ?_
  try simp only [e1]
  refine ev_if_le 9 16 dX12_isCut_9 rfl (fun h9 => ?_) (fun h9 => ?_)
  · refine ev_iconst 16 dX12_isCut_16 ⟨by decide, by decide⟩ ?_
    refine ev_zret 17 dX12_isCut_17 (by first | omega | exact b2_or _) ?_ rfl
    first | exact QP_of (b2_t (by omega)).symm | exact QP_of (b2_f (by omega)).symm
  · refine ev_iconst 12 dX12_isCut_12 ⟨by decide, by decide⟩ ?_
    refine ev_goto 13 17 dX12_isCut_13 rfl ?_
    refine ev_zret 17 dX12_isCut_17 (by first | omega | exact b2_or _) ?_ rfl
    first | exact QP_of (b2_t (by omega)).symm | exact QP_of (b2_f (by omega)).symm
theorem m_levelOf {l : Launch} {g : Gt} {d : Nat} {Z : Zt} {I : It} {P : Pt'} (hM : LayM Z) (hN : LayQ P) {α : Nat → Int → Int} (hV : VM I α) (hW : WF α) {t : Int} (ht : 0 ≤ t ∧ t < α 0 5) : Mt l g mX12_levelOf d 0 0 [vA 131, vI t] Z I P (QP (α 4 t) Z I P) := by
  have v0 := hV.1.1
  have v1 := hV.1.2.1
  have v2 := hV.1.2.2.1
  have v3 := hV.1.2.2.2.1
  have v4 := hV.1.2.2.2.2
  have w0 := hW.1
  have w1 := hW.2.1
  have w5 := hW.2.2.1
  have w10 := hW.2.2.2.1
  have e1 := (hV.2.2.1 t ht.1 ht.2).1
  refine Mt.of kmX12_levelOf (ls := [vA 131, vI t]) (fun _ => rfl) (fun _ => rfl) (okf_k (okf_k (okf_n rfl))) (fun hok => ?_)
  refine ev_aload_0 0 dX12_levelOf_0 ?_
  refine ev_getA 1 5 dX12_levelOf_1 fa_X12_20 (kd_131 hM) (pr_131_5 hN) rfl ?_
  refine ev_iconst 4 dX12_levelOf_4 ⟨by decide, by decide⟩ ?_
  refine ev_iload_1 5 dX12_levelOf_5 ?_
  refine ev_imul 6 dX12_levelOf_6 ⟨by omega, by omega⟩ ?_
  refine ev_iconst 7 dX12_levelOf_7 ⟨by decide, by decide⟩ ?_
  refine ev_iadd 8 dX12_levelOf_8 ⟨by omega, by omega⟩ ?_
  refine ev_iald 9 dX12_levelOf_9 (kd_135 hM) ⟨by omega, by have := (ln_135 hM); omega⟩ ?_
  try simp only [e1]
  refine ev_iret 10 dX12_levelOf_10 ?_ rfl
  exact QP_of rfl
theorem m_isMarket {l : Launch} {g : Gt} {d : Nat} {Z : Zt} {I : It} {P : Pt'} (hM : LayM Z) (hN : LayQ P) {α : Nat → Int → Int} (hV : VM I α) (hW : WF α) (L : Int) {x : Int} (hx : 0 ≤ x ∧ x < 24) : Mt l g mX12_isMarket d 0 0 [vA 131, vI L, vI x] Z I P (QP (b2 (mkt α (24 * L + x))) Z I P) := by
  have v0 := hV.1.1
  have v1 := hV.1.2.1
  have v2 := hV.1.2.2.1
  have v3 := hV.1.2.2.2.1
  have v4 := hV.1.2.2.2.2
  have w0 := hW.1
  have w1 := hW.2.1
  have w5 := hW.2.2.1
  have w10 := hW.2.2.2.1
  refine Mt.of kmX12_isMarket (ls := [vA 131, vI L, vI x, vX, vX]) (fun _ => rfl) (fun _ => rfl) (okf_k (okf_k (okf_k (okf_n rfl)))) (fun hok => ?_)
  have loop : ∀ (k : Nat) (i : Int) (y : Int), 0 ≤ i → i + k = α 0 10 → (hy : y = 0 ∨ y = 1) → (hq : y = 1 ↔ exB (fun m => α 8 m = L ∧ α 9 m = x) i) → Ev l g mX12_isMarket d 0 0 Z I P 5 [vA 131, vI L, vI x, vI y, vI i] [] (QP (b2 (mkt α (24 * L + x))) Z I P) := by
    intro k
    induction k with
    | zero =>
      intro i y h0 h1 hy hq
      refine ev_iload_4 5 dX12_isMarket_5 ?_
      refine ev_aload_0 7 dX12_isMarket_7 ?_
      refine ev_getA 8 3 dX12_isMarket_8 fa_X12_13 (kd_131 hM) (pr_131_3 hN) rfl ?_
      refine ev_iconst 11 dX12_isMarket_11 ⟨by decide, by decide⟩ ?_
      refine ev_iald 12 dX12_isMarket_12 (kd_133 hM) ⟨by omega, by have := (ln_133 hM); omega⟩ ?_
      try simp only [v3]
      refine ev_icmp_ge 13 60 dX12_isMarket_13 rfl (fun h13 => ?_) (fun h13 => ?_)
      · refine ev_iload_3 60 dX12_isMarket_60 ?_
        refine ev_zret 61 dX12_isMarket_61 (by first | omega | exact b2_or _) ?_ rfl
        exact QP_of (b2_i hy (hq.trans (by rw [show i = α 0 10 by omega]; exact (mk_iff hW hx).symm)))
      · exfalso; omega
    | succ k ih =>
      intro i y h0 h1 hy hq
      obtain ⟨m1, m2⟩ := hV.2.2.2 i h0 (by omega)
      refine ev_iload_4 5 dX12_isMarket_5 ?_
      refine ev_aload_0 7 dX12_isMarket_7 ?_
      refine ev_getA 8 3 dX12_isMarket_8 fa_X12_13 (kd_131 hM) (pr_131_3 hN) rfl ?_
      refine ev_iconst 11 dX12_isMarket_11 ⟨by decide, by decide⟩ ?_
      refine ev_iald 12 dX12_isMarket_12 (kd_133 hM) ⟨by omega, by have := (ln_133 hM); omega⟩ ?_
      try simp only [v3, m1, m2]
      refine ev_icmp_ge 13 60 dX12_isMarket_13 rfl (fun h13 => ?_) (fun h13 => ?_)
      · exfalso; omega
      · refine Ev.join 53 (fun jv => (jv = 0 ∨ jv = 1) ∧ (jv = 1 ↔ (y = 1 ∨ (α 8 i = L ∧ α 9 i = x)))) (fun x53 q53 => ?_) (fun j53 => ?_)
        · try dsimp only at q53
          refine ev_istore_3 53 dX12_isMarket_53 rfl rfl ?_
          refine ev_iinc_4 54 dX12_isMarket_54 ⟨by omega, by omega⟩ rfl rfl ?_
          refine ev_goto 57 5 dX12_isMarket_57 rfl ?_
          exact ih (i + 1) _ (by omega) (by omega) q53.1 ((q53.2.trans (or_congr hq Iff.rfl)).trans (exB_s h0).symm)
        · refine ev_iload_3 16 dX12_isMarket_16 ?_
          refine ev_zne 17 48 dX12_isMarket_17 rfl (fun h17 => ?_) (fun h17 => ?_)
          · refine ev_iconst 48 dX12_isMarket_48 ⟨by decide, by decide⟩ ?_
            refine ev_goto 49 53 dX12_isMarket_49 rfl ?_
            exact j53 _ (by omega)
          · refine ev_aload_0 20 dX12_isMarket_20 ?_
            refine ev_getA 21 6 dX12_isMarket_21 fa_X12_23 (kd_131 hM) (pr_131_6 hN) rfl ?_
            refine ev_iconst 24 dX12_isMarket_24 ⟨by decide, by decide⟩ ?_
            refine ev_iload_4 25 dX12_isMarket_25 ?_
            refine ev_imul 27 dX12_isMarket_27 ⟨by omega, by omega⟩ ?_
            refine ev_iald 28 dX12_isMarket_28 (kd_136 hM) ⟨by omega, by have := (ln_136 hM); omega⟩ ?_
            try simp only [v3, m1, m2]
            refine ev_iload_1 29 dX12_isMarket_29 ?_
            refine ev_jne 30 52 dX12_isMarket_30 rfl (fun h30 => ?_) (fun h30 => ?_)
            · refine ev_iconst 52 dX12_isMarket_52 ⟨by decide, by decide⟩ ?_
              exact j53 _ (by omega)
            · refine ev_aload_0 33 dX12_isMarket_33 ?_
              refine ev_getA 34 6 dX12_isMarket_34 fa_X12_23 (kd_131 hM) (pr_131_6 hN) rfl ?_
              refine ev_iconst 37 dX12_isMarket_37 ⟨by decide, by decide⟩ ?_
              refine ev_iload_4 38 dX12_isMarket_38 ?_
              refine ev_imul 40 dX12_isMarket_40 ⟨by omega, by omega⟩ ?_
              refine ev_iconst 41 dX12_isMarket_41 ⟨by decide, by decide⟩ ?_
              refine ev_iadd 42 dX12_isMarket_42 ⟨by omega, by omega⟩ ?_
              refine ev_iald 43 dX12_isMarket_43 (kd_136 hM) ⟨by omega, by have := (ln_136 hM); omega⟩ ?_
              try simp only [v3, m1, m2]
              refine ev_iload_2 44 dX12_isMarket_44 ?_
              refine ev_jne 45 52 dX12_isMarket_45 rfl (fun h45 => ?_) (fun h45 => ?_)
              · refine ev_iconst 52 dX12_isMarket_52 ⟨by decide, by decide⟩ ?_
                exact j53 _ (by omega)
              · refine ev_iconst 48 dX12_isMarket_48 ⟨by decide, by decide⟩ ?_
                refine ev_goto 49 53 dX12_isMarket_49 rfl ?_
                exact j53 _ (by omega)
  refine ev_iconst 0 dX12_isMarket_0 ⟨by decide, by decide⟩ ?_
  refine ev_istore_3 1 dX12_isMarket_1 rfl rfl ?_
  refine ev_iconst 2 dX12_isMarket_2 ⟨by decide, by decide⟩ ?_
  refine ev_istore_4 3 dX12_isMarket_3 rfl rfl ?_
  exact loop (α 0 10).toNat 0 0 (by omega) (by omega) (by omega) ⟨fun z => by omega, fun z => absurd z exB_0⟩
theorem m_townAt {l : Launch} {g : Gt} {d : Nat} {Z : Zt} {I : It} {P : Pt'} (hM : LayM Z) (hN : LayQ P) {α : Nat → Int → Int} (hV : VM I α) (hW : WF α) {s : Int} (hs : 0 ≤ s ∧ s ≤ 11) {σ : Nat → Int → Int} (hR : RT (42 * s) I α σ) (L x : Int) : Mt l g mX12_townAt (d + 1) 0 0 [vA 131, vI s, vI L, vI x] Z I P (QP (tAt (α 4) (σ 1) (σ 2) L x (-4) (α 0 5).toNat 0) Z I P) := by
  have v0 := hV.1.1
  have v1 := hV.1.2.1
  have v2 := hV.1.2.2.1
  have v3 := hV.1.2.2.2.1
  have v4 := hV.1.2.2.2.2
  have w0 := hW.1
  have w1 := hW.2.1
  have w5 := hW.2.2.1
  have w10 := hW.2.2.2.1
  refine Mt.of kmX12_townAt (ls := [vA 131, vI s, vI L, vI x, vX]) (fun _ => rfl) (fun _ => rfl) (okf_k (okf_k (okf_k (okf_k (okf_n rfl))))) (fun hok => ?_)
  have loop : ∀ (n : Nat) (t : Int), 0 ≤ t → t + n = α 0 5 → Ev l g mX12_townAt (d + 1) 0 0 Z I P 3 [vA 131, vI s, vI L, vI x, vI t] [] (QP (tAt (α 4) (σ 1) (σ 2) L x (-4) n t) Z I P) := by
    intro n
    induction n with
    | zero =>
      intro t h0 h1
      refine ev_iload_4 3 dX12_townAt_3 ?_
      refine ev_aload_0 5 dX12_townAt_5 ?_
      refine ev_getA 6 3 dX12_townAt_6 fa_X12_13 (kd_131 hM) (pr_131_3 hN) rfl ?_
      refine ev_iconst 9 dX12_townAt_9 ⟨by decide, by decide⟩ ?_
      refine ev_iald 10 dX12_townAt_10 (kd_133 hM) ⟨by omega, by have := (ln_133 hM); omega⟩ ?_
      try simp only [v2]
      refine ev_icmp_ge 11 70 dX12_townAt_11 rfl (fun h11 => ?_) (fun h11 => ?_)
      · refine ev_bipush 70 dX12_townAt_70 ⟨by decide, by decide⟩ ?_
        refine ev_iret 72 dX12_townAt_72 ?_ rfl
        exact QP_of rfl
      · exfalso; omega
    | succ n ih =>
      intro t h0 h1
      obtain ⟨r1, r2⟩ := hR t h0 (by omega)
      refine ev_iload_4 3 dX12_townAt_3 ?_
      refine ev_aload_0 5 dX12_townAt_5 ?_
      refine ev_getA 6 3 dX12_townAt_6 fa_X12_13 (kd_131 hM) (pr_131_3 hN) rfl ?_
      refine ev_iconst 9 dX12_townAt_9 ⟨by decide, by decide⟩ ?_
      refine ev_iald 10 dX12_townAt_10 (kd_133 hM) ⟨by omega, by have := (ln_133 hM); omega⟩ ?_
      try simp only [v2, r1, r2]
      refine ev_icmp_ge 11 70 dX12_townAt_11 rfl (fun h11 => ?_) (fun h11 => ?_)
      · exfalso; omega
      · refine ev_aload_0 14 dX12_townAt_14 ?_
        refine ev_getA 15 8 dX12_townAt_15 fa_X12_29 (kd_131 hM) (pr_131_8 hN) rfl ?_
        refine ev_bipush 18 dX12_townAt_18 ⟨by decide, by decide⟩ ?_
        refine ev_iload_1 20 dX12_townAt_20 ?_
        refine ev_imul 21 dX12_townAt_21 ⟨by omega, by omega⟩ ?_
        refine ev_bipush 22 dX12_townAt_22 ⟨by decide, by decide⟩ ?_
        refine ev_iadd 24 dX12_townAt_24 ⟨by omega, by omega⟩ ?_
        refine ev_iload_4 25 dX12_townAt_25 ?_
        refine ev_iadd 27 dX12_townAt_27 ⟨by omega, by omega⟩ ?_
        refine ev_iald 28 dX12_townAt_28 (kd_138 hM) ⟨by omega, by have := (ln_138 hM); omega⟩ ?_
        try simp only [v2, r1, r2]
        refine ev_zne 29 64 dX12_townAt_29 rfl (fun h29 => ?_) (fun h29 => ?_)
        · refine ev_iinc_4 64 dX12_townAt_64 ⟨by omega, by omega⟩ rfl rfl ?_
          refine ev_goto 67 3 dX12_townAt_67 rfl ?_
          rw [show tAt (α 4) (σ 1) (σ 2) L x (-4) (n + 1) t = tAt (α 4) (σ 1) (σ 2) L x (-4) n (t + 1) from if_neg (by omega)]
          exact ih (t + 1) (by omega) (by omega)
        · refine ev_aload_0 32 dX12_townAt_32 ?_
          refine ev_iload_4 33 dX12_townAt_33 ?_
          refine ev_cVp_1 35 dX12_townAt_35 kmX12_levelOf lk_X12_127 (kd_131 hM) (m_levelOf hM hN hV hW (by omega)) rfl rfl ?_
          try simp only [v2, r1, r2]
          refine ev_iload_2 38 dX12_townAt_38 ?_
          refine ev_jne 39 64 dX12_townAt_39 rfl (fun h39 => ?_) (fun h39 => ?_)
          · refine ev_iinc_4 64 dX12_townAt_64 ⟨by omega, by omega⟩ rfl rfl ?_
            refine ev_goto 67 3 dX12_townAt_67 rfl ?_
            rw [show tAt (α 4) (σ 1) (σ 2) L x (-4) (n + 1) t = tAt (α 4) (σ 1) (σ 2) L x (-4) n (t + 1) from if_neg (by omega)]
            exact ih (t + 1) (by omega) (by omega)
          · refine ev_aload_0 42 dX12_townAt_42 ?_
            refine ev_getA 43 8 dX12_townAt_43 fa_X12_29 (kd_131 hM) (pr_131_8 hN) rfl ?_
            refine ev_bipush 46 dX12_townAt_46 ⟨by decide, by decide⟩ ?_
            refine ev_iload_1 48 dX12_townAt_48 ?_
            refine ev_imul 49 dX12_townAt_49 ⟨by omega, by omega⟩ ?_
            refine ev_bipush 50 dX12_townAt_50 ⟨by decide, by decide⟩ ?_
            refine ev_iadd 52 dX12_townAt_52 ⟨by omega, by omega⟩ ?_
            refine ev_iload_4 53 dX12_townAt_53 ?_
            refine ev_iadd 55 dX12_townAt_55 ⟨by omega, by omega⟩ ?_
            refine ev_iald 56 dX12_townAt_56 (kd_138 hM) ⟨by omega, by have := (ln_138 hM); omega⟩ ?_
            try simp only [v2, r1, r2]
            refine ev_iload_3 57 dX12_townAt_57 ?_
            refine ev_jne 58 64 dX12_townAt_58 rfl (fun h58 => ?_) (fun h58 => ?_)
            · refine ev_iinc_4 64 dX12_townAt_64 ⟨by omega, by omega⟩ rfl rfl ?_
              refine ev_goto 67 3 dX12_townAt_67 rfl ?_
              rw [show tAt (α 4) (σ 1) (σ 2) L x (-4) (n + 1) t = tAt (α 4) (σ 1) (σ 2) L x (-4) n (t + 1) from if_neg (by omega)]
              exact ih (t + 1) (by omega) (by omega)
            · refine ev_iload_4 61 dX12_townAt_61 ?_
              refine ev_iret 63 dX12_townAt_63 ?_ rfl
              exact QP_of (if_pos (by omega)).symm
  refine ev_iconst 0 dX12_townAt_0 ⟨by decide, by decide⟩ ?_
  refine ev_istore_4 1 dX12_townAt_1 rfl rfl ?_
  exact loop (α 0 5).toNat 0 (by omega) (by omega)
theorem m_numbers {l : Launch} {g : Gt} {d : Nat} {Z : Zt} {I : It} {P : Pt'} (x : Int) : Mt l g mX12_numbers d 0 0 [vI x] Z I P (QP (nmb x) Z I P) := by
  refine Mt.of kmX12_numbers (ls := [vI x]) (fun _ => rfl) (fun _ => rfl) (okf_k (okf_n rfl)) (fun hok => ?_)
  refine ev_iload_0 0 dX12_numbers_0 ?_
  refine ev_bipush 1 dX12_numbers_1 ⟨by decide, by decide⟩ ?_
  refine ev_jne 3 10 dX12_numbers_3 rfl (fun h3 => ?_) (fun h3 => ?_)
  · refine ev_iload_0 10 dX12_numbers_10 ?_
    refine ev_bipush 11 dX12_numbers_11 ⟨by decide, by decide⟩ ?_
    refine ev_icmp_eq 13 22 dX12_numbers_13 rfl (fun h13 => ?_) (fun h13 => ?_)
    · refine ev_iconst 22 dX12_numbers_22 ⟨by decide, by decide⟩ ?_
      refine ev_goto 23 47 dX12_numbers_23 rfl ?_
      refine ev_iret 47 dX12_numbers_47 ?_ rfl
      exact QP_of (by unfold nmb; (repeat' split) <;> omega)
    · refine ev_iload_0 16 dX12_numbers_16 ?_
      refine ev_bipush 17 dX12_numbers_17 ⟨by decide, by decide⟩ ?_
      refine ev_jne 19 26 dX12_numbers_19 rfl (fun h19 => ?_) (fun h19 => ?_)
      · refine ev_iload_0 26 dX12_numbers_26 ?_
        refine ev_bipush 27 dX12_numbers_27 ⟨by decide, by decide⟩ ?_
        refine ev_jne 29 36 dX12_numbers_29 rfl (fun h29 => ?_) (fun h29 => ?_)
        · refine ev_iload_0 36 dX12_numbers_36 ?_
          refine ev_bipush 37 dX12_numbers_37 ⟨by decide, by decide⟩ ?_
          refine ev_jne 39 46 dX12_numbers_39 rfl (fun h39 => ?_) (fun h39 => ?_)
          · refine ev_iconst 46 dX12_numbers_46 ⟨by decide, by decide⟩ ?_
            refine ev_iret 47 dX12_numbers_47 ?_ rfl
            exact QP_of (by unfold nmb; (repeat' split) <;> omega)
          · refine ev_iconst 42 dX12_numbers_42 ⟨by decide, by decide⟩ ?_
            refine ev_goto 43 47 dX12_numbers_43 rfl ?_
            refine ev_iret 47 dX12_numbers_47 ?_ rfl
            exact QP_of (by unfold nmb; (repeat' split) <;> omega)
        · refine ev_iconst 32 dX12_numbers_32 ⟨by decide, by decide⟩ ?_
          refine ev_goto 33 47 dX12_numbers_33 rfl ?_
          refine ev_iret 47 dX12_numbers_47 ?_ rfl
          exact QP_of (by unfold nmb; (repeat' split) <;> omega)
      · refine ev_iconst 22 dX12_numbers_22 ⟨by decide, by decide⟩ ?_
        refine ev_goto 23 47 dX12_numbers_23 rfl ?_
        refine ev_iret 47 dX12_numbers_47 ?_ rfl
        exact QP_of (by unfold nmb; (repeat' split) <;> omega)
  · refine ev_iconst 6 dX12_numbers_6 ⟨by decide, by decide⟩ ?_
    refine ev_goto 7 47 dX12_numbers_7 rfl ?_
    refine ev_iret 47 dX12_numbers_47 ?_ rfl
    exact QP_of (by unfold nmb; (repeat' split) <;> omega)
theorem m_timeOf {l : Launch} {g : Gt} {d : Nat} {Z : Zt} {I : It} {P : Pt'} (hM : LayM Z) (hN : LayQ P) {a b : Int} (ha : 0 ≤ a ∧ a < 192) (hb : 0 ≤ b ∧ b < 192) : Mt l g mX12_timeOf d 0 0 [vA 131, vI a, vI b] Z I P (QP (I 141 (192 * a + b)) Z I P) := by
  refine Mt.of kmX12_timeOf (ls := [vA 131, vI a, vI b]) (fun _ => rfl) (fun _ => rfl) (okf_k (okf_k (okf_k (okf_n rfl)))) (fun hok => ?_)
  refine ev_aload_0 0 dX12_timeOf_0 ?_
  refine ev_getA 1 15 dX12_timeOf_1 fa_X12_39 (kd_131 hM) (pr_131_15 hN) rfl ?_
  refine ev_sipush 4 dX12_timeOf_4 ⟨by decide, by decide⟩ ?_
  refine ev_iload_1 7 dX12_timeOf_7 ?_
  refine ev_imul 8 dX12_timeOf_8 ⟨by omega, by omega⟩ ?_
  refine ev_iload_2 9 dX12_timeOf_9 ?_
  refine ev_iadd 10 dX12_timeOf_10 ⟨by omega, by omega⟩ ?_
  refine ev_iald 11 dX12_timeOf_11 (kd_141 hM) ⟨by omega, by have := (ln_141 hM); omega⟩ ?_
  refine ev_iret 12 dX12_timeOf_12 ?_ rfl
  exact QP_of rfl
theorem m_spot {l : Launch} {g : Gt} {d : Nat} {Z : Zt} {I : It} {P : Pt'} (hM : LayM Z) (hN : LayQ P) {α : Nat → Int → Int} (hV : VM I α) (hW : WF α) {σ : Nat → Int → Int} (hR : RT 0 I α σ) {t : Int} (ht : 0 ≤ t ∧ t < α 0 5) (hx : 0 ≤ σ 1 t ∧ σ 1 t ≤ 23) : Mt l g mX12_spot (d + 1) 0 0 [vA 131, vI t] Z I P (QP (24 * α 4 t + σ 1 t) Z I P) := by
  have v0 := hV.1.1
  have v1 := hV.1.2.1
  have v2 := hV.1.2.2.1
  have v3 := hV.1.2.2.2.1
  have v4 := hV.1.2.2.2.2
  have w0 := hW.1
  have w1 := hW.2.1
  have w5 := hW.2.2.1
  have w10 := hW.2.2.2.1
  have e1 : I 138 (29 + t) = σ 1 t := hR.x ht.1 ht.2 (by omega)
  have e2 := (hW.2.2.2.2.2.2.1 t ht.1 ht.2).1
  refine Mt.of kmX12_spot (ls := [vA 131, vI t]) (fun _ => rfl) (fun _ => rfl) (okf_k (okf_k (okf_n rfl))) (fun hok => ?_)
  refine ev_bipush 0 dX12_spot_0 ⟨by decide, by decide⟩ ?_
  refine ev_aload_0 2 dX12_spot_2 ?_
  refine ev_iload_1 3 dX12_spot_3 ?_
  refine ev_cVp_1 4 dX12_spot_4 kmX12_levelOf lk_X12_127 (kd_131 hM) (m_levelOf hM hN hV hW (by omega)) rfl rfl ?_
  try simp only [e1]
  refine ev_imul 7 dX12_spot_7 ⟨by omega, by omega⟩ ?_
  refine ev_aload_0 8 dX12_spot_8 ?_
  refine ev_getA 9 8 dX12_spot_9 fa_X12_29 (kd_131 hM) (pr_131_8 hN) rfl ?_
  refine ev_bipush 12 dX12_spot_12 ⟨by decide, by decide⟩ ?_
  refine ev_iload_1 14 dX12_spot_14 ?_
  refine ev_iadd 15 dX12_spot_15 ⟨by omega, by omega⟩ ?_
  refine ev_iald 16 dX12_spot_16 (kd_138 hM) ⟨by omega, by have := (ln_138 hM); omega⟩ ?_
  try simp only [e1]
  refine ev_iadd 17 dX12_spot_17 ⟨by omega, by omega⟩ ?_
  refine ev_iret 18 dX12_spot_18 ?_ rfl
  exact QP_of rfl
theorem m_level {l : Launch} {g : Gt} {d : Nat} {Z : Zt} {I : It} {P : Pt'} (hM : LayM Z) (hN : LayQ P) {α : Nat → Int → Int} (hV : VM I α) (hW : WF α) (x w : Int) : Mt l g mX12_level (d + 2) 0 0 [vA 131, vI x, vI w] Z I P (QP (lvA α x w) Z I P) := by
  have v0 := hV.1.1
  have v1 := hV.1.2.1
  have v2 := hV.1.2.2.1
  have v3 := hV.1.2.2.2.1
  have v4 := hV.1.2.2.2.2
  have w0 := hW.1
  have w1 := hW.2.1
  have w5 := hW.2.2.1
  have w10 := hW.2.2.2.1
  refine Mt.of kmX12_level (ls := [vA 131, vI x, vI w]) (fun _ => rfl) (fun _ => rfl) (okf_k (okf_k (okf_k (okf_n rfl)))) (fun hok => ?_)
  refine ev_aload_0 0 dX12_level_0 ?_
  refine ev_iload_1 1 dX12_level_1 ?_
  refine ev_cVp_1 2 dX12_level_2 kmX12_isLevel lk_X12_130 (kd_131 hM) (m_isLevel hM hN hV hW _) rfl rfl ?_
  refine ev_ifb_eq 5 33 dX12_level_5 rfl (fun h5 => ?_) (fun h5 => ?_)
  · refine ev_iconst 33 dX12_level_33 ⟨by decide, by decide⟩ ?_
    refine ev_iret 34 dX12_level_34 ?_ rfl
    first
      | exact QP_of (lvA_m hV (by omega) (by omega))
      | exact QP_of (by unfold lvA; (repeat' split) <;> omega)
  · refine ev_iload_2 8 dX12_level_8 ?_
    refine ev_i2l 9 dX12_level_9 ?_
    refine ev_lconst0 10 dX12_level_10 ?_
    refine ev_ldc2 11 dX12_level_11 kl_X12_77 ⟨by decide, by decide⟩ ?_
    refine ev_cSp_3 14 dX12_level_14 kmX12_in lk_X12_62 (m_in _ _ _) rfl rfl ?_
    refine ev_ifb_eq 17 33 dX12_level_17 rfl (fun h17 => ?_) (fun h17 => ?_)
    · refine ev_iconst 33 dX12_level_33 ⟨by decide, by decide⟩ ?_
      refine ev_iret 34 dX12_level_34 ?_ rfl
      first
        | exact QP_of (lvA_m hV (by omega) (by omega))
        | exact QP_of (by unfold lvA; (repeat' split) <;> omega)
    · refine ev_aload_0 20 dX12_level_20 ?_
      refine ev_getA 21 4 dX12_level_21 fa_X12_17 (kd_131 hM) (pr_131_4 hN) rfl ?_
      refine ev_iconst 24 dX12_level_24 ⟨by decide, by decide⟩ ?_
      refine ev_iload_1 25 dX12_level_25 ?_
      refine ev_imul 26 dX12_level_26 ⟨by omega, by omega⟩ ?_
      refine ev_iload_2 27 dX12_level_27 ?_
      refine ev_iadd 28 dX12_level_28 ⟨by omega, by omega⟩ ?_
      refine ev_iald 29 dX12_level_29 (kd_134 hM) ⟨by omega, by have := (ln_134 hM); omega⟩ ?_
      refine ev_goto 30 34 dX12_level_30 rfl ?_
      refine ev_iret 34 dX12_level_34 ?_ rfl
      first
        | exact QP_of (lvA_m hV (by omega) (by omega))
        | exact QP_of (by unfold lvA; (repeat' split) <;> omega)
theorem m_town {l : Launch} {g : Gt} {d : Nat} {Z : Zt} {I : It} {P : Pt'} (hM : LayM Z) (hN : LayQ P) {α : Nat → Int → Int} (hV : VM I α) (hW : WF α) {σ : Nat → Int → Int} (hR : RT 0 I α σ) (hc : ∀ t, 0 ≤ t → t < 6 → σ 2 t = 0 ∨ σ 2 t = 1) (t w : Int) : Mt l g mX12_town (d + 2) 0 0 [vA 131, vI t, vI w] Z I P (QP (twA α σ t w) Z I P) := by
  have v0 := hV.1.1
  have v1 := hV.1.2.1
  have v2 := hV.1.2.2.1
  have v3 := hV.1.2.2.2.1
  have v4 := hV.1.2.2.2.2
  have w0 := hW.1
  have w1 := hW.2.1
  have w5 := hW.2.2.1
  have w10 := hW.2.2.2.1
  refine Mt.of kmX12_town (ls := [vA 131, vI t, vI w]) (fun _ => rfl) (fun _ => rfl) (okf_k (okf_k (okf_k (okf_n rfl)))) (fun hok => ?_)
  refine ev_aload_0 0 dX12_town_0 ?_
  refine ev_iload_1 1 dX12_town_1 ?_
  refine ev_cVp_1 2 dX12_town_2 kmX12_isTown lk_X12_133 (kd_131 hM) (m_isTown hM hN hV hW _) rfl rfl ?_
  try simp only [e1, e2]
  refine ev_ifb_eq 5 20 dX12_town_5 rfl (fun h5 => ?_) (fun h5 => ?_)
  · refine ev_iconst 20 dX12_town_20 ⟨by decide, by decide⟩ ?_
    refine ev_iret 21 dX12_town_21 ?_ rfl
    exact QP_of (by unfold twA; (repeat' split) <;> omega)
  · refine ev_iload_2 8 dX12_town_8 ?_
    refine ev_i2l 9 dX12_town_9 ?_
    refine ev_lconst0 10 dX12_town_10 ?_
    refine ev_ldc2 11 dX12_town_11 kl_X12_91 ⟨by decide, by decide⟩ ?_
    refine ev_cSp_3 14 dX12_town_14 kmX12_in lk_X12_62 (m_in _ _ _) rfl rfl ?_
    try simp only [e1, e2]
    refine ev_ifb_ne 17 22 dX12_town_17 rfl (fun h17 => ?_) (fun h17 => ?_)
    · have e1 : I 138 (29 + t) = σ 1 t := hR.x (by omega) (by omega) (by omega)
      have e2 : I 138 (35 + t) = σ 2 t := hR.c (by omega) (by omega) (by omega)
      have e3 := hc t (by omega) (by omega)
      obtain ⟨e4, e5, e6⟩ := hV.2.2.1 t (by omega) (by omega)
      have e7 : w = 2 → I 135 (4 * t + w) = α 6 t := fun z => by subst z; exact e5
      have e8 : w = 3 → I 135 (4 * t + w) = α 7 t := fun z => by subst z; exact e6
      refine ev_iload_2 22 dX12_town_22 ?_
      refine ev_zne 23 34 dX12_town_23 rfl (fun h23 => ?_) (fun h23 => ?_)
      · refine ev_iload_2 34 dX12_town_34 ?_
        refine ev_iconst 35 dX12_town_35 ⟨by decide, by decide⟩ ?_
        refine ev_jne 36 51 dX12_town_36 rfl (fun h36 => ?_) (fun h36 => ?_)
        · refine ev_iload_2 51 dX12_town_51 ?_
          refine ev_iconst 52 dX12_town_52 ⟨by decide, by decide⟩ ?_
          refine ev_jne 53 68 dX12_town_53 rfl (fun h53 => ?_) (fun h53 => ?_)
          · refine ev_aload_0 68 dX12_town_68 ?_
            refine ev_getA 69 5 dX12_town_69 fa_X12_20 (kd_131 hM) (pr_131_5 hN) rfl ?_
            refine ev_iconst 72 dX12_town_72 ⟨by decide, by decide⟩ ?_
            refine ev_iload_1 73 dX12_town_73 ?_
            refine ev_imul 74 dX12_town_74 ⟨by omega, by omega⟩ ?_
            refine ev_iload_2 75 dX12_town_75 ?_
            refine ev_iadd 76 dX12_town_76 ⟨by omega, by omega⟩ ?_
            refine ev_iald 77 dX12_town_77 (kd_135 hM) ⟨by omega, by have := (ln_135 hM); omega⟩ ?_
            try simp only [e1, e2]
            refine ev_iret 78 dX12_town_78 ?_ rfl
            exact QP_of (by unfold twA; (repeat' split) <;> omega)
          · refine ev_aload_0 56 dX12_town_56 ?_
            refine ev_getA 57 8 dX12_town_57 fa_X12_29 (kd_131 hM) (pr_131_8 hN) rfl ?_
            refine ev_bipush 60 dX12_town_60 ⟨by decide, by decide⟩ ?_
            refine ev_iload_1 62 dX12_town_62 ?_
            refine ev_iadd 63 dX12_town_63 ⟨by omega, by omega⟩ ?_
            refine ev_iald 64 dX12_town_64 (kd_138 hM) ⟨by omega, by have := (ln_138 hM); omega⟩ ?_
            try simp only [e1, e2]
            refine ev_goto 65 78 dX12_town_65 rfl ?_
            refine ev_iret 78 dX12_town_78 ?_ rfl
            exact QP_of (by unfold twA; (repeat' split) <;> omega)
        · refine ev_aload_0 39 dX12_town_39 ?_
          refine ev_getA 40 8 dX12_town_40 fa_X12_29 (kd_131 hM) (pr_131_8 hN) rfl ?_
          refine ev_bipush 43 dX12_town_43 ⟨by decide, by decide⟩ ?_
          refine ev_iload_1 45 dX12_town_45 ?_
          refine ev_iadd 46 dX12_town_46 ⟨by omega, by omega⟩ ?_
          refine ev_iald 47 dX12_town_47 (kd_138 hM) ⟨by omega, by have := (ln_138 hM); omega⟩ ?_
          try simp only [e1, e2]
          refine ev_goto 48 78 dX12_town_48 rfl ?_
          refine ev_iret 78 dX12_town_78 ?_ rfl
          exact QP_of (by unfold twA; (repeat' split) <;> omega)
      · refine ev_aload_0 26 dX12_town_26 ?_
        refine ev_iload_1 27 dX12_town_27 ?_
        refine ev_cVp_1 28 dX12_town_28 kmX12_levelOf lk_X12_127 (kd_131 hM) (m_levelOf hM hN hV hW (by omega)) rfl rfl ?_
        try simp only [e1, e2]
        refine ev_goto 31 78 dX12_town_31 rfl ?_
        refine ev_iret 78 dX12_town_78 ?_ rfl
        exact QP_of (by unfold twA; (repeat' split) <;> omega)
    · refine ev_iconst 20 dX12_town_20 ⟨by decide, by decide⟩ ?_
      refine ev_iret 21 dX12_town_21 ?_ rfl
      exact QP_of (by unfold twA; (repeat' split) <;> omega)
theorem m_tells {l : Launch} {g : Gt} {d : Nat} {Z : Zt} {I : It} {P : Pt'} (hM : LayM Z) (hN : LayQ P) {α : Nat → Int → Int} (hV : VM I α) (hW : WF α) {s : Int} (hs : 0 ≤ s ∧ s ≤ 11) {σ : Nat → Int → Int} (hR : RS (42 * s) I α σ) {j : Int} (hj : (0 ≤ j ∧ j < σ 0 1) ∧ σ 0 1 ≤ 7) (hca : CA α σ) {w : Int} : Mt l g mX12_tells d 0 0 [vA 131, vI s, vI j, vI w] Z I P (QP (tlA σ j w) Z I P) := by
  have v0 := hV.1.1
  have v1 := hV.1.2.1
  have v2 := hV.1.2.2.1
  have v3 := hV.1.2.2.2.1
  have v4 := hV.1.2.2.2.2
  have w0 := hW.1
  have w1 := hW.2.1
  have w5 := hW.2.2.1
  have w10 := hW.2.2.2.1
  obtain ⟨r1, r2, r3, r4⟩ := hR.2.2.2 j hj.1.1 hj.1.2
  have r5 := cg_r (σ 6 j)
  have r6 := hca j hj.1.1 hj.1.2
  have r7 : σ 6 j ≠ -4 → I 138 (42 * s + 29 + cg (σ 6 j) - 1) = σ 4 j := fun z => by
    obtain ⟨z1, z2⟩ := r6 z
    rw [z2]; exact (hR.2.2.1.x z1.1 z1.2 (by omega))
  have r8 : -4 ≤ cg (σ 6 j) ∧ cg (σ 6 j) ≤ 6 := by
    by_cases z : σ 6 j = -4
    · omega
    · have := (r6 z).1; omega
  refine Mt.of kmX12_tells (ls := [vA 131, vI s, vI j, vI w, vX, vX]) (fun _ => rfl) (fun _ => rfl) (okf_k (okf_k (okf_k (okf_k (okf_n rfl))))) (fun hok => ?_)
  refine ev_bipush 0 dX12_tells_0 ⟨by decide, by decide⟩ ?_
  refine ev_iload_1 2 dX12_tells_2 ?_
  refine ev_imul 3 dX12_tells_3 ⟨by omega, by omega⟩ ?_
  refine ev_istore_4 4 dX12_tells_4 rfl rfl ?_
  refine ev_aload_0 6 dX12_tells_6 ?_
  refine ev_getA 7 8 dX12_tells_7 fa_X12_29 (kd_131 hM) (pr_131_8 hN) rfl ?_
  refine ev_iload_4 10 dX12_tells_10 ?_
  refine ev_bipush 12 dX12_tells_12 ⟨by decide, by decide⟩ ?_
  refine ev_iadd 14 dX12_tells_14 ⟨by omega, by omega⟩ ?_
  refine ev_iload_2 15 dX12_tells_15 ?_
  refine ev_iadd 16 dX12_tells_16 ⟨by omega, by omega⟩ ?_
  refine ev_iald 17 dX12_tells_17 (kd_138 hM) ⟨by omega, by have := (ln_138 hM); omega⟩ ?_
  try simp only [r1, r2, r3]
  refine ev_istore_5 18 dX12_tells_18 rfl rfl ?_
  refine ev_iload_3 20 dX12_tells_20 ?_
  refine ev_iconst 21 dX12_tells_21 ⟨by decide, by decide⟩ ?_
  refine ev_jne 22 40 dX12_tells_22 rfl (fun h22 => ?_) (fun h22 => ?_)
  · refine ev_iload_3 40 dX12_tells_40 ?_
    refine ev_iconst 41 dX12_tells_41 ⟨by decide, by decide⟩ ?_
    refine ev_jne 42 58 dX12_tells_42 rfl (fun h42 => ?_) (fun h42 => ?_)
    · refine ev_iload_3 58 dX12_tells_58 ?_
      refine ev_zne 59 76 dX12_tells_59 rfl (fun h59 => ?_) (fun h59 => ?_)
      · refine ev_iload_5 76 dX12_tells_76 ?_
        refine ev_zne 78 96 dX12_tells_78 rfl (fun h78 => ?_) (fun h78 => ?_)
        · refine ev_aload_0 96 dX12_tells_96 ?_
          refine ev_getA 97 8 dX12_tells_97 fa_X12_29 (kd_131 hM) (pr_131_8 hN) rfl ?_
          refine ev_iload_4 100 dX12_tells_100 ?_
          refine ev_bipush 102 dX12_tells_102 ⟨by decide, by decide⟩ ?_
          refine ev_iadd 104 dX12_tells_104 ⟨by omega, by omega⟩ ?_
          refine ev_iload_5 105 dX12_tells_105 ?_
          refine ev_iadd 107 dX12_tells_107 ⟨by omega, by omega⟩ ?_
          refine ev_iconst 108 dX12_tells_108 ⟨by decide, by decide⟩ ?_
          refine ev_isub 109 dX12_tells_109 ⟨by omega, by omega⟩ ?_
          refine ev_iald 110 dX12_tells_110 (kd_138 hM) ⟨by omega, by have := (ln_138 hM); omega⟩ ?_
          try simp only [r1, r2, r3]
          refine ev_iret 111 dX12_tells_111 ?_ rfl
          exact QP_of (by unfold tlA; (repeat' split) <;> omega)
        · refine ev_aload_0 81 dX12_tells_81 ?_
          refine ev_getA 82 8 dX12_tells_82 fa_X12_29 (kd_131 hM) (pr_131_8 hN) rfl ?_
          refine ev_iload_4 85 dX12_tells_85 ?_
          refine ev_bipush 87 dX12_tells_87 ⟨by decide, by decide⟩ ?_
          refine ev_iadd 89 dX12_tells_89 ⟨by omega, by omega⟩ ?_
          refine ev_iload_2 90 dX12_tells_90 ?_
          refine ev_iadd 91 dX12_tells_91 ⟨by omega, by omega⟩ ?_
          refine ev_iald 92 dX12_tells_92 (kd_138 hM) ⟨by omega, by have := (ln_138 hM); omega⟩ ?_
          try simp only [r1, r2, r3]
          refine ev_goto 93 111 dX12_tells_93 rfl ?_
          refine ev_iret 111 dX12_tells_111 ?_ rfl
          exact QP_of (by unfold tlA; (repeat' split) <;> omega)
      · refine ev_aload_0 62 dX12_tells_62 ?_
        refine ev_getA 63 8 dX12_tells_63 fa_X12_29 (kd_131 hM) (pr_131_8 hN) rfl ?_
        refine ev_iload_4 66 dX12_tells_66 ?_
        refine ev_iconst 68 dX12_tells_68 ⟨by decide, by decide⟩ ?_
        refine ev_iadd 69 dX12_tells_69 ⟨by omega, by omega⟩ ?_
        refine ev_iload_2 70 dX12_tells_70 ?_
        refine ev_iadd 71 dX12_tells_71 ⟨by omega, by omega⟩ ?_
        refine ev_iald 72 dX12_tells_72 (kd_138 hM) ⟨by omega, by have := (ln_138 hM); omega⟩ ?_
        try simp only [r1, r2, r3]
        refine ev_goto 73 111 dX12_tells_73 rfl ?_
        refine ev_iret 111 dX12_tells_111 ?_ rfl
        exact QP_of (by unfold tlA; (repeat' split) <;> omega)
    · refine ev_aload_0 45 dX12_tells_45 ?_
      refine ev_getA 46 8 dX12_tells_46 fa_X12_29 (kd_131 hM) (pr_131_8 hN) rfl ?_
      refine ev_iload_4 49 dX12_tells_49 ?_
      refine ev_bipush 51 dX12_tells_51 ⟨by decide, by decide⟩ ?_
      refine ev_iadd 53 dX12_tells_53 ⟨by omega, by omega⟩ ?_
      refine ev_iload_2 54 dX12_tells_54 ?_
      refine ev_iadd 55 dX12_tells_55 ⟨by omega, by omega⟩ ?_
      refine ev_iald 56 dX12_tells_56 (kd_138 hM) ⟨by omega, by have := (ln_138 hM); omega⟩ ?_
      try simp only [r1, r2, r3]
      refine ev_iret 57 dX12_tells_57 ?_ rfl
      exact QP_of (by unfold tlA; (repeat' split) <;> omega)
  · refine ev_iload_5 25 dX12_tells_25 ?_
    refine ev_zne 27 35 dX12_tells_27 rfl (fun h27 => ?_) (fun h27 => ?_)
    · refine ev_iload_5 35 dX12_tells_35 ?_
      refine ev_iconst 37 dX12_tells_37 ⟨by decide, by decide⟩ ?_
      refine ev_isub 38 dX12_tells_38 ⟨by omega, by omega⟩ ?_
      refine ev_iret 39 dX12_tells_39 ?_ rfl
      exact QP_of (by unfold tlA; (repeat' split) <;> omega)
    · refine ev_bipush 30 dX12_tells_30 ⟨by decide, by decide⟩ ?_
      refine ev_goto 32 39 dX12_tells_32 rfl ?_
      refine ev_iret 39 dX12_tells_39 ?_ rfl
      exact QP_of (by unfold tlA; (repeat' split) <;> omega)
theorem m_thing {l : Launch} {g : Gt} {d : Nat} {Z : Zt} {I : It} {P : Pt'} (hM : LayM Z) (hN : LayQ P) {α : Nat → Int → Int} (hV : VM I α) (hW : WF α) {σ : Nat → Int → Int} (hR : RS 0 I α σ) (hWS : WS α σ) (hca : CA α σ) (t w : Int) : Mt l g mX12_thing (d + 2) 0 0 [vA 131, vI t, vI w] Z I P (QP (thA σ t w) Z I P) := by
  have v0 := hV.1.1
  have v1 := hV.1.2.1
  have v2 := hV.1.2.2.1
  have v3 := hV.1.2.2.2.1
  have v4 := hV.1.2.2.2.2
  have w0 := hW.1
  have w1 := hW.2.1
  have w5 := hW.2.2.1
  have w10 := hW.2.2.2.1
  have hRs := hR.z
  have h10 : I 138 0 = σ 0 1 := hR.1
  have h7 := hWS.2.1
  refine Mt.of kmX12_thing (ls := [vA 131, vI t, vI w]) (fun _ => rfl) (fun _ => rfl) (okf_k (okf_k (okf_k (okf_n rfl)))) (fun hok => ?_)
  refine ev_aload_0 0 dX12_thing_0 ?_
  refine ev_iload_1 1 dX12_thing_1 ?_
  refine ev_cVp_1 2 dX12_thing_2 kmX12_isThing lk_X12_136 (kd_131 hM) (m_isThing hM hN hV hW (by omega) _) rfl rfl ?_
  refine ev_ifb_eq 5 30 dX12_thing_5 rfl (fun h5 => ?_) (fun h5 => ?_)
  · refine ev_iconst 30 dX12_thing_30 ⟨by decide, by decide⟩ ?_
    refine ev_iret 31 dX12_thing_31 ?_ rfl
    first
      | exact QP_of (by unfold tlA thA; (repeat' split) <;> omega)
      | exact QP_of (by unfold thA; (repeat' split) <;> omega)
  · refine ev_iload_2 8 dX12_thing_8 ?_
    refine ev_i2l 9 dX12_thing_9 ?_
    refine ev_lconst0 10 dX12_thing_10 ?_
    refine ev_ldc2 11 dX12_thing_11 kl_X12_139 ⟨by decide, by decide⟩ ?_
    refine ev_cSp_3 14 dX12_thing_14 kmX12_in lk_X12_62 (m_in _ _ _) rfl rfl ?_
    refine ev_ifb_eq 17 30 dX12_thing_17 rfl (fun h17 => ?_) (fun h17 => ?_)
    · refine ev_iconst 30 dX12_thing_30 ⟨by decide, by decide⟩ ?_
      refine ev_iret 31 dX12_thing_31 ?_ rfl
      first
        | exact QP_of (by unfold tlA thA; (repeat' split) <;> omega)
        | exact QP_of (by unfold thA; (repeat' split) <;> omega)
    · refine ev_aload_0 20 dX12_thing_20 ?_
      refine ev_iconst 21 dX12_thing_21 ⟨by decide, by decide⟩ ?_
      refine ev_iload_1 22 dX12_thing_22 ?_
      refine ev_iload_2 23 dX12_thing_23 ?_
      refine ev_cVp_3 24 dX12_thing_24 kmX12_tells lk_X12_141 (kd_131 hM) (m_tells hM hN hV hW (by omega) hRs (by omega) hca) rfl rfl ?_
      refine ev_goto 27 31 dX12_thing_27 rfl ?_
      refine ev_iret 31 dX12_thing_31 ?_ rfl
      first
        | exact QP_of (by unfold tlA thA; (repeat' split) <;> omega)
        | exact QP_of (by unfold thA; (repeat' split) <;> omega)
theorem m_count {l : Launch} {g : Gt} {d : Nat} {Z : Zt} {I : It} {P : Pt'} (hM : LayM Z) (hN : LayQ P) {α : Nat → Int → Int} (hV : VM I α) (hW : WF α) {σ : Nat → Int → Int} (hR : RS 0 I α σ) (w : Int) : Mt l g mX12_count d 0 0 [vA 131, vI w] Z I P (QP (if w = 0 then α 0 1 else if w = 1 then α 0 0 else if w = 2 then α 0 5 else if w = 3 then σ 0 1 else if w = 4 then σ 0 0 else if w = 5 then I 131 11 else if w = 6 then I 131 13 else if w = 7 then I 131 10 else if w = 8 then I 131 9 else if w = 9 then I 131 0 else -1) Z I P) := by
  have v0 := hV.1.1
  have v1 := hV.1.2.1
  have v2 := hV.1.2.2.1
  have v3 := hV.1.2.2.2.1
  have v4 := hV.1.2.2.2.2
  have w0 := hW.1
  have w1 := hW.2.1
  have w5 := hW.2.2.1
  have w10 := hW.2.2.2.1
  have e1 : I 138 0 = σ 0 1 := hR.1
  have e2 : I 138 41 = σ 0 0 := hR.2.1
  refine Mt.of kmX12_count (ls := [vA 131, vI w]) (fun _ => rfl) (fun _ => rfl) (okf_k (okf_k (okf_n rfl))) (fun hok => ?_)
  refine ev_iload_1 0 dX12_count_0 ?_
  refine ev_tsw 1 117 dX12_count_1 rfl (fun h1 => ?_) (fun c1 hc1 h1 h2 => ?_)
  · refine ev_iconst 117 dX12_count_117 ⟨by decide, by decide⟩ ?_
    refine ev_iret 118 dX12_count_118 ?_ rfl
    exact QP_of (by (repeat' split) <;> first | rfl | omega)
  · rcases (show c1 = 0 ∨ c1 = 1 ∨ c1 = 2 ∨ c1 = 3 ∨ c1 = 4 ∨ c1 = 5 ∨ c1 = 6 ∨ c1 = 7 ∨ c1 = 8 ∨ c1 = 9 by omega) with rfl | rfl | rfl | rfl | rfl | rfl | rfl | rfl | rfl | rfl
    · refine ev_tswIn 1 56 dX12_count_1 (by decide) (by decide) rfl rfl ?_
      refine ev_aload_0 56 dX12_count_56 ?_
      refine ev_getA 57 3 dX12_count_57 fa_X12_13 (kd_131 hM) (pr_131_3 hN) rfl ?_
      refine ev_iconst 60 dX12_count_60 ⟨by decide, by decide⟩ ?_
      refine ev_iald 61 dX12_count_61 (kd_133 hM) ⟨by omega, by have := (ln_133 hM); omega⟩ ?_
      try simp only [v0, v1, v2, v3, v4, e1, e2]
      refine ev_iret 62 dX12_count_62 ?_ rfl
      exact QP_of (by (repeat' split) <;> first | rfl | omega)
    · refine ev_tswIn 1 63 dX12_count_1 (by decide) (by decide) rfl rfl ?_
      refine ev_aload_0 63 dX12_count_63 ?_
      refine ev_getA 64 3 dX12_count_64 fa_X12_13 (kd_131 hM) (pr_131_3 hN) rfl ?_
      refine ev_iconst 67 dX12_count_67 ⟨by decide, by decide⟩ ?_
      refine ev_iald 68 dX12_count_68 (kd_133 hM) ⟨by omega, by have := (ln_133 hM); omega⟩ ?_
      try simp only [v0, v1, v2, v3, v4, e1, e2]
      refine ev_iret 69 dX12_count_69 ?_ rfl
      exact QP_of (by (repeat' split) <;> first | rfl | omega)
    · refine ev_tswIn 1 70 dX12_count_1 (by decide) (by decide) rfl rfl ?_
      refine ev_aload_0 70 dX12_count_70 ?_
      refine ev_getA 71 3 dX12_count_71 fa_X12_13 (kd_131 hM) (pr_131_3 hN) rfl ?_
      refine ev_iconst 74 dX12_count_74 ⟨by decide, by decide⟩ ?_
      refine ev_iald 75 dX12_count_75 (kd_133 hM) ⟨by omega, by have := (ln_133 hM); omega⟩ ?_
      try simp only [v0, v1, v2, v3, v4, e1, e2]
      refine ev_iret 76 dX12_count_76 ?_ rfl
      exact QP_of (by (repeat' split) <;> first | rfl | omega)
    · refine ev_tswIn 1 77 dX12_count_1 (by decide) (by decide) rfl rfl ?_
      refine ev_aload_0 77 dX12_count_77 ?_
      refine ev_getA 78 8 dX12_count_78 fa_X12_29 (kd_131 hM) (pr_131_8 hN) rfl ?_
      refine ev_iconst 81 dX12_count_81 ⟨by decide, by decide⟩ ?_
      refine ev_iald 82 dX12_count_82 (kd_138 hM) ⟨by omega, by have := (ln_138 hM); omega⟩ ?_
      try simp only [v0, v1, v2, v3, v4, e1, e2]
      refine ev_iret 83 dX12_count_83 ?_ rfl
      exact QP_of (by (repeat' split) <;> first | rfl | omega)
    · refine ev_tswIn 1 84 dX12_count_1 (by decide) (by decide) rfl rfl ?_
      refine ev_aload_0 84 dX12_count_84 ?_
      refine ev_getA 85 8 dX12_count_85 fa_X12_29 (kd_131 hM) (pr_131_8 hN) rfl ?_
      refine ev_bipush 88 dX12_count_88 ⟨by decide, by decide⟩ ?_
      refine ev_iald 90 dX12_count_90 (kd_138 hM) ⟨by omega, by have := (ln_138 hM); omega⟩ ?_
      try simp only [v0, v1, v2, v3, v4, e1, e2]
      refine ev_iret 91 dX12_count_91 ?_ rfl
      exact QP_of (by (repeat' split) <;> first | rfl | omega)
    · refine ev_tswIn 1 92 dX12_count_1 (by decide) (by decide) rfl rfl ?_
      refine ev_aload_0 92 dX12_count_92 ?_
      refine ev_gI 93 11 11 dX12_count_93 fa_X12_105 (kd_131 hM) rfl rfl rfl ?_
      try simp only [v0, v1, v2, v3, v4, e1, e2]
      refine ev_iret 96 dX12_count_96 ?_ rfl
      exact QP_of (by (repeat' split) <;> first | rfl | omega)
    · refine ev_tswIn 1 97 dX12_count_1 (by decide) (by decide) rfl rfl ?_
      refine ev_aload_0 97 dX12_count_97 ?_
      refine ev_gI 98 13 13 dX12_count_98 fa_X12_108 (kd_131 hM) rfl rfl rfl ?_
      try simp only [v0, v1, v2, v3, v4, e1, e2]
      refine ev_iret 101 dX12_count_101 ?_ rfl
      exact QP_of (by (repeat' split) <;> first | rfl | omega)
    · refine ev_tswIn 1 102 dX12_count_1 (by decide) (by decide) rfl rfl ?_
      refine ev_aload_0 102 dX12_count_102 ?_
      refine ev_gI 103 10 10 dX12_count_103 fa_X12_111 (kd_131 hM) rfl rfl rfl ?_
      try simp only [v0, v1, v2, v3, v4, e1, e2]
      refine ev_iret 106 dX12_count_106 ?_ rfl
      exact QP_of (by (repeat' split) <;> first | rfl | omega)
    · refine ev_tswIn 1 107 dX12_count_1 (by decide) (by decide) rfl rfl ?_
      refine ev_aload_0 107 dX12_count_107 ?_
      refine ev_gI 108 9 9 dX12_count_108 fa_X12_114 (kd_131 hM) rfl rfl rfl ?_
      try simp only [v0, v1, v2, v3, v4, e1, e2]
      refine ev_iret 111 dX12_count_111 ?_ rfl
      exact QP_of (by (repeat' split) <;> first | rfl | omega)
    · refine ev_tswIn 1 112 dX12_count_1 (by decide) (by decide) rfl rfl ?_
      refine ev_aload_0 112 dX12_count_112 ?_
      refine ev_gI 113 0 0 dX12_count_113 fa_X12_66 (kd_131 hM) rfl rfl rfl ?_
      try simp only [v0, v1, v2, v3, v4, e1, e2]
      refine ev_iret 116 dX12_count_116 ?_ rfl
      exact QP_of (by (repeat' split) <;> first | rfl | omega)
theorem m_write {l : Launch} {g : Gt} {d : Nat} {Z : Zt} {I : It} {P : Pt'} (hM : LayM Z) (hN : LayQ P) (hlen : 0 ≤ I 131 0 ∧ I 131 0 ≤ 200) (c : Int) : Mt l g mX12_write (d + 1) 0 0 [vA 131, vI c] Z I P (QM (fun r I' => (¬ (32 ≤ c ∧ c ≤ 126) ∧ r = -1 ∧ I' = I) ∨ ((32 ≤ c ∧ c ≤ 126) ∧ ((I 131 0 < 200 ∧ r = I 131 0 + 1 ∧ I' = upI (upI I 132 (I 131 0) c) 131 0 (I 131 0 + 1)) ∨ (I 131 0 = 200 ∧ r = -3 ∧ I' = I)))) Z P) := by
  refine Mt.of kmX12_write (ls := [vA 131, vI c]) (fun _ => rfl) (fun _ => rfl) (okf_k (okf_k (okf_n rfl))) (fun hok => ?_)
  refine ev_iload_1 0 dX12_write_0 ?_
  refine ev_i2l 1 dX12_write_1 ?_
  refine ev_ldc2 2 dX12_write_2 kl_X12_58 ⟨by decide, by decide⟩ ?_
  refine ev_ldc2 5 dX12_write_5 kl_X12_60 ⟨by decide, by decide⟩ ?_
  refine ev_cSp_3 8 dX12_write_8 kmX12_in lk_X12_62 (m_in _ _ _) rfl rfl ?_
  refine ev_ifb_ne 11 16 dX12_write_11 rfl (fun h11 => ?_) (fun h11 => ?_)
  · refine ev_aload_0 16 dX12_write_16 ?_
    refine ev_gI 17 0 0 dX12_write_17 fa_X12_66 (kd_131 hM) rfl rfl rfl ?_
    refine ev_sipush 20 dX12_write_20 ⟨by decide, by decide⟩ ?_
    refine ev_jne 23 29 dX12_write_23 rfl (fun h23 => ?_) (fun h23 => ?_)
    · refine ev_aload_0 29 dX12_write_29 ?_
      refine ev_getA 30 1 dX12_write_30 fa_X12_7 (kd_131 hM) (pr_131_1 hN) rfl ?_
      refine ev_aload_0 33 dX12_write_33 ?_
      refine ev_gI 34 0 0 dX12_write_34 fa_X12_66 (kd_131 hM) rfl rfl rfl ?_
      refine ev_iload_1 37 dX12_write_37 ?_
      refine ev_i2b 38 dX12_write_38 ⟨by omega, by omega⟩ ?_
      refine ev_bast 39 dX12_write_39 (kd_132 hM) ⟨by omega, by have := (ln_132 hM); omega⟩ ⟨by omega, by omega⟩ ?_
      refine ev_aload_0 40 dX12_write_40 ?_
      refine ev_dupA 41 dX12_write_41 ?_
      refine ev_gI 42 0 0 dX12_write_42 fa_X12_66 (kd_131 hM) rfl rfl rfl ?_
      try simp (disch := omega) only [upI_s, upI_a, upI_k]
      refine ev_iconst 45 dX12_write_45 ⟨by decide, by decide⟩ ?_
      refine ev_iadd 46 dX12_write_46 ⟨by omega, by omega⟩ ?_
      refine ev_pI 47 0 0 dX12_write_47 fp_X12_66 (kd_131 hM) rfl rfl ?_
      refine ev_aload_0 50 dX12_write_50 ?_
      refine ev_gI 51 0 0 dX12_write_51 fa_X12_66 (kd_131 hM) rfl rfl rfl ?_
      try simp (disch := omega) only [upI_s, upI_a, upI_k]
      refine ev_iret 54 dX12_write_54 ?_ rfl
      exact QM_of (Or.inr ⟨by omega, Or.inl ⟨by omega, rfl, rfl⟩⟩)
    · refine ev_bipush 26 dX12_write_26 ⟨by decide, by decide⟩ ?_
      refine ev_iret 28 dX12_write_28 ?_ rfl
      exact QM_of (Or.inr ⟨by omega, Or.inr ⟨by omega, rfl, rfl⟩⟩)
  · refine ev_iconst 14 dX12_write_14 ⟨by decide, by decide⟩ ?_
    refine ev_iret 15 dX12_write_15 ?_ rfl
    exact QM_of (Or.inl ⟨by omega, rfl, rfl⟩)
theorem m_wipe {l : Launch} {g : Gt} {d : Nat} {Z : Zt} {I : It} {P : Pt'} (hM : LayM Z) (hN : LayQ P) : Mt l g mX12_wipe d 0 0 [vA 131] Z I P (QM (fun r I' => r = I 131 0 ∧ I' = upI I 131 0 0) Z P) := by
  refine Mt.of kmX12_wipe (ls := [vA 131, vX]) (fun _ => rfl) (fun _ => rfl) (okf_k (okf_n rfl)) (fun hok => ?_)
  refine ev_aload_0 0 dX12_wipe_0 ?_
  refine ev_gI 1 0 0 dX12_wipe_1 fa_X12_66 (kd_131 hM) rfl rfl rfl ?_
  refine ev_istore_1 4 dX12_wipe_4 rfl rfl ?_
  refine ev_aload_0 5 dX12_wipe_5 ?_
  refine ev_iconst 6 dX12_wipe_6 ⟨by decide, by decide⟩ ?_
  refine ev_pI 7 0 0 dX12_wipe_7 fp_X12_66 (kd_131 hM) rfl rfl ?_
  refine ev_iload_1 10 dX12_wipe_10 ?_
  refine ev_iret 11 dX12_wipe_11 ?_ rfl
  exact QM_of ⟨rfl, rfl⟩
theorem m_hush {l : Launch} {g : Gt} {d : Nat} {Z : Zt} {I : It} {P : Pt'} (hM : LayM Z) (hN : LayQ P) : Mt l g mX12_hush d 0 0 [vA 131] Z I P (QM (fun r I' => r = I 131 11 ∧ I' = upI I 131 11 0) Z P) := by
  refine Mt.of kmX12_hush (ls := [vA 131, vX]) (fun _ => rfl) (fun _ => rfl) (okf_k (okf_n rfl)) (fun hok => ?_)
  refine ev_aload_0 0 dX12_hush_0 ?_
  refine ev_gI 1 11 11 dX12_hush_1 fa_X12_105 (kd_131 hM) rfl rfl rfl ?_
  refine ev_istore_1 4 dX12_hush_4 rfl rfl ?_
  refine ev_aload_0 5 dX12_hush_5 ?_
  refine ev_iconst 6 dX12_hush_6 ⟨by decide, by decide⟩ ?_
  refine ev_pI 7 11 11 dX12_hush_7 fp_X12_105 (kd_131 hM) rfl rfl ?_
  refine ev_iload_1 10 dX12_hush_10 ?_
  refine ev_iret 11 dX12_hush_11 ?_ rfl
  exact QM_of ⟨rfl, rfl⟩
theorem m_forget {l : Launch} {g : Gt} {d : Nat} {Z : Zt} {I : It} {P : Pt'} (hM : LayM Z) (hN : LayQ P) : Mt l g mX12_forget d 0 0 [vA 131] Z I P (QM (fun r I' => r = I 131 13 ∧ I' = upI I 131 13 0) Z P) := by
  refine Mt.of kmX12_forget (ls := [vA 131, vX]) (fun _ => rfl) (fun _ => rfl) (okf_k (okf_n rfl)) (fun hok => ?_)
  refine ev_aload_0 0 dX12_forget_0 ?_
  refine ev_gI 1 13 13 dX12_forget_1 fa_X12_108 (kd_131 hM) rfl rfl rfl ?_
  refine ev_istore_1 4 dX12_forget_4 rfl rfl ?_
  refine ev_aload_0 5 dX12_forget_5 ?_
  refine ev_iconst 6 dX12_forget_6 ⟨by decide, by decide⟩ ?_
  refine ev_pI 7 13 13 dX12_forget_7 fp_X12_108 (kd_131 hM) rfl rfl ?_
  refine ev_iload_1 10 dX12_forget_10 ?_
  refine ev_iret 11 dX12_forget_11 ?_ rfl
  exact QM_of ⟨rfl, rfl⟩
theorem m_heard {l : Launch} {g : Gt} {d : Nat} {Z : Zt} {I : It} {P : Pt'} (hM : LayM Z) (hN : LayQ P) {α : Nat → Int → Int} (hV : VM I α) (hW : WF α) {σ : Nat → Int → Int} (hR : RT 0 I α σ) (hc : ∀ t, 0 ≤ t → t < 6 → σ 2 t = 0 ∨ σ 2 t = 1) (hn : 0 ≤ I 131 11 ∧ I 131 11 ≤ 6) (t b : Int) : Mt l g mX12_heard (d + 2) 0 0 [vA 131, vI t, vI b] Z I P (QM (fun r I' => (¬ ((0 ≤ t ∧ t < α 0 5) ∧ (0 ≤ b ∧ b ≤ 99)) ∧ r = -1 ∧ I' = I) ∨ (((0 ≤ t ∧ t < α 0 5) ∧ (0 ≤ b ∧ b ≤ 99)) ∧ ((σ 2 t ≠ 0 ∧ r = -2 ∧ I' = I) ∨ (σ 2 t = 0 ∧ ((I 131 11 < 6 ∧ r = I 131 11 + 1 ∧ I' = upI (upI (upI I 139 (2 * I 131 11) t) 139 (2 * I 131 11 + 1) b) 131 11 (I 131 11 + 1)) ∨ (I 131 11 = 6 ∧ r = -3 ∧ I' = I)))))) Z P) := by
  have v0 := hV.1.1
  have v1 := hV.1.2.1
  have v2 := hV.1.2.2.1
  have v3 := hV.1.2.2.2.1
  have v4 := hV.1.2.2.2.2
  have w0 := hW.1
  have w1 := hW.2.1
  have w5 := hW.2.2.1
  have w10 := hW.2.2.2.1
  have hRT := hR
  refine Mt.of kmX12_heard (ls := [vA 131, vI t, vI b]) (fun _ => rfl) (fun _ => rfl) (okf_k (okf_k (okf_k (okf_n rfl)))) (fun hok => ?_)
  refine ev_aload_0 0 dX12_heard_0 ?_
  refine ev_iload_1 1 dX12_heard_1 ?_
  refine ev_cVp_1 2 dX12_heard_2 kmX12_isTown lk_X12_133 (kd_131 hM) (m_isTown hM hN hV hW _) rfl rfl ?_
  refine ev_ifb_eq 5 20 dX12_heard_5 rfl (fun h5 => ?_) (fun h5 => ?_)
  · refine ev_iconst 20 dX12_heard_20 ⟨by decide, by decide⟩ ?_
    refine ev_iret 21 dX12_heard_21 ?_ rfl
    exact QM_of (Or.inl ⟨by omega, rfl, rfl⟩)
  · refine ev_iload_2 8 dX12_heard_8 ?_
    refine ev_i2l 9 dX12_heard_9 ?_
    refine ev_lconst0 10 dX12_heard_10 ?_
    refine ev_ldc2 11 dX12_heard_11 kl_X12_200 ⟨by decide, by decide⟩ ?_
    refine ev_cSp_3 14 dX12_heard_14 kmX12_in lk_X12_62 (m_in _ _ _) rfl rfl ?_
    refine ev_ifb_ne 17 22 dX12_heard_17 rfl (fun h17 => ?_) (fun h17 => ?_)
    · have e3 := hc t (by omega) (by omega)
      refine ev_aload_0 22 dX12_heard_22 ?_
      refine ev_iload_1 23 dX12_heard_23 ?_
      refine ev_cVp_1 24 dX12_heard_24 kmX12_isCut lk_X12_165 (kd_131 hM) (m_isCut hM hN hV hW hRT (by omega) (by omega)) rfl rfl ?_
      refine ev_ifb_ne 27 39 dX12_heard_27 rfl (fun h27 => ?_) (fun h27 => ?_)
      · refine ev_aload_0 39 dX12_heard_39 ?_
        refine ev_iload_1 40 dX12_heard_40 ?_
        refine ev_cVp_1 41 dX12_heard_41 kmX12_isCut lk_X12_165 (kd_131 hM) (m_isCut hM hN hV hW hRT (by omega) (by omega)) rfl rfl ?_
        refine ev_ifb_eq 44 52 dX12_heard_44 rfl (fun h44 => ?_) (fun h44 => ?_)
        · refine ev_bipush 52 dX12_heard_52 ⟨by decide, by decide⟩ ?_
          refine ev_iret 54 dX12_heard_54 ?_ rfl
          first
            | exact QM_of (Or.inr ⟨by omega, Or.inl ⟨by omega, rfl, rfl⟩⟩)
            | exact QM_of (Or.inr ⟨by omega, Or.inr ⟨by omega, Or.inr ⟨by omega, rfl, rfl⟩⟩⟩)
            | (exfalso; omega)
        · refine ev_bipush 47 dX12_heard_47 ⟨by decide, by decide⟩ ?_
          refine ev_goto 49 54 dX12_heard_49 rfl ?_
          refine ev_iret 54 dX12_heard_54 ?_ rfl
          first
            | exact QM_of (Or.inr ⟨by omega, Or.inl ⟨by omega, rfl, rfl⟩⟩)
            | exact QM_of (Or.inr ⟨by omega, Or.inr ⟨by omega, Or.inr ⟨by omega, rfl, rfl⟩⟩⟩)
            | (exfalso; omega)
      · refine ev_aload_0 30 dX12_heard_30 ?_
        refine ev_gI 31 11 11 dX12_heard_31 fa_X12_105 (kd_131 hM) rfl rfl rfl ?_
        refine ev_bipush 34 dX12_heard_34 ⟨by decide, by decide⟩ ?_
        refine ev_jne 36 55 dX12_heard_36 rfl (fun h36 => ?_) (fun h36 => ?_)
        · refine ev_aload_0 55 dX12_heard_55 ?_
          refine ev_getA 56 12 dX12_heard_56 fa_X12_32 (kd_131 hM) (pr_131_12 hN) rfl ?_
          refine ev_iconst 59 dX12_heard_59 ⟨by decide, by decide⟩ ?_
          refine ev_aload_0 60 dX12_heard_60 ?_
          refine ev_gI 61 11 11 dX12_heard_61 fa_X12_105 (kd_131 hM) rfl rfl rfl ?_
          refine ev_imul 64 dX12_heard_64 ⟨by omega, by omega⟩ ?_
          refine ev_iload_1 65 dX12_heard_65 ?_
          refine ev_iast 66 dX12_heard_66 (kd_139 hM) ⟨by omega, by have := (ln_139 hM); omega⟩ ?_
          refine ev_aload_0 67 dX12_heard_67 ?_
          refine ev_getA 68 12 dX12_heard_68 fa_X12_32 (kd_131 hM) (pr_131_12 hN) rfl ?_
          refine ev_iconst 71 dX12_heard_71 ⟨by decide, by decide⟩ ?_
          refine ev_aload_0 72 dX12_heard_72 ?_
          refine ev_gI 73 11 11 dX12_heard_73 fa_X12_105 (kd_131 hM) rfl rfl rfl ?_
          try simp (disch := omega) only [upI_s, upI_a, upI_k]
          refine ev_imul 76 dX12_heard_76 ⟨by omega, by omega⟩ ?_
          refine ev_iconst 77 dX12_heard_77 ⟨by decide, by decide⟩ ?_
          refine ev_iadd 78 dX12_heard_78 ⟨by omega, by omega⟩ ?_
          refine ev_iload_2 79 dX12_heard_79 ?_
          refine ev_iast 80 dX12_heard_80 (kd_139 hM) ⟨by omega, by have := (ln_139 hM); omega⟩ ?_
          refine ev_aload_0 81 dX12_heard_81 ?_
          refine ev_dupA 82 dX12_heard_82 ?_
          refine ev_gI 83 11 11 dX12_heard_83 fa_X12_105 (kd_131 hM) rfl rfl rfl ?_
          try simp (disch := omega) only [upI_s, upI_a, upI_k]
          refine ev_iconst 86 dX12_heard_86 ⟨by decide, by decide⟩ ?_
          refine ev_iadd 87 dX12_heard_87 ⟨by omega, by omega⟩ ?_
          refine ev_pI 88 11 11 dX12_heard_88 fp_X12_105 (kd_131 hM) rfl rfl ?_
          refine ev_aload_0 91 dX12_heard_91 ?_
          refine ev_gI 92 11 11 dX12_heard_92 fa_X12_105 (kd_131 hM) rfl rfl rfl ?_
          try simp (disch := omega) only [upI_s, upI_a, upI_k]
          refine ev_iret 95 dX12_heard_95 ?_ rfl
          exact QM_of (Or.inr ⟨by omega, Or.inr ⟨by omega, Or.inl ⟨by omega, rfl, rfl⟩⟩⟩)
        · refine ev_aload_0 39 dX12_heard_39 ?_
          refine ev_iload_1 40 dX12_heard_40 ?_
          refine ev_cVp_1 41 dX12_heard_41 kmX12_isCut lk_X12_165 (kd_131 hM) (m_isCut hM hN hV hW hRT (by omega) (by omega)) rfl rfl ?_
          try simp (disch := omega) only [upI_s, upI_a, upI_k]
          refine ev_ifb_eq 44 52 dX12_heard_44 rfl (fun h44 => ?_) (fun h44 => ?_)
          · refine ev_bipush 52 dX12_heard_52 ⟨by decide, by decide⟩ ?_
            refine ev_iret 54 dX12_heard_54 ?_ rfl
            first
              | exact QM_of (Or.inr ⟨by omega, Or.inl ⟨by omega, rfl, rfl⟩⟩)
              | exact QM_of (Or.inr ⟨by omega, Or.inr ⟨by omega, Or.inr ⟨by omega, rfl, rfl⟩⟩⟩)
              | (exfalso; omega)
          · refine ev_bipush 47 dX12_heard_47 ⟨by decide, by decide⟩ ?_
            refine ev_goto 49 54 dX12_heard_49 rfl ?_
            refine ev_iret 54 dX12_heard_54 ?_ rfl
            first
              | exact QM_of (Or.inr ⟨by omega, Or.inl ⟨by omega, rfl, rfl⟩⟩)
              | exact QM_of (Or.inr ⟨by omega, Or.inr ⟨by omega, Or.inr ⟨by omega, rfl, rfl⟩⟩⟩)
              | (exfalso; omega)
    · refine ev_iconst 20 dX12_heard_20 ⟨by decide, by decide⟩ ?_
      refine ev_iret 21 dX12_heard_21 ?_ rfl
      exact QM_of (Or.inl ⟨by omega, rfl, rfl⟩)
theorem m_drifted {l : Launch} {g : Gt} {d : Nat} {Z : Zt} {I : It} {P : Pt'} (hM : LayM Z) (hN : LayQ P) {α : Nat → Int → Int} (hV : VM I α) (hW : WF α) (hn : 0 ≤ I 131 13 ∧ I 131 13 ≤ 6) (a b c e : Int) : Mt l g mX12_drifted (d + 2) 0 0 [vA 131, vI a, vI b, vI c, vI e] Z I P (QM (fun r I' => (¬ ((0 ≤ a ∧ a < α 0 1) ∧ (0 ≤ b ∧ b < α 0 0) ∧ (0 ≤ c ∧ c < α 0 0) ∧ (1 ≤ e ∧ e ≤ 50)) ∧ r = -1 ∧ I' = I) ∨ (((0 ≤ a ∧ a < α 0 1) ∧ (0 ≤ b ∧ b < α 0 0) ∧ (0 ≤ c ∧ c < α 0 0) ∧ (1 ≤ e ∧ e ≤ 50)) ∧ ((I 131 13 < 6 ∧ r = I 131 13 + 1 ∧ I' = upI (upI (upI (upI (upI I 140 (4 * I 131 13) a) 140 (4 * I 131 13 + 1) b) 140 (4 * I 131 13 + 2) c) 140 (4 * I 131 13 + 3) e) 131 13 (I 131 13 + 1)) ∨ (I 131 13 = 6 ∧ r = -3 ∧ I' = I)))) Z P) := by
  have v0 := hV.1.1
  have v1 := hV.1.2.1
  have v2 := hV.1.2.2.1
  have v3 := hV.1.2.2.2.1
  have v4 := hV.1.2.2.2.2
  have w0 := hW.1
  have w1 := hW.2.1
  have w5 := hW.2.2.1
  have w10 := hW.2.2.2.1
  refine Mt.of kmX12_drifted (ls := [vA 131, vI a, vI b, vI c, vI e]) (fun _ => rfl) (fun _ => rfl) (okf_k (okf_k (okf_k (okf_k (okf_k (okf_n rfl)))))) (fun hok => ?_)
  refine ev_aload_0 0 dX12_drifted_0 ?_
  refine ev_iload_1 1 dX12_drifted_1 ?_
  refine ev_cVp_1 2 dX12_drifted_2 kmX12_isLevel lk_X12_130 (kd_131 hM) (m_isLevel hM hN hV hW _) rfl rfl ?_
  refine ev_ifb_eq 5 37 dX12_drifted_5 rfl (fun h5 => ?_) (fun h5 => ?_)
  · refine ev_iconst 37 dX12_drifted_37 ⟨by decide, by decide⟩ ?_
    refine ev_iret 38 dX12_drifted_38 ?_ rfl
    exact QM_of (Or.inl ⟨by omega, rfl, rfl⟩)
  · refine ev_aload_0 8 dX12_drifted_8 ?_
    refine ev_iload_2 9 dX12_drifted_9 ?_
    refine ev_cVp_1 10 dX12_drifted_10 kmX12_isPlace lk_X12_172 (kd_131 hM) (m_isPlace hM hN hV hW _) rfl rfl ?_
    refine ev_ifb_eq 13 37 dX12_drifted_13 rfl (fun h13 => ?_) (fun h13 => ?_)
    · refine ev_iconst 37 dX12_drifted_37 ⟨by decide, by decide⟩ ?_
      refine ev_iret 38 dX12_drifted_38 ?_ rfl
      exact QM_of (Or.inl ⟨by omega, rfl, rfl⟩)
    · refine ev_aload_0 16 dX12_drifted_16 ?_
      refine ev_iload_3 17 dX12_drifted_17 ?_
      refine ev_cVp_1 18 dX12_drifted_18 kmX12_isPlace lk_X12_172 (kd_131 hM) (m_isPlace hM hN hV hW _) rfl rfl ?_
      refine ev_ifb_eq 21 37 dX12_drifted_21 rfl (fun h21 => ?_) (fun h21 => ?_)
      · refine ev_iconst 37 dX12_drifted_37 ⟨by decide, by decide⟩ ?_
        refine ev_iret 38 dX12_drifted_38 ?_ rfl
        exact QM_of (Or.inl ⟨by omega, rfl, rfl⟩)
      · refine ev_iload_4 24 dX12_drifted_24 ?_
        refine ev_i2l 26 dX12_drifted_26 ?_
        refine ev_lconst1 27 dX12_drifted_27 ?_
        refine ev_ldc2 28 dX12_drifted_28 kl_X12_238 ⟨by decide, by decide⟩ ?_
        refine ev_cSp_3 31 dX12_drifted_31 kmX12_in lk_X12_62 (m_in _ _ _) rfl rfl ?_
        refine ev_ifb_ne 34 39 dX12_drifted_34 rfl (fun h34 => ?_) (fun h34 => ?_)
        · refine ev_aload_0 39 dX12_drifted_39 ?_
          refine ev_gI 40 13 13 dX12_drifted_40 fa_X12_108 (kd_131 hM) rfl rfl rfl ?_
          refine ev_bipush 43 dX12_drifted_43 ⟨by decide, by decide⟩ ?_
          refine ev_jne 45 51 dX12_drifted_45 rfl (fun h45 => ?_) (fun h45 => ?_)
          · refine ev_aload_0 51 dX12_drifted_51 ?_
            refine ev_getA 52 14 dX12_drifted_52 fa_X12_35 (kd_131 hM) (pr_131_14 hN) rfl ?_
            refine ev_iconst 55 dX12_drifted_55 ⟨by decide, by decide⟩ ?_
            refine ev_aload_0 56 dX12_drifted_56 ?_
            refine ev_gI 57 13 13 dX12_drifted_57 fa_X12_108 (kd_131 hM) rfl rfl rfl ?_
            refine ev_imul 60 dX12_drifted_60 ⟨by omega, by omega⟩ ?_
            refine ev_iload_1 61 dX12_drifted_61 ?_
            refine ev_iast 62 dX12_drifted_62 (kd_140 hM) ⟨by omega, by have := (ln_140 hM); omega⟩ ?_
            refine ev_aload_0 63 dX12_drifted_63 ?_
            refine ev_getA 64 14 dX12_drifted_64 fa_X12_35 (kd_131 hM) (pr_131_14 hN) rfl ?_
            refine ev_iconst 67 dX12_drifted_67 ⟨by decide, by decide⟩ ?_
            refine ev_aload_0 68 dX12_drifted_68 ?_
            refine ev_gI 69 13 13 dX12_drifted_69 fa_X12_108 (kd_131 hM) rfl rfl rfl ?_
            try simp (disch := omega) only [upI_s, upI_a, upI_k]
            refine ev_imul 72 dX12_drifted_72 ⟨by omega, by omega⟩ ?_
            refine ev_iconst 73 dX12_drifted_73 ⟨by decide, by decide⟩ ?_
            refine ev_iadd 74 dX12_drifted_74 ⟨by omega, by omega⟩ ?_
            refine ev_iload_2 75 dX12_drifted_75 ?_
            refine ev_iast 76 dX12_drifted_76 (kd_140 hM) ⟨by omega, by have := (ln_140 hM); omega⟩ ?_
            refine ev_aload_0 77 dX12_drifted_77 ?_
            refine ev_getA 78 14 dX12_drifted_78 fa_X12_35 (kd_131 hM) (pr_131_14 hN) rfl ?_
            refine ev_iconst 81 dX12_drifted_81 ⟨by decide, by decide⟩ ?_
            refine ev_aload_0 82 dX12_drifted_82 ?_
            refine ev_gI 83 13 13 dX12_drifted_83 fa_X12_108 (kd_131 hM) rfl rfl rfl ?_
            try simp (disch := omega) only [upI_s, upI_a, upI_k]
            refine ev_imul 86 dX12_drifted_86 ⟨by omega, by omega⟩ ?_
            refine ev_iconst 87 dX12_drifted_87 ⟨by decide, by decide⟩ ?_
            refine ev_iadd 88 dX12_drifted_88 ⟨by omega, by omega⟩ ?_
            refine ev_iload_3 89 dX12_drifted_89 ?_
            refine ev_iast 90 dX12_drifted_90 (kd_140 hM) ⟨by omega, by have := (ln_140 hM); omega⟩ ?_
            refine ev_aload_0 91 dX12_drifted_91 ?_
            refine ev_getA 92 14 dX12_drifted_92 fa_X12_35 (kd_131 hM) (pr_131_14 hN) rfl ?_
            refine ev_iconst 95 dX12_drifted_95 ⟨by decide, by decide⟩ ?_
            refine ev_aload_0 96 dX12_drifted_96 ?_
            refine ev_gI 97 13 13 dX12_drifted_97 fa_X12_108 (kd_131 hM) rfl rfl rfl ?_
            try simp (disch := omega) only [upI_s, upI_a, upI_k]
            refine ev_imul 100 dX12_drifted_100 ⟨by omega, by omega⟩ ?_
            refine ev_iconst 101 dX12_drifted_101 ⟨by decide, by decide⟩ ?_
            refine ev_iadd 102 dX12_drifted_102 ⟨by omega, by omega⟩ ?_
            refine ev_iload_4 103 dX12_drifted_103 ?_
            refine ev_iast 105 dX12_drifted_105 (kd_140 hM) ⟨by omega, by have := (ln_140 hM); omega⟩ ?_
            refine ev_aload_0 106 dX12_drifted_106 ?_
            refine ev_dupA 107 dX12_drifted_107 ?_
            refine ev_gI 108 13 13 dX12_drifted_108 fa_X12_108 (kd_131 hM) rfl rfl rfl ?_
            try simp (disch := omega) only [upI_s, upI_a, upI_k]
            refine ev_iconst 111 dX12_drifted_111 ⟨by decide, by decide⟩ ?_
            refine ev_iadd 112 dX12_drifted_112 ⟨by omega, by omega⟩ ?_
            refine ev_pI 113 13 13 dX12_drifted_113 fp_X12_108 (kd_131 hM) rfl rfl ?_
            refine ev_aload_0 116 dX12_drifted_116 ?_
            refine ev_gI 117 13 13 dX12_drifted_117 fa_X12_108 (kd_131 hM) rfl rfl rfl ?_
            try simp (disch := omega) only [upI_s, upI_a, upI_k]
            refine ev_iret 120 dX12_drifted_120 ?_ rfl
            exact QM_of (Or.inr ⟨by omega, Or.inl ⟨by omega, rfl, rfl⟩⟩)
          · refine ev_bipush 48 dX12_drifted_48 ⟨by decide, by decide⟩ ?_
            refine ev_iret 50 dX12_drifted_50 ?_ rfl
            exact QM_of (Or.inr ⟨by omega, Or.inr ⟨by omega, rfl, rfl⟩⟩)
        · refine ev_iconst 37 dX12_drifted_37 ⟨by decide, by decide⟩ ?_
          refine ev_iret 38 dX12_drifted_38 ?_ rfl
          exact QM_of (Or.inl ⟨by omega, rfl, rfl⟩)
