/-! the reference: whence, and how few ropes -/
theorem upI_bk {I : It} {a : Nat} {k x y : Int} (h : I a k = y) : upI (upI I a k x) a k y = I := by
  funext c j; unfold upI; by_cases z : c = a ∧ j = k
  · rw [if_pos z, z.1, z.2, h]
  · rw [if_neg z, if_neg z]
/-- the least, counted from above -/
def LD (p : Int → Prop) (v r : Int) : Prop := (r = -4 ∧ ∀ u, v < u → u < 192 → ¬ p u) ∨ (v < r ∧ r < 192 ∧ p r ∧ ∀ u, v < u → u < r → ¬ p u)
theorem LD.lw {p : Int → Prop} {r : Int} (h : LD p (-1) r) : LW p 192 r := by
  rcases h with ⟨h1, h2⟩ | ⟨h1, h2, h3, h4⟩
  · exact Or.inl ⟨h1, fun v a b => h2 v (by omega) b⟩
  · exact Or.inr ⟨by omega, h2, h3, fun v a b => h4 v (by omega) b⟩
theorem LD.no {p : Int → Prop} {v r : Int} (h : LD p v r) (hp : ¬ p v) : LD p (v - 1) r := by
  rcases h with ⟨h1, h2⟩ | ⟨h1, h2, h3, h4⟩
  · exact Or.inl ⟨h1, fun u a b => by
      by_cases z : u = v
      · subst z; exact hp
      · exact h2 u (by omega) b⟩
  · exact Or.inr ⟨by omega, h2, h3, fun u a b => by
      by_cases z : u = v
      · subst z; exact hp
      · exact h4 u (by omega) b⟩
theorem LD.yes {p : Int → Prop} {v r : Int} (h : LD p v r) (h0 : v < 192) (hp : p v) : LD p (v - 1) v := Or.inr ⟨by omega, h0, hp, fun u a b => by omega⟩
/-- towns as they are tried -/
def HU (α : Nat → Int → Int) (h : Int → Int) (I : It) : Prop := ∀ t, 0 ≤ t → t < α 0 5 → I 142 t = h t ∧ (0 ≤ h t ∧ h t < α 0 0)
theorem HU.up {α : Nat → Int → Int} {h : Int → Int} {I : It} {t x : Int} (k : HU α h I) (hx : 0 ≤ x ∧ x < α 0 0) : HU α (upH h t x) (upI I 142 t x) := fun u a b => by
  by_cases z : u = t
  · subst z; rw [upI_s, upH_s]; exact ⟨rfl, hx⟩
  · rw [upI_k z, upH_k z]; exact k u a b
theorem m_isWhence {l : Launch} {g : Gt} {d : Nat} {Z : Zt} {I : It} {P : Pt'} (hM : LayM Z) (hN : LayQ P) {α : Nat → Int → Int} (hV : VM I α) (hW : WF α) {σ : Nat → Int → Int} (hR : RT 0 I α σ) (hWS : WS α σ) (hfo : FO I α) (hn : 0 ≤ I 131 11 ∧ I 131 11 ≤ 6) (hτ : ∀ i, 0 ≤ i → i < I 131 11 → (0 ≤ I 139 (2 * i) ∧ I 139 (2 * i) < α 0 5) ∧ (0 ≤ I 139 (2 * i + 1) ∧ I 139 (2 * i + 1) ≤ 99)) {v : Int} (hv : 0 ≤ v ∧ v < 24 * α 0 1) : Mt l g mX12_isWhence (d + 2) 0 0 [vA 131, vI v] Z I P (QP (b2 (op α v ∧ CS 100000 α σ (I 131 11) (fun i => I 139 (2 * i)) (fun i => I 139 (2 * i + 1)) v)) Z I P) := by
  have v0 := hV.1.1
  have v1 := hV.1.2.1
  have v2 := hV.1.2.2.1
  have v3 := hV.1.2.2.2.1
  have v4 := hV.1.2.2.2.2
  have w0 := hW.1
  have w1 := hW.2.1
  have w5 := hW.2.2.1
  have w10 := hW.2.2.2.1
  have hRT := hR
  have hcs : CS 100000 α σ (I 131 11) (fun i => I 139 (2 * i)) (fun i => I 139 (2 * i + 1)) v ↔ alB (fun i => dS 100000 α v (24 * α 4 (I 139 (2 * i)) + σ 1 (I 139 (2 * i))) < 100000 ∧ I 139 (2 * i + 1) - dS 100000 α v (24 * α 4 (I 139 (2 * i)) + σ 1 (I 139 (2 * i))) = I 139 1 - dS 100000 α v (24 * α 4 (I 139 0) + σ 1 (I 139 0))) (I 131 11) := by
    unfold CS alB
    constructor
    · intro z i a c
      have := z i a c
      dsimp only at this ⊢
      rw [dS_sy hW v, dS_sy hW v (24 * α 4 (I 139 0) + σ 1 (I 139 0))]
      rw [show (2 * 0 : Int) = 0 by omega, show (0 + 1 : Int) = 1 by omega] at this
      exact this
    · intro z i a c
      have := z i a c
      dsimp only at this ⊢
      rw [dS_sy hW v, dS_sy hW v (24 * α 4 (I 139 0) + σ 1 (I 139 0))] at this
      rw [show (2 * 0 : Int) = 0 by omega, show (0 + 1 : Int) = 1 by omega]
      exact this
  refine Mt.of kmX12_isWhence (ls := [vA 131, vI v, vX, vX, vX, vX]) (fun _ => rfl) (fun _ => rfl) (okf_k (okf_k (okf_n rfl))) (fun hok => ?_)
  have fin : ∀ (i y : Int) (vx vy : Vv), 0 ≤ i → i ≤ I 131 11 → (y = 0 ∨ y = 1) → (y = 1 ↔ (op α v ∧ alB (fun i => dS 100000 α v (24 * α 4 (I 139 (2 * i)) + σ 1 (I 139 (2 * i))) < 100000 ∧ I 139 (2 * i + 1) - dS 100000 α v (24 * α 4 (I 139 (2 * i)) + σ 1 (I 139 (2 * i))) = I 139 1 - dS 100000 α v (24 * α 4 (I 139 0) + σ 1 (I 139 0))) i)) → (y = 0 ∨ i = I 131 11) → Ev l g mX12_isWhence (d + 2) 0 0 Z I P 100 [vA 131, vI v, vI y, vI i, vx, vy] [] (QP (b2 (op α v ∧ CS 100000 α σ (I 131 11) (fun i => I 139 (2 * i)) (fun i => I 139 (2 * i + 1)) v)) Z I P) := by
    intro i y vx vy h0 h1 hy hq he
    refine ev_iload_2 100 dX12_isWhence_100 ?_
    refine ev_zret 101 dX12_isWhence_101 hy ?_ rfl
    refine QP_of (b2_i hy ?_)
    rw [hcs, hq]
    rcases he with e | e
    · exact ⟨fun z => by have := hq.mpr z; omega, fun z => by have := hq.mpr ⟨z.1, fun j a b => z.2 j a (by omega)⟩; omega⟩
    · rw [e]
  have loop : ∀ (r : Nat) (i y : Int) (vx vy : Vv), 0 ≤ i → i + r = I 131 11 → (y = 0 ∨ y = 1) → (y = 1 ↔ (op α v ∧ alB (fun i => dS 100000 α v (24 * α 4 (I 139 (2 * i)) + σ 1 (I 139 (2 * i))) < 100000 ∧ I 139 (2 * i + 1) - dS 100000 α v (24 * α 4 (I 139 (2 * i)) + σ 1 (I 139 (2 * i))) = I 139 1 - dS 100000 α v (24 * α 4 (I 139 0) + σ 1 (I 139 0))) i)) → Ev l g mX12_isWhence (d + 2) 0 0 Z I P 8 [vA 131, vI v, vI y, vI i, vx, vy] [] (QP (b2 (op α v ∧ CS 100000 α σ (I 131 11) (fun i => I 139 (2 * i)) (fun i => I 139 (2 * i + 1)) v)) Z I P) := by
    intro r
    induction r with
    | zero =>
      intro i y vx vy h0 h1 hy hq
      refine ev_iload_3 8 dX12_isWhence_8 ?_
      refine ev_aload_0 9 dX12_isWhence_9 ?_
      refine ev_gI 10 11 11 dX12_isWhence_10 fa_X12_105 (kd_131 hM) rfl rfl rfl ?_
      refine ev_icmp_ge 13 100 dX12_isWhence_13 rfl (fun h13 => ?_) (fun h13 => ?_)
      · exact fin _ _ _ _ h0 (by omega) hy hq (Or.inr (by omega))
      · exfalso; omega
    | succ r ih =>
      intro i y vx vy h0 h1 hy hq
      obtain ⟨t1, -⟩ := hτ i h0 (by omega)
      obtain ⟨t0, -⟩ := hτ 0 (by omega) (by omega)
      rw [show (2 * 0 : Int) = 0 by omega] at t0
      have a1 := (hW.2.2.2.2.2.2.1 _ t1.1 t1.2).1
      have a0 := (hW.2.2.2.2.2.2.1 _ t0.1 t0.2).1
      have x1 := hWS.2.2.1 _ t1.1 t1.2
      have x0 := hWS.2.2.1 _ t0.1 t0.2
      have d1 := hfo v (24 * α 4 (I 139 (2 * i)) + σ 1 (I 139 (2 * i))) (by omega) (by omega) (by omega) (by omega)
      have d0 := hfo v (24 * α 4 (I 139 0) + σ 1 (I 139 0)) (by omega) (by omega) (by omega) (by omega)
      have b1 := dS_r hW (cap := 100000) (by omega) v (24 * α 4 (I 139 (2 * i)) + σ 1 (I 139 (2 * i)))
      have b0 := dS_r hW (cap := 100000) (by omega) v (24 * α 4 (I 139 0) + σ 1 (I 139 0))
      have y0 := (hτ 0 (by omega) (by omega)).2
      rw [show (2 * 0 + 1 : Int) = 1 by omega] at y0
      have y1 := (hτ i h0 (by omega)).2
      refine ev_iload_3 8 dX12_isWhence_8 ?_
      refine ev_aload_0 9 dX12_isWhence_9 ?_
      refine ev_gI 10 11 11 dX12_isWhence_10 fa_X12_105 (kd_131 hM) rfl rfl rfl ?_
      try simp only [d1, d0]
      refine ev_icmp_ge 13 100 dX12_isWhence_13 rfl (fun h13 => ?_) (fun h13 => ?_)
      · exact fin _ _ _ _ h0 (by omega) hy hq (by omega)
      · refine ev_iload_2 16 dX12_isWhence_16 ?_
        refine ev_if_eq 17 100 dX12_isWhence_17 rfl (fun h17 => ?_) (fun h17 => ?_)
        · exact fin _ _ _ _ h0 (by omega) hy hq (by omega)
        · refine ev_aload_0 20 dX12_isWhence_20 ?_
          refine ev_iload_1 21 dX12_isWhence_21 ?_
          refine ev_aload_0 22 dX12_isWhence_22 ?_
          refine ev_aload_0 23 dX12_isWhence_23 ?_
          refine ev_getA 24 12 dX12_isWhence_24 fa_X12_32 (kd_131 hM) (pr_131_12 hN) rfl ?_
          refine ev_iconst 27 dX12_isWhence_27 ⟨by decide, by decide⟩ ?_
          refine ev_iload_3 28 dX12_isWhence_28 ?_
          refine ev_imul 29 dX12_isWhence_29 ⟨by omega, by omega⟩ ?_
          refine ev_iald 30 dX12_isWhence_30 (kd_139 hM) ⟨by omega, by have := (ln_139 hM); omega⟩ ?_
          try simp only [d1, d0]
          refine ev_cVp_1 31 dX12_isWhence_31 kmX12_spot lk_X12_202 (kd_131 hM) (m_spot hM hN hV hW hRT (by omega) (by omega)) rfl rfl ?_
          try simp only [d1, d0]
          refine ev_cVp_2 34 dX12_isWhence_34 kmX12_timeOf lk_X12_196 (kd_131 hM) (m_timeOf hM hN (by omega) (by omega)) rfl rfl ?_
          try simp only [d1, d0]
          refine ev_istore_4 37 dX12_isWhence_37 rfl rfl ?_
          refine ev_aload_0 39 dX12_isWhence_39 ?_
          refine ev_iload_1 40 dX12_isWhence_40 ?_
          refine ev_aload_0 41 dX12_isWhence_41 ?_
          refine ev_aload_0 42 dX12_isWhence_42 ?_
          refine ev_getA 43 12 dX12_isWhence_43 fa_X12_32 (kd_131 hM) (pr_131_12 hN) rfl ?_
          refine ev_iconst 46 dX12_isWhence_46 ⟨by decide, by decide⟩ ?_
          refine ev_iald 47 dX12_isWhence_47 (kd_139 hM) ⟨by omega, by have := (ln_139 hM); omega⟩ ?_
          try simp only [d1, d0]
          refine ev_cVp_1 48 dX12_isWhence_48 kmX12_spot lk_X12_202 (kd_131 hM) (m_spot hM hN hV hW hRT (by omega) (by omega)) rfl rfl ?_
          try simp only [d1, d0]
          refine ev_cVp_2 51 dX12_isWhence_51 kmX12_timeOf lk_X12_196 (kd_131 hM) (m_timeOf hM hN (by omega) (by omega)) rfl rfl ?_
          try simp only [d1, d0]
          refine ev_istore_5 54 dX12_isWhence_54 rfl rfl ?_
          refine Ev.join 93 (fun jv => (jv = 0 ∨ jv = 1) ∧ (jv = 1 ↔ (dS 100000 α v (24 * α 4 (I 139 (2 * i)) + σ 1 (I 139 (2 * i))) < 100000 ∧ I 139 (2 * i + 1) - dS 100000 α v (24 * α 4 (I 139 (2 * i)) + σ 1 (I 139 (2 * i))) = I 139 1 - dS 100000 α v (24 * α 4 (I 139 0) + σ 1 (I 139 0))))) (fun x93 q93 => ?_) (fun j93 => ?_)
          · try dsimp only at q93
            refine ev_istore_2 93 dX12_isWhence_93 rfl rfl ?_
            refine ev_iinc_3 94 dX12_isWhence_94 ⟨by omega, by omega⟩ rfl rfl ?_
            refine ev_goto 97 8 dX12_isWhence_97 rfl ?_
            exact ih (i + 1) _ _ _ (by omega) (by omega) q93.1 (by
              rw [alB_s h0, q93.2]
              have h1 := hq.mp (by omega)
              exact ⟨fun z => ⟨h1.1, h1.2, z⟩, fun z => z.2.2⟩)
          · refine ev_iload_4 56 dX12_isWhence_56 ?_
            refine ev_ldc 58 dX12_isWhence_58 kc_X12_185 ⟨by decide, by decide⟩ ?_
            refine ev_icmp_ge 60 92 dX12_isWhence_60 rfl (fun h60 => ?_) (fun h60 => ?_)
            · refine ev_iconst 92 dX12_isWhence_92 ⟨by decide, by decide⟩ ?_
              exact j93 _ (by omega)
            · refine ev_aload_0 63 dX12_isWhence_63 ?_
              refine ev_getA 64 12 dX12_isWhence_64 fa_X12_32 (kd_131 hM) (pr_131_12 hN) rfl ?_
              refine ev_iconst 67 dX12_isWhence_67 ⟨by decide, by decide⟩ ?_
              refine ev_iload_3 68 dX12_isWhence_68 ?_
              refine ev_imul 69 dX12_isWhence_69 ⟨by omega, by omega⟩ ?_
              refine ev_iconst 70 dX12_isWhence_70 ⟨by decide, by decide⟩ ?_
              refine ev_iadd 71 dX12_isWhence_71 ⟨by omega, by omega⟩ ?_
              refine ev_iald 72 dX12_isWhence_72 (kd_139 hM) ⟨by omega, by have := (ln_139 hM); omega⟩ ?_
              try simp only [d1, d0]
              refine ev_iload_4 73 dX12_isWhence_73 ?_
              refine ev_isub 75 dX12_isWhence_75 ⟨by omega, by omega⟩ ?_
              refine ev_aload_0 76 dX12_isWhence_76 ?_
              refine ev_getA 77 12 dX12_isWhence_77 fa_X12_32 (kd_131 hM) (pr_131_12 hN) rfl ?_
              refine ev_iconst 80 dX12_isWhence_80 ⟨by decide, by decide⟩ ?_
              refine ev_iald 81 dX12_isWhence_81 (kd_139 hM) ⟨by omega, by have := (ln_139 hM); omega⟩ ?_
              try simp only [d1, d0]
              refine ev_iload_5 82 dX12_isWhence_82 ?_
              refine ev_isub 84 dX12_isWhence_84 ⟨by omega, by omega⟩ ?_
              refine ev_jne 85 92 dX12_isWhence_85 rfl (fun h85 => ?_) (fun h85 => ?_)
              · refine ev_iconst 92 dX12_isWhence_92 ⟨by decide, by decide⟩ ?_
                exact j93 _ (by omega)
              · refine ev_iconst 88 dX12_isWhence_88 ⟨by decide, by decide⟩ ?_
                refine ev_goto 89 93 dX12_isWhence_89 rfl ?_
                exact j93 _ (by omega)
  refine ev_aload_0 0 dX12_isWhence_0 ?_
  refine ev_iload_1 1 dX12_isWhence_1 ?_
  refine ev_cVp_1 2 dX12_isWhence_2 kmX12_isSpot lk_X12_182 (kd_131 hM) (m_isSpot hM hN hV hW (by omega)) rfl rfl ?_
  refine ev_istore_2 5 dX12_isWhence_5 rfl rfl ?_
  refine ev_iconst 6 dX12_isWhence_6 ⟨by decide, by decide⟩ ?_
  refine ev_istore_3 7 dX12_isWhence_7 rfl rfl ?_
  exact loop (I 131 11).toNat 0 _ _ _ (by omega) (by omega) (b2_or _) ((b2_1 _).trans ⟨fun z => ⟨z, alB_0⟩, fun z => z.1⟩)
theorem m_whence {l : Launch} {g : Gt} {d : Nat} {Z : Zt} {I : It} {P : Pt'} (hM : LayM Z) (hN : LayQ P) {α : Nat → Int → Int} (hV : VM I α) (hW : WF α) {σ : Nat → Int → Int} (hR : RT 0 I α σ) (hWS : WS α σ) (hF : HF I α) (hn : 0 ≤ I 131 11 ∧ I 131 11 ≤ 6) (hτ : ∀ i, 0 ≤ i → i < I 131 11 → (0 ≤ I 139 (2 * i) ∧ I 139 (2 * i) < α 0 5) ∧ (0 ≤ I 139 (2 * i + 1) ∧ I 139 (2 * i + 1) ≤ 99)) (w : Int) : Mt l g mX12_whence (d + 5) 0 0 [vA 131, vI w] Z I P (QM (fun r I' => whA (fun v => op α v ∧ CS 100000 α σ (I 131 11) (fun i => I 139 (2 * i)) (fun i => I 139 (2 * i + 1)) v) w r ∧ SO α I I') Z P) := by
  have v0 := hV.1.1
  have v1 := hV.1.2.1
  have v2 := hV.1.2.2.1
  have v3 := hV.1.2.2.2.1
  have v4 := hV.1.2.2.2.2
  have w0 := hW.1
  have w1 := hW.2.1
  have w5 := hW.2.2.1
  have w10 := hW.2.2.2.1
  refine Mt.of kmX12_whence (ls := [vA 131, vI w, vX, vX, vX]) (fun _ => rfl) (fun _ => rfl) (okf_k (okf_k (okf_n rfl))) (fun hok => ?_)
  have loop : (0 ≤ w ∧ w ≤ 1) → ∀ (J : It), SO α I J → FO J α → ∀ (k : Nat) (v n f : Int), v + 1 = k → v < 24 * α 0 1 → n + cnt (fun v => op α v ∧ CS 100000 α σ (I 131 11) (fun i => I 139 (2 * i)) (fun i => I 139 (2 * i + 1)) v) k = cnt (fun v => op α v ∧ CS 100000 α σ (I 131 11) (fun i => I 139 (2 * i)) (fun i => I 139 (2 * i + 1)) v) 192 → LD (fun v => op α v ∧ CS 100000 α σ (I 131 11) (fun i => I 139 (2 * i)) (fun i => I 139 (2 * i + 1)) v) v f → Ev l g mX12_whence (d + 5) 0 0 Z J P 34 [vA 131, vI w, vI n, vI f, vI v] [] (QM (fun r I' => whA (fun v => op α v ∧ CS 100000 α σ (I 131 11) (fun i => I 139 (2 * i)) (fun i => I 139 (2 * i + 1)) v) w r ∧ SO α I I') Z P) := by
    intro hg J so hfo k
    have hV := so.vm hV
    have hRT := so.rt hR
    have v1 := hV.1.2.1
    have e11 : J 131 11 = I 131 11 := so.2.1 11 (by omega)
    have e139 : J 139 = I 139 := so.2.2 139 (by omega) (by omega)
    have hn2 : 0 ≤ J 131 11 ∧ J 131 11 ≤ 6 := by rw [e11]; exact hn
    have hτ2 : ∀ i, 0 ≤ i → i < J 131 11 → (0 ≤ J 139 (2 * i) ∧ J 139 (2 * i) < α 0 5) ∧ (0 ≤ J 139 (2 * i + 1) ∧ J 139 (2 * i + 1) ≤ 99) := by rw [e11, e139]; exact hτ
    induction k with
    | zero =>
      intro v n f h0 h1 hc hl
      obtain rfl : v = -1 := by omega
      have hs0 : cnt (fun v => op α v ∧ CS 100000 α σ (I 131 11) (fun i => I 139 (2 * i)) (fun i => I 139 (2 * i + 1)) v) 0 = 0 := rfl
      have hs : SK (fun v => op α v ∧ CS 100000 α σ (I 131 11) (fun i => I 139 (2 * i)) (fun i => I 139 (2 * i + 1)) v) 192 n f := ⟨by rw [show (192 : Int).toNat = 192 from rfl]; omega, hl.lw⟩
      refine ev_iload_4 34 dX12_whence_34 ?_
      refine ev_if_lt 36 60 dX12_whence_36 rfl (fun h36 => ?_) (fun h36 => ?_)
      · refine ev_iload_1 60 dX12_whence_60 ?_
        refine ev_zne 61 68 dX12_whence_61 rfl (fun h61 => ?_) (fun h61 => ?_)
        · refine ev_iload_3 68 dX12_whence_68 ?_
          refine ev_iret 69 dX12_whence_69 ?_ rfl
          first
            | exact QM_of ⟨Or.inl ⟨hg, n, f, hs, (if_pos (by omega)).symm⟩, so⟩
            | exact QM_of ⟨Or.inl ⟨hg, n, f, hs, (if_neg (by omega)).symm⟩, so⟩
        · refine ev_iload_2 64 dX12_whence_64 ?_
          refine ev_goto 65 69 dX12_whence_65 rfl ?_
          refine ev_iret 69 dX12_whence_69 ?_ rfl
          first
            | exact QM_of ⟨Or.inl ⟨hg, n, f, hs, (if_pos (by omega)).symm⟩, so⟩
            | exact QM_of ⟨Or.inl ⟨hg, n, f, hs, (if_neg (by omega)).symm⟩, so⟩
      · exfalso; omega
    | succ k ih =>
      intro v n f h0 h1 hc hl
      obtain rfl : v = (k : Int) := by omega
      have hcr := cnt_r (fun v => op α v ∧ CS 100000 α σ (I 131 11) (fun i => I 139 (2 * i)) (fun i => I 139 (2 * i + 1)) v) (k + 1)
      have hcq := cnt_r (fun v => op α v ∧ CS 100000 α σ (I 131 11) (fun i => I 139 (2 * i)) (fun i => I 139 (2 * i + 1)) v) 192
      have cs : cnt (fun v => op α v ∧ CS 100000 α σ (I 131 11) (fun i => I 139 (2 * i)) (fun i => I 139 (2 * i + 1)) v) (k + 1) = cnt (fun v => op α v ∧ CS 100000 α σ (I 131 11) (fun i => I 139 (2 * i)) (fun i => I 139 (2 * i + 1)) v) k + b2 ((fun v => op α v ∧ CS 100000 α σ (I 131 11) (fun i => I 139 (2 * i)) (fun i => I 139 (2 * i + 1)) v) (k : Int)) := rfl
      refine ev_iload_4 34 dX12_whence_34 ?_
      refine ev_if_lt 36 60 dX12_whence_36 rfl (fun h36 => ?_) (fun h36 => ?_)
      · exfalso; omega
      · refine ev_aload_0 39 dX12_whence_39 ?_
        refine ev_iload_4 40 dX12_whence_40 ?_
        refine ev_cVp_1 42 dX12_whence_42 kmX12_isWhence lk_X12_205 (kd_131 hM) (m_isWhence hM hN hV hW hRT hWS hfo hn2 hτ2 (by omega)) rfl rfl ?_
        rw [e11, e139]
        refine ev_ifb_eq 45 54 dX12_whence_45 rfl (fun h45 => ?_) (fun h45 => ?_)
        · refine ev_iinc_4 54 dX12_whence_54 ⟨by omega, by omega⟩ rfl rfl ?_
          refine ev_goto 57 34 dX12_whence_57 rfl ?_
          first
            | exact ih _ _ _ (by omega) (by omega) (by rw [b2_t (by assumption)] at cs; omega) (hl.yes (by omega) (by assumption))
            | exact ih _ _ _ (by omega) (by omega) (by rw [b2_f (by assumption)] at cs; omega) (hl.no (by assumption))
        · refine ev_iinc_2 48 dX12_whence_48 ⟨by omega, by omega⟩ rfl rfl ?_
          refine ev_iload_4 51 dX12_whence_51 ?_
          refine ev_istore_3 53 dX12_whence_53 rfl rfl ?_
          refine ev_iinc_4 54 dX12_whence_54 ⟨by omega, by omega⟩ rfl rfl ?_
          refine ev_goto 57 34 dX12_whence_57 rfl ?_
          first
            | exact ih _ _ _ (by omega) (by omega) (by rw [b2_t (by assumption)] at cs; omega) (hl.yes (by omega) (by assumption))
            | exact ih _ _ _ (by omega) (by omega) (by rw [b2_f (by assumption)] at cs; omega) (hl.no (by assumption))
  refine ev_iload_1 0 dX12_whence_0 ?_
  refine ev_i2l 1 dX12_whence_1 ?_
  refine ev_lconst0 2 dX12_whence_2 ?_
  refine ev_lconst1 3 dX12_whence_3 ?_
  refine ev_cSp_3 4 dX12_whence_4 kmX12_in lk_X12_62 (m_in _ _ _) rfl rfl ?_
  try simp only [v1]
  refine ev_ifb_ne 7 12 dX12_whence_7 rfl (fun h7 => ?_) (fun h7 => ?_)
  · refine ev_aload_0 12 dX12_whence_12 ?_
    refine ev_cVv_0 13 dX12_whence_13 kmX12_sounds lk_X12_193 (kd_131 hM) (m_sounds hM hN hV hW hF) rfl rfl (fun I13 f13 => ?_)
    have v1 := (f13.1.vm hV).1.2.1
    refine ev_iconst 16 dX12_whence_16 ⟨by decide, by decide⟩ ?_
    refine ev_istore_2 17 dX12_whence_17 rfl rfl ?_
    refine ev_bipush 18 dX12_whence_18 ⟨by decide, by decide⟩ ?_
    refine ev_istore_3 20 dX12_whence_20 rfl rfl ?_
    refine ev_bipush 21 dX12_whence_21 ⟨by decide, by decide⟩ ?_
    refine ev_aload_0 23 dX12_whence_23 ?_
    refine ev_getA 24 3 dX12_whence_24 fa_X12_13 (kd_131 hM) (pr_131_3 hN) rfl ?_
    refine ev_iconst 27 dX12_whence_27 ⟨by decide, by decide⟩ ?_
    refine ev_iald 28 dX12_whence_28 (kd_133 hM) ⟨by omega, by have := (ln_133 hM); omega⟩ ?_
    try simp only [v1]
    refine ev_imul 29 dX12_whence_29 ⟨by omega, by omega⟩ ?_
    refine ev_iconst 30 dX12_whence_30 ⟨by decide, by decide⟩ ?_
    refine ev_isub 31 dX12_whence_31 ⟨by omega, by omega⟩ ?_
    refine ev_istore_4 32 dX12_whence_32 rfl rfl ?_
    refine loop (by omega) _ f13.1 f13.2.1 (24 * α 0 1).toNat _ _ _ (by omega) (by omega) ?_ (Or.inl ⟨rfl, fun u a b z => by have := z.1.1.2.1; omega⟩)
    have e9 := cnt_to (p := (fun v => op α v ∧ CS 100000 α σ (I 131 11) (fun i => I 139 (2 * i)) (fun i => I 139 (2 * i + 1)) v)) (v := 24 * α 0 1) (w := 192) (by omega) (by omega) (fun u z1 z2 z3 => by have := z3.1.1.2.1; omega)
    rw [show (192 : Int).toNat = 192 from rfl] at e9
    omega
  · refine ev_iconst 10 dX12_whence_10 ⟨by decide, by decide⟩ ?_
    refine ev_iret 11 dX12_whence_11 ?_ rfl
    exact QM_of ⟨Or.inr ⟨by omega, rfl⟩, SO.rf hF⟩
theorem m_isAll {l : Launch} {g : Gt} {d : Nat} {Z : Zt} {I : It} {P : Pt'} (hM : LayM Z) (hN : LayQ P) {α : Nat → Int → Int} (hV : VM I α) (hW : WF α) {σ : Nat → Int → Int} (hR : RT 0 I α σ) (hWS : WS α σ) (hfo : FO I α) {h : Int → Int} (hU : HU α h I) (b : Int) : Mt l g mX12_isAll (d + 1) 0 0 [vA 131, vI b] Z I P (QP (b2 (AL 100000 α σ h b)) Z I P) := by
  have v0 := hV.1.1
  have v1 := hV.1.2.1
  have v2 := hV.1.2.2.1
  have v3 := hV.1.2.2.2.1
  have v4 := hV.1.2.2.2.2
  have w0 := hW.1
  have w1 := hW.2.1
  have w5 := hW.2.2.1
  have w10 := hW.2.2.2.1
  have hRT := hR
  refine Mt.of kmX12_isAll (ls := [vA 131, vI b, vX, vX, vX, vX]) (fun _ => rfl) (fun _ => rfl) (okf_k (okf_k (okf_n rfl))) (fun hok => ?_)
  have outer : ∀ (k : Nat) (t y : Int) (vx vy : Vv), 0 ≤ t → t + k = α 0 5 → (y = 0 ∨ y = 1) → (y = 1 ↔ alB (fun t => ∀ u, 0 ≤ u → u < t → σ 2 t = 0 → σ 2 u = 0 → dS 100000 α (24 * α 4 u + h u) (24 * α 4 t + h t) ≤ b) t) → Ev l g mX12_isAll (d + 1) 0 0 Z I P 4 [vA 131, vI b, vI y, vI t, vx, vy] [] (QP (b2 (AL 100000 α σ h b)) Z I P) := by
    intro k
    induction k with
    | zero =>
      intro t y vx vy h0 h1 hy hq
      refine ev_iload_3 4 dX12_isAll_4 ?_
      refine ev_aload_0 5 dX12_isAll_5 ?_
      refine ev_getA 6 3 dX12_isAll_6 fa_X12_13 (kd_131 hM) (pr_131_3 hN) rfl ?_
      refine ev_iconst 9 dX12_isAll_9 ⟨by decide, by decide⟩ ?_
      refine ev_iald 10 dX12_isAll_10 (kd_133 hM) ⟨by omega, by have := (ln_133 hM); omega⟩ ?_
      try simp only [v2]
      refine ev_icmp_ge 11 114 dX12_isAll_11 rfl (fun h11 => ?_) (fun h11 => ?_)
      · refine ev_iload_2 114 dX12_isAll_114 ?_
        refine ev_zret 115 dX12_isAll_115 hy ?_ rfl
        exact QP_of (b2_i hy (hq.trans (by rw [show t = α 0 5 by omega]; exact Iff.rfl)))
      · exfalso; omega
    | succ k ih =>
      intro t y vx vy h0 h1 hy hq
      have c1 := hWS.2.2.2.1 t h0 (by omega)
      have a1 := (hW.2.2.2.2.2.2.1 t h0 (by omega)).1
      obtain ⟨x1, x2⟩ := hU t h0 (by omega)
      have inner : ∀ (r : Nat) (u y2 : Int) (vy : Vv), 0 ≤ u → u + r = t → (y2 = 0 ∨ y2 = 1) → (y2 = 1 ↔ (alB (fun t => ∀ u, 0 ≤ u → u < t → σ 2 t = 0 → σ 2 u = 0 → dS 100000 α (24 * α 4 u + h u) (24 * α 4 t + h t) ≤ b) t ∧ alB (fun u => σ 2 t = 0 → σ 2 u = 0 → dS 100000 α (24 * α 4 t + h t) (24 * α 4 u + h u) ≤ b) u)) → Ev l g mX12_isAll (d + 1) 0 0 Z I P 17 [vA 131, vI b, vI y2, vI t, vI u, vy] [] (QP (b2 (AL 100000 α σ h b)) Z I P) := by
        intro r
        induction r with
        | zero =>
          intro u y2 vy g0 g1 hy2 hq2
          refine ev_iload_4 17 dX12_isAll_17 ?_
          refine ev_iload_3 19 dX12_isAll_19 ?_
          refine ev_icmp_ge 20 108 dX12_isAll_20 rfl (fun h20 => ?_) (fun h20 => ?_)
          · refine ev_iinc_3 108 dX12_isAll_108 ⟨by omega, by omega⟩ rfl rfl ?_
            refine ev_goto 111 4 dX12_isAll_111 rfl ?_
            exact ih (t + 1) _ _ _ (by omega) (by omega) hy2 (by
              rw [alB_s h0, hq2, show u = t by omega]
              exact and_congr Iff.rfl ⟨fun z u a c e f => by rw [dS_sy hW]; exact z u a c e f, fun z u a c e f => by rw [dS_sy hW]; exact z u a c e f⟩)
          · exfalso; omega
        | succ r ih2 =>
          intro u y2 vy g0 g1 hy2 hq2
          have c2 := hWS.2.2.2.1 u g0 (by omega)
          have a2 := (hW.2.2.2.2.2.2.1 u g0 (by omega)).1
          obtain ⟨x3, x4⟩ := hU u g0 (by omega)
          have df := hfo (24 * α 4 t + h t) (24 * α 4 u + h u) (by omega) (by omega) (by omega) (by omega)
          refine ev_iload_4 17 dX12_isAll_17 ?_
          refine ev_iload_3 19 dX12_isAll_19 ?_
          refine ev_icmp_ge 20 108 dX12_isAll_20 rfl (fun h20 => ?_) (fun h20 => ?_)
          · exfalso; omega
          · refine Ev.join 45 (fun jv => (jv = 0 ∨ jv = 1) ∧ (jv = 1 ↔ (σ 2 t = 0 ∧ σ 2 u = 0))) (fun x45 q45 => ?_) (fun j45 => ?_)
            · try dsimp only at q45
              refine ev_istore_5 45 dX12_isAll_45 rfl rfl ?_
              refine Ev.join 101 (fun jv => (jv = 0 ∨ jv = 1) ∧ (jv = 1 ↔ (y2 = 1 ∧ (x45 = 1 → dS 100000 α (24 * α 4 t + h t) (24 * α 4 u + h u) ≤ b)))) (fun x101 q101 => ?_) (fun j101 => ?_)
              · try dsimp only at q101
                refine ev_istore_2 101 dX12_isAll_101 rfl rfl ?_
                refine ev_iinc_4 102 dX12_isAll_102 ⟨by omega, by omega⟩ rfl rfl ?_
                refine ev_goto 105 17 dX12_isAll_105 rfl ?_
                refine ih2 (u + 1) _ _ (by omega) (by omega) q101.1 ?_
                rw [alB_s g0, q101.2, hq2, and_assoc]
                exact and_congr Iff.rfl (and_congr Iff.rfl ⟨fun z e f => z (q45.2.mpr ⟨e, f⟩), fun z e => z (q45.2.mp e).1 (q45.2.mp e).2⟩)
              · refine ev_iload_2 47 dX12_isAll_47 ?_
                refine ev_if_eq 48 100 dX12_isAll_48 rfl (fun h48 => ?_) (fun h48 => ?_)
                · refine ev_iconst 100 dX12_isAll_100 ⟨by decide, by decide⟩ ?_
                  exact j101 _ (by omega)
                · refine ev_iload_5 51 dX12_isAll_51 ?_
                  refine ev_if_eq 53 96 dX12_isAll_53 rfl (fun h53 => ?_) (fun h53 => ?_)
                  · refine ev_iconst 96 dX12_isAll_96 ⟨by decide, by decide⟩ ?_
                    refine ev_goto 97 101 dX12_isAll_97 rfl ?_
                    exact j101 _ (by omega)
                  · refine ev_aload_0 56 dX12_isAll_56 ?_
                    refine ev_bipush 57 dX12_isAll_57 ⟨by decide, by decide⟩ ?_
                    refine ev_aload_0 59 dX12_isAll_59 ?_
                    refine ev_iload_3 60 dX12_isAll_60 ?_
                    refine ev_cVp_1 61 dX12_isAll_61 kmX12_levelOf lk_X12_127 (kd_131 hM) (m_levelOf hM hN hV hW (by omega)) rfl rfl ?_
                    try simp only [x1, x3]
                    try simp only [df]
                    refine ev_imul 64 dX12_isAll_64 ⟨by omega, by omega⟩ ?_
                    refine ev_aload_0 65 dX12_isAll_65 ?_
                    refine ev_getA 66 17 dX12_isAll_66 fa_X12_42 (kd_131 hM) (pr_131_17 hN) rfl ?_
                    refine ev_iload_3 69 dX12_isAll_69 ?_
                    refine ev_iald 70 dX12_isAll_70 (kd_142 hM) ⟨by omega, by have := (ln_142 hM); omega⟩ ?_
                    try simp only [x1, x3]
                    try simp only [df]
                    refine ev_iadd 71 dX12_isAll_71 ⟨by omega, by omega⟩ ?_
                    refine ev_bipush 72 dX12_isAll_72 ⟨by decide, by decide⟩ ?_
                    refine ev_aload_0 74 dX12_isAll_74 ?_
                    refine ev_iload_4 75 dX12_isAll_75 ?_
                    refine ev_cVp_1 77 dX12_isAll_77 kmX12_levelOf lk_X12_127 (kd_131 hM) (m_levelOf hM hN hV hW (by omega)) rfl rfl ?_
                    try simp only [x1, x3]
                    try simp only [df]
                    refine ev_imul 80 dX12_isAll_80 ⟨by omega, by omega⟩ ?_
                    refine ev_aload_0 81 dX12_isAll_81 ?_
                    refine ev_getA 82 17 dX12_isAll_82 fa_X12_42 (kd_131 hM) (pr_131_17 hN) rfl ?_
                    refine ev_iload_4 85 dX12_isAll_85 ?_
                    refine ev_iald 87 dX12_isAll_87 (kd_142 hM) ⟨by omega, by have := (ln_142 hM); omega⟩ ?_
                    try simp only [x1, x3]
                    try simp only [df]
                    refine ev_iadd 88 dX12_isAll_88 ⟨by omega, by omega⟩ ?_
                    refine ev_cVp_2 89 dX12_isAll_89 kmX12_timeOf lk_X12_196 (kd_131 hM) (m_timeOf hM hN (by omega) (by omega)) rfl rfl ?_
                    try simp only [x1, x3]
                    try simp only [df]
                    refine ev_iload_1 92 dX12_isAll_92 ?_
                    refine ev_icmp_gt 93 100 dX12_isAll_93 rfl (fun h93 => ?_) (fun h93 => ?_)
                    · refine ev_iconst 100 dX12_isAll_100 ⟨by decide, by decide⟩ ?_
                      exact j101 _ (by omega)
                    · refine ev_iconst 96 dX12_isAll_96 ⟨by decide, by decide⟩ ?_
                      refine ev_goto 97 101 dX12_isAll_97 rfl ?_
                      exact j101 _ (by omega)
            · refine ev_aload_0 23 dX12_isAll_23 ?_
              refine ev_iload_3 24 dX12_isAll_24 ?_
              refine ev_cVp_1 25 dX12_isAll_25 kmX12_isCut lk_X12_165 (kd_131 hM) (m_isCut hM hN hV hW hRT (by omega) (by omega)) rfl rfl ?_
              try simp only [x1, x3]
              try simp only [df]
              refine ev_ifb_ne 28 44 dX12_isAll_28 rfl (fun h28 => ?_) (fun h28 => ?_)
              · refine ev_iconst 44 dX12_isAll_44 ⟨by decide, by decide⟩ ?_
                exact j45 _ (by omega)
              · refine ev_aload_0 31 dX12_isAll_31 ?_
                refine ev_iload_4 32 dX12_isAll_32 ?_
                refine ev_cVp_1 34 dX12_isAll_34 kmX12_isCut lk_X12_165 (kd_131 hM) (m_isCut hM hN hV hW hRT (by omega) (by omega)) rfl rfl ?_
                try simp only [x1, x3]
                try simp only [df]
                refine ev_ifb_ne 37 44 dX12_isAll_37 rfl (fun h37 => ?_) (fun h37 => ?_)
                · refine ev_iconst 44 dX12_isAll_44 ⟨by decide, by decide⟩ ?_
                  exact j45 _ (by omega)
                · refine ev_iconst 40 dX12_isAll_40 ⟨by decide, by decide⟩ ?_
                  refine ev_goto 41 45 dX12_isAll_41 rfl ?_
                  exact j45 _ (by omega)
      refine ev_iload_3 4 dX12_isAll_4 ?_
      refine ev_aload_0 5 dX12_isAll_5 ?_
      refine ev_getA 6 3 dX12_isAll_6 fa_X12_13 (kd_131 hM) (pr_131_3 hN) rfl ?_
      refine ev_iconst 9 dX12_isAll_9 ⟨by decide, by decide⟩ ?_
      refine ev_iald 10 dX12_isAll_10 (kd_133 hM) ⟨by omega, by have := (ln_133 hM); omega⟩ ?_
      try simp only [v2]
      refine ev_icmp_ge 11 114 dX12_isAll_11 rfl (fun h11 => ?_) (fun h11 => ?_)
      · exfalso; omega
      · refine ev_iconst 14 dX12_isAll_14 ⟨by decide, by decide⟩ ?_
        refine ev_istore_4 15 dX12_isAll_15 rfl rfl ?_
        exact inner t.toNat 0 _ _ (by omega) (by omega) hy (hq.trans ⟨fun z => ⟨z, alB_0⟩, fun z => z.1⟩)
  refine ev_iconst 0 dX12_isAll_0 ⟨by decide, by decide⟩ ?_
  refine ev_istore_2 1 dX12_isAll_1 rfl rfl ?_
  refine ev_iconst 2 dX12_isAll_2 ⟨by decide, by decide⟩ ?_
  refine ev_istore_3 3 dX12_isAll_3 rfl rfl ?_
  exact outer (α 0 5).toNat 0 1 _ _ (by omega) (by omega) (Or.inr rfl) ⟨fun _ => alB_0, fun _ => rfl⟩
theorem m_canHang {l : Launch} {g : Gt} {d : Nat} {Z : Zt} {I : It} {P : Pt'} (hM : LayM Z) (hN : LayQ P) {α : Nat → Int → Int} (hV : VM I α) (hW : WF α) {σ : Nat → Int → Int} (hR : RT 0 I α σ) (hWS : WS α σ) {h : Int → Int} (hU : HU α h I) {t x : Int} (ht : 0 ≤ t ∧ t < α 0 5) (hx : 0 ≤ x ∧ x < 24) : Mt l g mX12_canHang (d + 1) 0 0 [vA 131, vI t, vI x] Z I P (QP (b2 (σ 2 t = 0 ∧ FR α σ h t x)) Z I P) := by
  have v0 := hV.1.1
  have v1 := hV.1.2.1
  have v2 := hV.1.2.2.1
  have v3 := hV.1.2.2.2.1
  have v4 := hV.1.2.2.2.2
  have w0 := hW.1
  have w1 := hW.2.1
  have w5 := hW.2.2.1
  have w10 := hW.2.2.2.1
  have hRT := hR
  have c1 := hWS.2.2.2.1 t ht.1 (by omega)
  refine Mt.of kmX12_canHang (ls := [vA 131, vI t, vI x, vX, vX]) (fun _ => rfl) (fun _ => rfl) (okf_k (okf_k (okf_k (okf_n rfl)))) (fun hok => ?_)
  have loop : ∀ (k : Nat) (u y : Int), 0 ≤ u → u + k = α 0 5 → (y = 0 ∨ y = 1) → (y = 1 ↔ ((σ 2 t = 0 ∧ ¬ mkt α (24 * α 4 t + x)) ∧ alB (fun u => σ 2 u = 0 → h u = x → α 4 u ≠ α 4 t) u)) → Ev l g mX12_canHang (d + 1) 0 0 Z I P 30 [vA 131, vI t, vI x, vI y, vI u] [] (QP (b2 (σ 2 t = 0 ∧ FR α σ h t x)) Z I P) := by
    intro k
    induction k with
    | zero =>
      intro u y h0 h1 hy hq
      refine ev_iload_4 30 dX12_canHang_30 ?_
      refine ev_aload_0 32 dX12_canHang_32 ?_
      refine ev_getA 33 3 dX12_canHang_33 fa_X12_13 (kd_131 hM) (pr_131_3 hN) rfl ?_
      refine ev_iconst 36 dX12_canHang_36 ⟨by decide, by decide⟩ ?_
      refine ev_iald 37 dX12_canHang_37 (kd_133 hM) ⟨by omega, by have := (ln_133 hM); omega⟩ ?_
      try simp only [v2]
      refine ev_icmp_ge 38 91 dX12_canHang_38 rfl (fun h38 => ?_) (fun h38 => ?_)
      · refine ev_iload_3 91 dX12_canHang_91 ?_
        refine ev_zret 92 dX12_canHang_92 hy ?_ rfl
        exact QP_of (b2_i hy (hq.trans (by rw [show u = α 0 5 by omega]; exact and_assoc)))
      · exfalso; omega
    | succ k ih =>
      intro u y h0 h1 hy hq
      have c2 := hWS.2.2.2.1 u h0 (by omega)
      have x1 := (hU u h0 (by omega)).1
      refine ev_iload_4 30 dX12_canHang_30 ?_
      refine ev_aload_0 32 dX12_canHang_32 ?_
      refine ev_getA 33 3 dX12_canHang_33 fa_X12_13 (kd_131 hM) (pr_131_3 hN) rfl ?_
      refine ev_iconst 36 dX12_canHang_36 ⟨by decide, by decide⟩ ?_
      refine ev_iald 37 dX12_canHang_37 (kd_133 hM) ⟨by omega, by have := (ln_133 hM); omega⟩ ?_
      try simp only [v2, x1]
      refine ev_icmp_ge 38 91 dX12_canHang_38 rfl (fun h38 => ?_) (fun h38 => ?_)
      · exfalso; omega
      · refine Ev.join 84 (fun jv => (jv = 0 ∨ jv = 1) ∧ (jv = 1 ↔ (y = 1 ∧ (σ 2 u = 0 → h u = x → α 4 u ≠ α 4 t)))) (fun x84 q84 => ?_) (fun j84 => ?_)
        · try dsimp only at q84
          refine ev_istore_3 84 dX12_canHang_84 rfl rfl ?_
          refine ev_iinc_4 85 dX12_canHang_85 ⟨by omega, by omega⟩ rfl rfl ?_
          refine ev_goto 88 30 dX12_canHang_88 rfl ?_
          exact ih (u + 1) _ (by omega) (by omega) q84.1 (by rw [alB_s h0, q84.2, hq, and_assoc])
        · refine ev_iload_3 41 dX12_canHang_41 ?_
          refine ev_if_eq 42 83 dX12_canHang_42 rfl (fun h42 => ?_) (fun h42 => ?_)
          · refine ev_iconst 83 dX12_canHang_83 ⟨by decide, by decide⟩ ?_
            exact j84 _ (by omega)
          · refine ev_aload_0 45 dX12_canHang_45 ?_
            refine ev_iload_4 46 dX12_canHang_46 ?_
            refine ev_cVp_1 48 dX12_canHang_48 kmX12_isCut lk_X12_165 (kd_131 hM) (m_isCut hM hN hV hW hRT (by omega) (by omega)) rfl rfl ?_
            try simp only [v2, x1]
            refine ev_ifb_ne 51 79 dX12_canHang_51 rfl (fun h51 => ?_) (fun h51 => ?_)
            · refine ev_iconst 79 dX12_canHang_79 ⟨by decide, by decide⟩ ?_
              refine ev_goto 80 84 dX12_canHang_80 rfl ?_
              exact j84 _ (by omega)
            · refine ev_aload_0 54 dX12_canHang_54 ?_
              refine ev_iload_4 55 dX12_canHang_55 ?_
              refine ev_cVp_1 57 dX12_canHang_57 kmX12_levelOf lk_X12_127 (kd_131 hM) (m_levelOf hM hN hV hW (by omega)) rfl rfl ?_
              try simp only [v2, x1]
              refine ev_aload_0 60 dX12_canHang_60 ?_
              refine ev_iload_1 61 dX12_canHang_61 ?_
              refine ev_cVp_1 62 dX12_canHang_62 kmX12_levelOf lk_X12_127 (kd_131 hM) (m_levelOf hM hN hV hW (by omega)) rfl rfl ?_
              try simp only [v2, x1]
              refine ev_jne 65 79 dX12_canHang_65 rfl (fun h65 => ?_) (fun h65 => ?_)
              · refine ev_iconst 79 dX12_canHang_79 ⟨by decide, by decide⟩ ?_
                refine ev_goto 80 84 dX12_canHang_80 rfl ?_
                exact j84 _ (by omega)
              · refine ev_aload_0 68 dX12_canHang_68 ?_
                refine ev_getA 69 17 dX12_canHang_69 fa_X12_42 (kd_131 hM) (pr_131_17 hN) rfl ?_
                refine ev_iload_4 72 dX12_canHang_72 ?_
                refine ev_iald 74 dX12_canHang_74 (kd_142 hM) ⟨by omega, by have := (ln_142 hM); omega⟩ ?_
                try simp only [v2, x1]
                refine ev_iload_2 75 dX12_canHang_75 ?_
                refine ev_icmp_eq 76 83 dX12_canHang_76 rfl (fun h76 => ?_) (fun h76 => ?_)
                · refine ev_iconst 83 dX12_canHang_83 ⟨by decide, by decide⟩ ?_
                  exact j84 _ (by omega)
                · refine ev_iconst 79 dX12_canHang_79 ⟨by decide, by decide⟩ ?_
                  refine ev_goto 80 84 dX12_canHang_80 rfl ?_
                  exact j84 _ (by omega)
  refine Ev.join 26 (fun jv => (jv = 0 ∨ jv = 1) ∧ (jv = 1 ↔ (σ 2 t = 0 ∧ ¬ mkt α (24 * α 4 t + x)))) (fun x26 q26 => ?_) (fun j26 => ?_)
  · try dsimp only at q26
    refine ev_istore_3 26 dX12_canHang_26 rfl rfl ?_
    refine ev_iconst 27 dX12_canHang_27 ⟨by decide, by decide⟩ ?_
    refine ev_istore_4 28 dX12_canHang_28 rfl rfl ?_
    exact loop (α 0 5).toNat 0 _ (by omega) (by omega) q26.1 (q26.2.trans ⟨fun z => ⟨z, alB_0⟩, fun z => z.1⟩)
  · refine ev_aload_0 0 dX12_canHang_0 ?_
    refine ev_iload_1 1 dX12_canHang_1 ?_
    refine ev_cVp_1 2 dX12_canHang_2 kmX12_isCut lk_X12_165 (kd_131 hM) (m_isCut hM hN hV hW hRT (by omega) (by omega)) rfl rfl ?_
    refine ev_ifb_ne 5 25 dX12_canHang_5 rfl (fun h5 => ?_) (fun h5 => ?_)
    · refine ev_iconst 25 dX12_canHang_25 ⟨by decide, by decide⟩ ?_
      first
        | exact j26 _ ⟨Or.inl rfl, fun z => by omega, fun z => by have := z.1; omega⟩
        | exact j26 _ ⟨Or.inl rfl, fun z => by omega, fun z => absurd (by assumption) z.2⟩
        | exact j26 _ ⟨Or.inr rfl, fun _ => ⟨by omega, by assumption⟩, fun _ => rfl⟩
    · refine ev_aload_0 8 dX12_canHang_8 ?_
      refine ev_aload_0 9 dX12_canHang_9 ?_
      refine ev_iload_1 10 dX12_canHang_10 ?_
      refine ev_cVp_1 11 dX12_canHang_11 kmX12_levelOf lk_X12_127 (kd_131 hM) (m_levelOf hM hN hV hW (by omega)) rfl rfl ?_
      refine ev_iload_2 14 dX12_canHang_14 ?_
      refine ev_cVp_2 15 dX12_canHang_15 kmX12_isMarket lk_X12_175 (kd_131 hM) (m_isMarket hM hN hV hW _ (by omega)) rfl rfl ?_
      refine ev_ifb_ne 18 25 dX12_canHang_18 rfl (fun h18 => ?_) (fun h18 => ?_)
      · refine ev_iconst 25 dX12_canHang_25 ⟨by decide, by decide⟩ ?_
        first
          | exact j26 _ ⟨Or.inl rfl, fun z => by omega, fun z => by have := z.1; omega⟩
          | exact j26 _ ⟨Or.inl rfl, fun z => by omega, fun z => absurd (by assumption) z.2⟩
          | exact j26 _ ⟨Or.inr rfl, fun _ => ⟨by omega, by assumption⟩, fun _ => rfl⟩
      · refine ev_iconst 21 dX12_canHang_21 ⟨by decide, by decide⟩ ?_
        refine ev_goto 22 26 dX12_canHang_22 rfl ?_
        first
          | exact j26 _ ⟨Or.inl rfl, fun z => by omega, fun z => by have := z.1; omega⟩
          | exact j26 _ ⟨Or.inl rfl, fun z => by omega, fun z => absurd (by assumption) z.2⟩
          | exact j26 _ ⟨Or.inr rfl, fun _ => ⟨by omega, by assumption⟩, fun _ => rfl⟩
theorem m_hangs {l : Launch} {g : Gt} {d : Nat} {Z : Zt} {I : It} {P : Pt'} (hM : LayM Z) (hN : LayQ P) {α : Nat → Int → Int} (hV : VM I α) (hW : WF α) {σ : Nat → Int → Int} (hR : RT 0 I α σ) (hWS : WS α σ) (hfo : FO I α) {h : Int → Int} (hU : HU α h I) {f : Int} (hf : 0 ≤ f ∧ f ≤ α 0 5) (b : Int) : Mt l g mX12_hangs (d + 2) 0 0 [vA 131, vI f, vI b] Z I P (QM (fun r I' => LW (HG 100000 α σ h b f) (24 * α 0 5) r ∧ I' = I) Z P) := by
  have v0 := hV.1.1
  have v1 := hV.1.2.1
  have v2 := hV.1.2.2.1
  have v3 := hV.1.2.2.2.1
  have v4 := hV.1.2.2.2.2
  have w0 := hW.1
  have w1 := hW.2.1
  have w5 := hW.2.2.1
  have w10 := hW.2.2.2.1
  have hRT := hR
  refine Mt.of kmX12_hangs (ls := [vA 131, vI f, vI b, vX, vX, vX, vX]) (fun _ => rfl) (fun _ => rfl) (okf_k (okf_k (okf_k (okf_n rfl)))) (fun hok => ?_)
  have outer : ∀ (k : Nat) (t : Int) (va vb vc : Vv), f ≤ t → t + k = α 0 5 → (∀ v, 0 ≤ v → v < 24 * t → ¬ (HG 100000 α σ h b f) v) → Ev l g mX12_hangs (d + 2) 0 0 Z I P 2 [vA 131, vI f, vI b, vI t, va, vb, vc] [] (QM (fun r I' => LW (HG 100000 α σ h b f) (24 * α 0 5) r ∧ I' = I) Z P) := by
    intro k
    induction k with
    | zero =>
      intro t va vb vc h0 h1 hn
      refine ev_iload_3 2 dX12_hangs_2 ?_
      refine ev_aload_0 3 dX12_hangs_3 ?_
      refine ev_getA 4 3 dX12_hangs_4 fa_X12_13 (kd_131 hM) (pr_131_3 hN) rfl ?_
      refine ev_iconst 7 dX12_hangs_7 ⟨by decide, by decide⟩ ?_
      refine ev_iald 8 dX12_hangs_8 (kd_133 hM) ⟨by omega, by have := (ln_133 hM); omega⟩ ?_
      try simp only [v2]
      refine ev_icmp_ge 9 110 dX12_hangs_9 rfl (fun h9 => ?_) (fun h9 => ?_)
      · refine ev_bipush 110 dX12_hangs_110 ⟨by decide, by decide⟩ ?_
        refine ev_iret 112 dX12_hangs_112 ?_ rfl
        exact QM_of ⟨Or.inl ⟨rfl, fun v a c => hn v a (by omega)⟩, rfl⟩
      · exfalso; omega
    | succ k ih =>
      intro t va vb vc h0 h1 hn
      have x0 := hU t (by omega) (by omega)
      have inner : ∀ (r : Nat) (x : Int) (vc : Vv), 0 ≤ x → x + r = α 0 0 → (∀ v, 0 ≤ v → v < 24 * t + x → ¬ (HG 100000 α σ h b f) v) → Ev l g mX12_hangs (d + 2) 0 0 Z I P 23 [vA 131, vI f, vI b, vI t, vI (h t), vI x, vc] [] (QM (fun r I' => LW (HG 100000 α σ h b f) (24 * α 0 5) r ∧ I' = I) Z P) := by
        intro r
        induction r with
        | zero =>
          intro x vc g0 g1 hm
          refine ev_iload_5 23 dX12_hangs_23 ?_
          refine ev_aload_0 25 dX12_hangs_25 ?_
          refine ev_getA 26 3 dX12_hangs_26 fa_X12_13 (kd_131 hM) (pr_131_3 hN) rfl ?_
          refine ev_iconst 29 dX12_hangs_29 ⟨by decide, by decide⟩ ?_
          refine ev_iald 30 dX12_hangs_30 (kd_133 hM) ⟨by omega, by have := (ln_133 hM); omega⟩ ?_
          try simp only [v0]
          refine ev_icmp_ge 31 104 dX12_hangs_31 rfl (fun h31 => ?_) (fun h31 => ?_)
          · refine ev_iinc_3 104 dX12_hangs_104 ⟨by omega, by omega⟩ rfl rfl ?_
            refine ev_goto 107 2 dX12_hangs_107 rfl ?_
            exact ih (t + 1) _ _ _ (by omega) (by omega) (fun v a c z => by
              by_cases q : v < 24 * t + x
              · exact hm v a q z
              · have := z.2.1; omega)
          · exfalso; omega
        | succ r ih2 =>
          intro x vc g0 g1 hm
          have ev1 : (24 * t + x) / 24 = t := by omega
          have ev2 : (24 * t + x) % 24 = x := by omega
          have hgv : (HG 100000 α σ h b f) (24 * t + x) ↔ ((σ 2 t = 0 ∧ FR α σ h t x) ∧ AL 100000 α σ (upH h t x) b) := by
            unfold HG; rw [ev1, ev2]
            exact ⟨fun z => ⟨⟨z.2.2.1, z.2.2.2.1⟩, z.2.2.2.2⟩, fun z => ⟨h0, by omega, z.1.1, z.1.2, z.2⟩⟩
          have hU2 : HU α (upH h t x) (upI I 142 t x) := hU.up (by omega)
          have hV2 : VM (upI I 142 t x) α := hV.up (by omega)
          have hR2 : RT 0 (upI I 142 t x) α σ := fun u a c => by rw [upI_A (by omega)]; exact hRT u a c
          have hfo2 : FO (upI I 142 t x) α := fun s v a c e q => by rw [upI_A (by omega)]; exact hfo s v a c e q
          have bk1 : upI (upI I 142 t x) 142 t (h t) = I := upI_bk x0.1
          have bk2 : upI (upI I 142 t (h t)) 142 t (h t) = I := upI_bk x0.1
          have nxt : ¬ (HG 100000 α σ h b f) (24 * t + x) → ∀ (c : Vv), Ev l g mX12_hangs (d + 2) 0 0 Z I P 98 [vA 131, vI f, vI b, vI t, vI (h t), vI x, c] [] (QM (fun r I' => LW (HG 100000 α σ h b f) (24 * α 0 5) r ∧ I' = I) Z P) := by
            intro hz c
            refine ev_iinc_5 98 dX12_hangs_98 ⟨by omega, by omega⟩ rfl rfl ?_
            refine ev_goto 101 23 dX12_hangs_101 rfl ?_
            exact ih2 (x + 1) _ (by omega) (by omega) (fun v a c z => by
              by_cases q : v = 24 * t + x
              · subst q; exact hz z
              · exact hm v a (by omega) z)
          refine ev_iload_5 23 dX12_hangs_23 ?_
          refine ev_aload_0 25 dX12_hangs_25 ?_
          refine ev_getA 26 3 dX12_hangs_26 fa_X12_13 (kd_131 hM) (pr_131_3 hN) rfl ?_
          refine ev_iconst 29 dX12_hangs_29 ⟨by decide, by decide⟩ ?_
          refine ev_iald 30 dX12_hangs_30 (kd_133 hM) ⟨by omega, by have := (ln_133 hM); omega⟩ ?_
          try simp only [v0]
          refine ev_icmp_ge 31 104 dX12_hangs_31 rfl (fun h31 => ?_) (fun h31 => ?_)
          · exfalso; omega
          · refine ev_aload_0 34 dX12_hangs_34 ?_
            refine ev_iload_3 35 dX12_hangs_35 ?_
            refine ev_iload_5 36 dX12_hangs_36 ?_
            refine ev_cVp_2 38 dX12_hangs_38 kmX12_canHang lk_X12_208 (kd_131 hM) (m_canHang hM hN hV hW hRT hWS hU (by omega) (by omega)) rfl rfl ?_
            try simp only [v0]
            refine ev_istore_6 41 dX12_hangs_41 rfl rfl ?_
            refine ev_aload_0 43 dX12_hangs_43 ?_
            refine ev_getA 44 17 dX12_hangs_44 fa_X12_42 (kd_131 hM) (pr_131_17 hN) rfl ?_
            refine ev_iload_3 47 dX12_hangs_47 ?_
            refine Ev.join 60 (fun jv => ((σ 2 t = 0 ∧ FR α σ h t x) → jv = x) ∧ (¬ (σ 2 t = 0 ∧ FR α σ h t x) → jv = h t)) (fun x60 q60 => ?_) (fun j60 => ?_)
            · try dsimp only at q60
              refine ev_iast 60 dX12_hangs_60 (kd_142 hM) ⟨by omega, by have := (ln_142 hM); omega⟩ ?_
              refine ev_iload_6 61 dX12_hangs_61 ?_
              refine ev_ifb_eq 63 90 dX12_hangs_63 rfl (fun h63 => ?_) (fun h63 => ?_)
              · refine ev_aload_0 90 dX12_hangs_90 ?_
                refine ev_getA 91 17 dX12_hangs_91 fa_X12_42 (kd_131 hM) (pr_131_17 hN) rfl ?_
                refine ev_iload_3 94 dX12_hangs_94 ?_
                refine ev_iload_4 95 dX12_hangs_95 ?_
                refine ev_iast 97 dX12_hangs_97 (kd_142 hM) ⟨by omega, by have := (ln_142 hM); omega⟩ ?_
                first
                  | (rw [q60.2 (by assumption), bk2]; exact nxt (fun z => absurd (hgv.mp z).1 (by assumption)) _)
                  | (rw [bk1]; exact nxt (fun z => absurd (hgv.mp z).2 (by assumption)) _)
              · rw [q60.1 (by assumption)]
                refine ev_aload_0 66 dX12_hangs_66 ?_
                refine ev_iload_2 67 dX12_hangs_67 ?_
                refine ev_cVp_1 68 dX12_hangs_68 kmX12_isAll lk_X12_211 (kd_131 hM) (m_isAll hM hN hV2 hW hR2 hWS hfo2 hU2 b) rfl rfl ?_
                try simp (disch := omega) only [upI_s, upI_a, upI_k]
                try simp only [v0]
                refine ev_ifb_eq 71 90 dX12_hangs_71 rfl (fun h71 => ?_) (fun h71 => ?_)
                · refine ev_aload_0 90 dX12_hangs_90 ?_
                  refine ev_getA 91 17 dX12_hangs_91 fa_X12_42 (kd_131 hM) (pr_131_17 hN) rfl ?_
                  refine ev_iload_3 94 dX12_hangs_94 ?_
                  refine ev_iload_4 95 dX12_hangs_95 ?_
                  refine ev_iast 97 dX12_hangs_97 (kd_142 hM) ⟨by omega, by have := (ln_142 hM); omega⟩ ?_
                  first
                    | (rw [q60.2 (by assumption), bk2]; exact nxt (fun z => absurd (hgv.mp z).1 (by assumption)) _)
                    | (rw [bk1]; exact nxt (fun z => absurd (hgv.mp z).2 (by assumption)) _)
                · refine ev_aload_0 74 dX12_hangs_74 ?_
                  refine ev_getA 75 17 dX12_hangs_75 fa_X12_42 (kd_131 hM) (pr_131_17 hN) rfl ?_
                  refine ev_iload_3 78 dX12_hangs_78 ?_
                  refine ev_iload_4 79 dX12_hangs_79 ?_
                  refine ev_iast 81 dX12_hangs_81 (kd_142 hM) ⟨by omega, by have := (ln_142 hM); omega⟩ ?_
                  rw [bk1]
                  refine ev_bipush 82 dX12_hangs_82 ⟨by decide, by decide⟩ ?_
                  refine ev_iload_3 84 dX12_hangs_84 ?_
                  refine ev_imul 85 dX12_hangs_85 ⟨by omega, by omega⟩ ?_
                  refine ev_iload_5 86 dX12_hangs_86 ?_
                  refine ev_iadd 88 dX12_hangs_88 ⟨by omega, by omega⟩ ?_
                  refine ev_iret 89 dX12_hangs_89 ?_ rfl
                  exact QM_of ⟨Or.inr ⟨by omega, by omega, hgv.mpr ⟨by assumption, by assumption⟩, hm⟩, rfl⟩
            · refine ev_iload_6 48 dX12_hangs_48 ?_
              refine ev_ifb_eq 50 58 dX12_hangs_50 rfl (fun h50 => ?_) (fun h50 => ?_)
              · refine ev_iload_4 58 dX12_hangs_58 ?_
                first
                  | exact j60 _ ⟨fun _ => rfl, fun z => absurd (by assumption) z⟩
                  | exact j60 _ ⟨fun z => absurd z (by assumption), fun _ => rfl⟩
              · refine ev_iload_5 53 dX12_hangs_53 ?_
                refine ev_goto 55 60 dX12_hangs_55 rfl ?_
                first
                  | exact j60 _ ⟨fun _ => rfl, fun z => absurd (by assumption) z⟩
                  | exact j60 _ ⟨fun z => absurd z (by assumption), fun _ => rfl⟩
      refine ev_iload_3 2 dX12_hangs_2 ?_
      refine ev_aload_0 3 dX12_hangs_3 ?_
      refine ev_getA 4 3 dX12_hangs_4 fa_X12_13 (kd_131 hM) (pr_131_3 hN) rfl ?_
      refine ev_iconst 7 dX12_hangs_7 ⟨by decide, by decide⟩ ?_
      refine ev_iald 8 dX12_hangs_8 (kd_133 hM) ⟨by omega, by have := (ln_133 hM); omega⟩ ?_
      try simp only [v2]
      refine ev_icmp_ge 9 110 dX12_hangs_9 rfl (fun h9 => ?_) (fun h9 => ?_)
      · exfalso; omega
      · refine ev_aload_0 12 dX12_hangs_12 ?_
        refine ev_getA 13 17 dX12_hangs_13 fa_X12_42 (kd_131 hM) (pr_131_17 hN) rfl ?_
        refine ev_iload_3 16 dX12_hangs_16 ?_
        refine ev_iald 17 dX12_hangs_17 (kd_142 hM) ⟨by omega, by have := (ln_142 hM); omega⟩ ?_
        try simp only [v2]
        rw [x0.1]
        refine ev_istore_4 18 dX12_hangs_18 rfl rfl ?_
        refine ev_iconst 20 dX12_hangs_20 ⟨by decide, by decide⟩ ?_
        refine ev_istore_5 21 dX12_hangs_21 rfl rfl ?_
        exact inner (α 0 0).toNat 0 _ (by omega) (by omega) (fun v a c => hn v a (by omega))
  refine ev_iload_1 0 dX12_hangs_0 ?_
  refine ev_istore_3 1 dX12_hangs_1 rfl rfl ?_
  exact outer (α 0 5 - f).toNat f _ _ _ (Int.le_refl _) (by omega) (fun v a c z => by have := z.1; omega)
theorem m_movedOf {l : Launch} {g : Gt} {d : Nat} {Z : Zt} {I : It} {P : Pt'} (hM : LayM Z) (hN : LayQ P) {α : Nat → Int → Int} (hV : VM I α) (hW : WF α) {σ : Nat → Int → Int} (hR : RT 0 I α σ) (hWS : WS α σ) (hfo : FO I α) (b : Int) : Mt l g mX12_movedOf (d + 3) 0 0 [vA 131, vI b] Z I P (QM (fun r I' => (∃ lo up, MV 100000 α σ b r lo up ∧ (r = -4 ∨ (I' 131 18 = lo ∧ I' 131 19 = up))) ∧ (∀ a, a ≠ 131 → a ≠ 142 → I' a = I a) ∧ (∀ j, j ≠ 18 → j ≠ 19 → I' 131 j = I 131 j)) Z P) := by
  have v0 := hV.1.1
  have v1 := hV.1.2.1
  have v2 := hV.1.2.2.1
  have v3 := hV.1.2.2.2.1
  have v4 := hV.1.2.2.2.2
  have w0 := hW.1
  have w1 := hW.2.1
  have w5 := hW.2.2.1
  have w10 := hW.2.2.2.1
  refine Mt.of kmX12_movedOf (ls := [vA 131, vI b, vX, vX, vX]) (fun _ => rfl) (fun _ => rfl) (okf_k (okf_k (okf_n rfl))) (fun hok => ?_)
  have two : ¬ AL 100000 α σ (σ 1) b → LW (HG 100000 α σ (σ 1) b 0) (24 * α 0 5) (-4) → ∀ (k : Nat) (t : Int) (J : It) (va vb : Vv), 0 ≤ t → t + k = α 0 5 → (∀ v, 0 ≤ v → v < 24 * t → ¬ (P2 100000 α σ (σ 1) b) v) → HU α (σ 1) J → (∀ a, a ≠ 131 → a ≠ 142 → J a = I a) → (∀ j, j ≠ 18 → j ≠ 19 → J 131 j = I 131 j) → Ev l g mX12_movedOf (d + 3) 0 0 Z J P 72 [vA 131, vI b, vI t, va, vb] [] (QM (fun r I' => (∃ lo up, MV 100000 α σ b r lo up ∧ (r = -4 ∨ (I' 131 18 = lo ∧ I' 131 19 = up))) ∧ (∀ a, a ≠ 131 → a ≠ 142 → I' a = I a) ∧ (∀ j, j ≠ 18 → j ≠ 19 → I' 131 j = I 131 j)) Z P) := by
    intro hal hl1 k
    induction k with
    | zero =>
      intro t J va vb h0 h1 hn hU fr1 fr2
      have hV : VM J α := hV.fr (fr1 133 (by omega) (by omega)) (fr1 134 (by omega) (by omega)) (fr1 135 (by omega) (by omega)) (fr1 136 (by omega) (by omega))
      have hRT : RT 0 J α σ := fun u a c => by rw [fr1 138 (by omega) (by omega)]; exact hR u a c
      have hfo : FO J α := fun s v a c e q => by rw [fr1 141 (by omega) (by omega)]; exact hfo s v a c e q
      have v0 := hV.1.1
      have v2 := hV.1.2.2.1
      refine ev_iload_2 72 dX12_movedOf_72 ?_
      refine ev_aload_0 73 dX12_movedOf_73 ?_
      refine ev_getA 74 3 dX12_movedOf_74 fa_X12_13 (kd_131 hM) (pr_131_3 hN) rfl ?_
      refine ev_iconst 77 dX12_movedOf_77 ⟨by decide, by decide⟩ ?_
      refine ev_iald 78 dX12_movedOf_78 (kd_133 hM) ⟨by omega, by have := (ln_133 hM); omega⟩ ?_
      try simp only [v2]
      refine ev_icmp_ge 79 172 dX12_movedOf_79 rfl (fun h79 => ?_) (fun h79 => ?_)
      · refine ev_bipush 172 dX12_movedOf_172 ⟨by decide, by decide⟩ ?_
        refine ev_iret 174 dX12_movedOf_174 ?_ rfl
        exact QM_of ⟨⟨-4, -4, Or.inr ⟨hal, -4, hl1, Or.inr ⟨rfl, -4, Or.inl ⟨rfl, fun v a c => hn v a (by omega)⟩, Or.inl ⟨rfl, rfl, rfl, rfl⟩⟩⟩, Or.inl rfl⟩, fr1, fr2⟩
      · exfalso; omega
    | succ k ih =>
      intro t J va vb h0 h1 hn hU fr1 fr2
      have x0 := hU t h0 (by omega)
      have inner : ∀ (r : Nat) (x : Int) (J : It), 0 ≤ x → x + r = α 0 0 → (∀ v, 0 ≤ v → v < 24 * t + x → ¬ (P2 100000 α σ (σ 1) b) v) → HU α (σ 1) J → (∀ a, a ≠ 131 → a ≠ 142 → J a = I a) → (∀ j, j ≠ 18 → j ≠ 19 → J 131 j = I 131 j) → Ev l g mX12_movedOf (d + 3) 0 0 Z J P 92 [vA 131, vI b, vI t, vI (σ 1 t), vI x] [] (QM (fun r I' => (∃ lo up, MV 100000 α σ b r lo up ∧ (r = -4 ∨ (I' 131 18 = lo ∧ I' 131 19 = up))) ∧ (∀ a, a ≠ 131 → a ≠ 142 → I' a = I a) ∧ (∀ j, j ≠ 18 → j ≠ 19 → I' 131 j = I 131 j)) Z P) := by
        intro r
        induction r with
        | zero =>
          intro x J g0 g1 hm hU fr1 fr2
          have hV : VM J α := hV.fr (fr1 133 (by omega) (by omega)) (fr1 134 (by omega) (by omega)) (fr1 135 (by omega) (by omega)) (fr1 136 (by omega) (by omega))
          have hRT : RT 0 J α σ := fun u a c => by rw [fr1 138 (by omega) (by omega)]; exact hR u a c
          have hfo : FO J α := fun s v a c e q => by rw [fr1 141 (by omega) (by omega)]; exact hfo s v a c e q
          have v0 := hV.1.1
          have v2 := hV.1.2.2.1
          refine ev_iload_4 92 dX12_movedOf_92 ?_
          refine ev_aload_0 94 dX12_movedOf_94 ?_
          refine ev_getA 95 3 dX12_movedOf_95 fa_X12_13 (kd_131 hM) (pr_131_3 hN) rfl ?_
          refine ev_iconst 98 dX12_movedOf_98 ⟨by decide, by decide⟩ ?_
          refine ev_iald 99 dX12_movedOf_99 (kd_133 hM) ⟨by omega, by have := (ln_133 hM); omega⟩ ?_
          try simp only [v0]
          refine ev_icmp_ge 100 166 dX12_movedOf_100 rfl (fun h100 => ?_) (fun h100 => ?_)
          · refine ev_iinc_2 166 dX12_movedOf_166 ⟨by omega, by omega⟩ rfl rfl ?_
            refine ev_goto 169 72 dX12_movedOf_169 rfl ?_
            exact ih (t + 1) J _ _ (by omega) (by omega) (fun v a c z => by
              by_cases q : v < 24 * t + x
              · exact hm v a q z
              · have := z.1; omega) hU fr1 fr2
          · exfalso; omega
        | succ r ih2 =>
          intro x J g0 g1 hm hU fr1 fr2
          have hV : VM J α := hV.fr (fr1 133 (by omega) (by omega)) (fr1 134 (by omega) (by omega)) (fr1 135 (by omega) (by omega)) (fr1 136 (by omega) (by omega))
          have hRT : RT 0 J α σ := fun u a c => by rw [fr1 138 (by omega) (by omega)]; exact hR u a c
          have hfo : FO J α := fun s v a c e q => by rw [fr1 141 (by omega) (by omega)]; exact hfo s v a c e q
          have v0 := hV.1.1
          have v2 := hV.1.2.2.1
          have ev1 : (24 * t + x) / 24 = t := by omega
          have ev2 : (24 * t + x) % 24 = x := by omega
          have hJt := (hU t h0 (by omega)).1
          have hU2 : HU α (upH (σ 1) t x) (upI J 142 t x) := hU.up (by omega)
          have hV2 : VM (upI J 142 t x) α := hV.up (by omega)
          have hR2 : RT 0 (upI J 142 t x) α σ := fun u a c => by rw [upI_A (by omega)]; exact hRT u a c
          have hfo2 : FO (upI J 142 t x) α := fun s v a c e q => by rw [upI_A (by omega)]; exact hfo s v a c e q
          have hgv : (P2 100000 α σ (σ 1) b) (24 * t + x) ↔ ((σ 2 t = 0 ∧ FR α σ (σ 1) t x) ∧ ∃ v, 0 ≤ v ∧ v < 24 * α 0 5 ∧ HG 100000 α σ (upH (σ 1) t x) b (t + 1) v) := by
            unfold P2; rw [ev1, ev2]
            exact ⟨fun z => ⟨⟨z.2.1, z.2.2.1⟩, z.2.2.2⟩, fun z => ⟨by omega, z.1.1, z.1.2, z.2⟩⟩
          have nxt : ¬ (P2 100000 α σ (σ 1) b) (24 * t + x) → ∀ (J : It), HU α (σ 1) J → (∀ a, a ≠ 131 → a ≠ 142 → J a = I a) → (∀ j, j ≠ 18 → j ≠ 19 → J 131 j = I 131 j) → Ev l g mX12_movedOf (d + 3) 0 0 Z J P 160 [vA 131, vI b, vI t, vI (σ 1 t), vI x] [] (QM (fun r I' => (∃ lo up, MV 100000 α σ b r lo up ∧ (r = -4 ∨ (I' 131 18 = lo ∧ I' 131 19 = up))) ∧ (∀ a, a ≠ 131 → a ≠ 142 → I' a = I a) ∧ (∀ j, j ≠ 18 → j ≠ 19 → I' 131 j = I 131 j)) Z P) := by
            intro hz J hU fr1 fr2
            refine ev_iinc_4 160 dX12_movedOf_160 ⟨by omega, by omega⟩ rfl rfl ?_
            refine ev_goto 163 92 dX12_movedOf_163 rfl ?_
            exact ih2 (x + 1) J (by omega) (by omega) (fun v a c z => by
              by_cases q : v = 24 * t + x
              · subst q; exact hz z
              · exact hm v a (by omega) z) hU fr1 fr2
          have fin2 : (σ 2 t = 0 ∧ FR α σ (σ 1) t x) → ∀ (q : Int), LW (HG 100000 α σ (upH (σ 1) t x) b (t + 1)) (24 * α 0 5) q → 0 ≤ q → MV 100000 α σ b 2 (24 * t + x) q := by
            intro hfr q hq hq0
            rcases hq with ⟨z1, z2⟩ | ⟨z1, z2, z3, z4⟩
            · omega
            · exact Or.inr ⟨hal, -4, hl1, Or.inr ⟨rfl, 24 * t + x, Or.inr ⟨by omega, by omega, hgv.mpr ⟨hfr, q, z1, z2, z3⟩, hm⟩, Or.inr ⟨by omega, rfl, rfl, by rw [ev1, ev2]; exact Or.inr ⟨z1, z2, z3, z4⟩⟩⟩⟩
          refine ev_iload_4 92 dX12_movedOf_92 ?_
          refine ev_aload_0 94 dX12_movedOf_94 ?_
          refine ev_getA 95 3 dX12_movedOf_95 fa_X12_13 (kd_131 hM) (pr_131_3 hN) rfl ?_
          refine ev_iconst 98 dX12_movedOf_98 ⟨by decide, by decide⟩ ?_
          refine ev_iald 99 dX12_movedOf_99 (kd_133 hM) ⟨by omega, by have := (ln_133 hM); omega⟩ ?_
          try simp only [v0]
          refine ev_icmp_ge 100 166 dX12_movedOf_100 rfl (fun h100 => ?_) (fun h100 => ?_)
          · exfalso; omega
          · refine ev_aload_0 103 dX12_movedOf_103 ?_
            refine ev_iload_2 104 dX12_movedOf_104 ?_
            refine ev_iload_4 105 dX12_movedOf_105 ?_
            refine ev_cVp_2 107 dX12_movedOf_107 kmX12_canHang lk_X12_208 (kd_131 hM) (m_canHang hM hN hV hW hRT hWS hU (by omega) (by omega)) rfl rfl ?_
            try simp only [v0]
            refine ev_ifb_eq 110 160 dX12_movedOf_110 rfl (fun h110 => ?_) (fun h110 => ?_)
            · first
                | exact nxt (fun z => absurd (hgv.mp z).1 (by assumption)) J hU fr1 fr2
                | (refine nxt (fun z => ?_) _ (fun u a c => by rw [upI_A (by omega)]; exact hU u a c) (fun a z1 z2 => by rw [upI_A z1]; exact fr1 a z1 z2) (fun j z1 z2 => by rw [upI_k z2]; exact fr2 j z1 z2)
                   obtain ⟨v, y1, y2, y3⟩ := (hgv.mp z).2
                   rcases l1 with q | q
                   · exact q.2 v y1 y2 y3
                   · omega)
            · refine ev_aload_0 113 dX12_movedOf_113 ?_
              refine ev_getA 114 17 dX12_movedOf_114 fa_X12_42 (kd_131 hM) (pr_131_17 hN) rfl ?_
              refine ev_iload_2 117 dX12_movedOf_117 ?_
              refine ev_iload_4 118 dX12_movedOf_118 ?_
              refine ev_iast 120 dX12_movedOf_120 (kd_142 hM) ⟨by omega, by have := (ln_142 hM); omega⟩ ?_
              refine ev_aload_0 121 dX12_movedOf_121 ?_
              refine ev_aload_0 122 dX12_movedOf_122 ?_
              refine ev_iload_2 123 dX12_movedOf_123 ?_
              refine ev_iconst 124 dX12_movedOf_124 ⟨by decide, by decide⟩ ?_
              refine ev_iadd 125 dX12_movedOf_125 ⟨by omega, by omega⟩ ?_
              refine ev_iload_1 126 dX12_movedOf_126 ?_
              refine ev_cVm_2 127 dX12_movedOf_127 kmX12_hangs lk_X12_220 (kd_131 hM) (m_hangs hM hN hV2 hW hR2 hWS hfo2 hU2 (by omega) b) rfl rfl (fun x127 I127 f127 => ?_)
              obtain ⟨l1, l2⟩ := f127
              subst l2
              have lr : x127 = -4 ∨ 0 ≤ x127 := by rcases l1 with z | z; exact Or.inl z.1; exact Or.inr z.1
              have bkJ : upI (upI (upI J 142 t x) 131 19 x127) 142 t (σ 1 t) = upI J 131 19 x127 := by
                funext c j
                unfold upI
                by_cases z : c = 142 ∧ j = t
                · rw [if_pos z, if_neg (by omega), z.1, z.2]; exact hJt.symm
                · rw [if_neg z]
                  by_cases y : c = 131 ∧ j = 19
                  · rw [if_pos y, if_pos y]
                  · rw [if_neg y, if_neg y, if_neg z]
              refine ev_pI 130 19 19 dX12_movedOf_130 fp_X12_217 (kd_131 hM) rfl rfl ?_
              refine ev_aload_0 133 dX12_movedOf_133 ?_
              refine ev_getA 134 17 dX12_movedOf_134 fa_X12_42 (kd_131 hM) (pr_131_17 hN) rfl ?_
              refine ev_iload_2 137 dX12_movedOf_137 ?_
              refine ev_iload_3 138 dX12_movedOf_138 ?_
              refine ev_iast 139 dX12_movedOf_139 (kd_142 hM) ⟨by omega, by have := (ln_142 hM); omega⟩ ?_
              rw [bkJ]
              refine ev_aload_0 140 dX12_movedOf_140 ?_
              refine ev_gI 141 19 19 dX12_movedOf_141 fa_X12_217 (kd_131 hM) rfl rfl rfl ?_
              try simp (disch := omega) only [upI_s, upI_a, upI_k]
              try simp only [v0]
              refine ev_if_lt 144 160 dX12_movedOf_144 rfl (fun h144 => ?_) (fun h144 => ?_)
              · first
                  | exact nxt (fun z => absurd (hgv.mp z).1 (by assumption)) J hU fr1 fr2
                  | (refine nxt (fun z => ?_) _ (fun u a c => by rw [upI_A (by omega)]; exact hU u a c) (fun a z1 z2 => by rw [upI_A z1]; exact fr1 a z1 z2) (fun j z1 z2 => by rw [upI_k z2]; exact fr2 j z1 z2)
                     obtain ⟨v, y1, y2, y3⟩ := (hgv.mp z).2
                     rcases l1 with q | q
                     · exact q.2 v y1 y2 y3
                     · omega)
              · refine ev_aload_0 147 dX12_movedOf_147 ?_
                refine ev_bipush 148 dX12_movedOf_148 ⟨by decide, by decide⟩ ?_
                refine ev_iload_2 150 dX12_movedOf_150 ?_
                refine ev_imul 151 dX12_movedOf_151 ⟨by omega, by omega⟩ ?_
                refine ev_iload_4 152 dX12_movedOf_152 ?_
                refine ev_iadd 154 dX12_movedOf_154 ⟨by omega, by omega⟩ ?_
                refine ev_pI 155 18 18 dX12_movedOf_155 fp_X12_214 (kd_131 hM) rfl rfl ?_
                refine ev_iconst 158 dX12_movedOf_158 ⟨by decide, by decide⟩ ?_
                refine ev_iret 159 dX12_movedOf_159 ?_ rfl
                exact QM_of ⟨⟨_, _, fin2 (by assumption) _ l1 (by omega), Or.inr ⟨upI_s _ _ _ _, by rw [upI_k (by omega), upI_s]⟩⟩, fun a z1 z2 => by rw [upI_A z1, upI_A z1]; exact fr1 a z1 z2, fun j z1 z2 => by rw [upI_k z1, upI_k z2]; exact fr2 j z1 z2⟩
      have w2 : J 133 2 = α 0 5 := by rw [fr1 133 (by omega) (by omega)]; exact v2
      refine ev_iload_2 72 dX12_movedOf_72 ?_
      refine ev_aload_0 73 dX12_movedOf_73 ?_
      refine ev_getA 74 3 dX12_movedOf_74 fa_X12_13 (kd_131 hM) (pr_131_3 hN) rfl ?_
      refine ev_iconst 77 dX12_movedOf_77 ⟨by decide, by decide⟩ ?_
      refine ev_iald 78 dX12_movedOf_78 (kd_133 hM) ⟨by omega, by have := (ln_133 hM); omega⟩ ?_
      try simp only [w2]
      refine ev_icmp_ge 79 172 dX12_movedOf_79 rfl (fun h79 => ?_) (fun h79 => ?_)
      · exfalso; omega
      · refine ev_aload_0 82 dX12_movedOf_82 ?_
        refine ev_getA 83 17 dX12_movedOf_83 fa_X12_42 (kd_131 hM) (pr_131_17 hN) rfl ?_
        refine ev_iload_2 86 dX12_movedOf_86 ?_
        refine ev_iald 87 dX12_movedOf_87 (kd_142 hM) ⟨by omega, by have := (ln_142 hM); omega⟩ ?_
        try simp only [w2]
        rw [x0.1]
        refine ev_istore_3 88 dX12_movedOf_88 rfl rfl ?_
        refine ev_iconst 89 dX12_movedOf_89 ⟨by decide, by decide⟩ ?_
        refine ev_istore_4 90 dX12_movedOf_90 rfl rfl ?_
        exact inner (α 0 0).toNat 0 J (by omega) (by omega) (fun v a c => hn v a (by omega)) hU fr1 fr2
  have fill : ∀ (k : Nat) (n : Int) (J : It) (va vb : Vv), 0 ≤ n → n + k = 6 → (∀ u, 0 ≤ u → u < n → J 142 u = I 138 (29 + u)) → (∀ a, a ≠ 142 → J a = I a) → Ev l g mX12_movedOf (d + 3) 0 0 Z J P 2 [vA 131, vI b, vI n, va, vb] [] (QM (fun r I' => (∃ lo up, MV 100000 α σ b r lo up ∧ (r = -4 ∨ (I' 131 18 = lo ∧ I' 131 19 = up))) ∧ (∀ a, a ≠ 131 → a ≠ 142 → I' a = I a) ∧ (∀ j, j ≠ 18 → j ≠ 19 → I' 131 j = I 131 j)) Z P) := by
    intro k
    induction k with
    | zero =>
      intro n J va vb h0 h1 hq fr
      have hU0 : HU α (σ 1) J := fun u a c => ⟨by rw [hq u a (by omega)]; exact hR.x a c (by omega), hWS.2.2.1 u a c⟩
      have hU : HU α (σ 1) (upI (upI J 131 18 (-4)) 131 19 (-4)) := fun u a c => by rw [upI_A (by omega), upI_A (by omega)]; exact hU0 u a c
      have frA : ∀ a, a ≠ 131 → a ≠ 142 → (upI (upI J 131 18 (-4)) 131 19 (-4)) a = I a := fun a z1 z2 => by rw [upI_A z1, upI_A z1]; exact fr a z2
      have frB : ∀ j, j ≠ 18 → j ≠ 19 → (upI (upI J 131 18 (-4)) 131 19 (-4)) 131 j = I 131 j := fun j z1 z2 => by rw [upI_k z2, upI_k z1, fr 131 (by omega)]
      have hV2 : VM (upI (upI J 131 18 (-4)) 131 19 (-4)) α := hV.fr (frA 133 (by omega) (by omega)) (frA 134 (by omega) (by omega)) (frA 135 (by omega) (by omega)) (frA 136 (by omega) (by omega))
      have hR2 : RT 0 (upI (upI J 131 18 (-4)) 131 19 (-4)) α σ := fun u a c => by rw [frA 138 (by omega) (by omega)]; exact hR u a c
      have hfo2 : FO (upI (upI J 131 18 (-4)) 131 19 (-4)) α := fun s v a c e q => by rw [frA 141 (by omega) (by omega)]; exact hfo s v a c e q
      refine ev_iload_2 2 dX12_movedOf_2 ?_
      refine ev_bipush 3 dX12_movedOf_3 ⟨by decide, by decide⟩ ?_
      refine ev_icmp_ge 5 29 dX12_movedOf_5 rfl (fun h5 => ?_) (fun h5 => ?_)
      · refine ev_aload_0 29 dX12_movedOf_29 ?_
        refine ev_bipush 30 dX12_movedOf_30 ⟨by decide, by decide⟩ ?_
        refine ev_pI 32 18 18 dX12_movedOf_32 fp_X12_214 (kd_131 hM) rfl rfl ?_
        refine ev_aload_0 35 dX12_movedOf_35 ?_
        refine ev_bipush 36 dX12_movedOf_36 ⟨by decide, by decide⟩ ?_
        refine ev_pI 38 19 19 dX12_movedOf_38 fp_X12_217 (kd_131 hM) rfl rfl ?_
        refine ev_aload_0 41 dX12_movedOf_41 ?_
        refine ev_iload_1 42 dX12_movedOf_42 ?_
        refine ev_cVp_1 43 dX12_movedOf_43 kmX12_isAll lk_X12_211 (kd_131 hM) (m_isAll hM hN hV2 hW hR2 hWS hfo2 hU b) rfl rfl ?_
        try simp (disch := omega) only [upI_s, upI_a, upI_k]
        refine ev_ifb_eq 46 51 dX12_movedOf_46 rfl (fun h46 => ?_) (fun h46 => ?_)
        · refine ev_aload_0 51 dX12_movedOf_51 ?_
          refine ev_aload_0 52 dX12_movedOf_52 ?_
          refine ev_iconst 53 dX12_movedOf_53 ⟨by decide, by decide⟩ ?_
          refine ev_iload_1 54 dX12_movedOf_54 ?_
          refine ev_cVm_2 55 dX12_movedOf_55 kmX12_hangs lk_X12_220 (kd_131 hM) (m_hangs hM hN hV2 hW hR2 hWS hfo2 hU (by omega) b) rfl rfl (fun x55 I55 f55 => ?_)
          obtain ⟨l1, l2⟩ := f55
          subst l2
          have lr : x55 = -4 ∨ 0 ≤ x55 := by
            rcases l1 with z | z
            · exact Or.inl z.1
            · exact Or.inr z.1
          refine ev_pI 58 18 18 dX12_movedOf_58 fp_X12_214 (kd_131 hM) rfl rfl ?_
          refine ev_aload_0 61 dX12_movedOf_61 ?_
          refine ev_gI 62 18 18 dX12_movedOf_62 fa_X12_214 (kd_131 hM) rfl rfl rfl ?_
          try simp (disch := omega) only [upI_s, upI_a, upI_k]
          refine ev_if_lt 65 70 dX12_movedOf_65 rfl (fun h65 => ?_) (fun h65 => ?_)
          · refine ev_iconst 70 dX12_movedOf_70 ⟨by decide, by decide⟩ ?_
            refine ev_istore_2 71 dX12_movedOf_71 rfl rfl ?_
            have e4 : x55 = -4 := by omega
            subst e4
            exact two (by assumption) l1 (α 0 5).toNat 0 _ _ _ (by omega) (by omega) (fun v a c => by omega) (fun u a c => by rw [upI_A (by omega)]; exact hU u a c) (fun a z1 z2 => by rw [upI_A z1]; exact frA a z1 z2) (fun j z1 z2 => by rw [upI_k z1]; exact frB j z1 z2)
          · refine ev_iconst 68 dX12_movedOf_68 ⟨by decide, by decide⟩ ?_
            refine ev_iret 69 dX12_movedOf_69 ?_ rfl
            exact QM_of ⟨⟨x55, -4, Or.inr ⟨by assumption, x55, l1, Or.inl ⟨by omega, rfl, rfl, rfl⟩⟩, Or.inr ⟨upI_s _ _ _ _, by rw [upI_k (by omega), upI_s]⟩⟩, fun a z1 z2 => by rw [upI_A z1]; exact frA a z1 z2, fun j z1 z2 => by rw [upI_k z1]; exact frB j z1 z2⟩
        · refine ev_iconst 49 dX12_movedOf_49 ⟨by decide, by decide⟩ ?_
          refine ev_iret 50 dX12_movedOf_50 ?_ rfl
          exact QM_of ⟨⟨-4, -4, Or.inl ⟨by assumption, rfl, rfl, rfl⟩, Or.inr ⟨by rw [upI_k (by omega), upI_s], upI_s _ _ _ _⟩⟩, frA, frB⟩
      · exfalso; omega
    | succ k ih =>
      intro n J va vb h0 h1 hq fr
      refine ev_iload_2 2 dX12_movedOf_2 ?_
      refine ev_bipush 3 dX12_movedOf_3 ⟨by decide, by decide⟩ ?_
      refine ev_icmp_ge 5 29 dX12_movedOf_5 rfl (fun h5 => ?_) (fun h5 => ?_)
      · exfalso; omega
      · refine ev_aload_0 8 dX12_movedOf_8 ?_
        refine ev_getA 9 17 dX12_movedOf_9 fa_X12_42 (kd_131 hM) (pr_131_17 hN) rfl ?_
        refine ev_iload_2 12 dX12_movedOf_12 ?_
        refine ev_aload_0 13 dX12_movedOf_13 ?_
        refine ev_getA 14 8 dX12_movedOf_14 fa_X12_29 (kd_131 hM) (pr_131_8 hN) rfl ?_
        refine ev_bipush 17 dX12_movedOf_17 ⟨by decide, by decide⟩ ?_
        refine ev_iload_2 19 dX12_movedOf_19 ?_
        refine ev_iadd 20 dX12_movedOf_20 ⟨by omega, by omega⟩ ?_
        refine ev_iald 21 dX12_movedOf_21 (kd_138 hM) ⟨by omega, by have := (ln_138 hM); omega⟩ ?_
        refine ev_iast 22 dX12_movedOf_22 (kd_142 hM) ⟨by omega, by have := (ln_142 hM); omega⟩ ?_
        refine ev_iinc_2 23 dX12_movedOf_23 ⟨by omega, by omega⟩ rfl rfl ?_
        refine ev_goto 26 2 dX12_movedOf_26 rfl ?_
        refine ih (n + 1) _ _ _ (by omega) (by omega) (fun u a c => ?_) (fun a z => by rw [upI_A z]; exact fr a z)
        by_cases z : u = n
        · subst z; rw [upI_s, fr 138 (by omega)]
        · rw [upI_k z]; exact hq u a (by omega)
  refine ev_iconst 0 dX12_movedOf_0 ⟨by decide, by decide⟩ ?_
  refine ev_istore_2 1 dX12_movedOf_1 rfl rfl ?_
  exact fill 6 0 I _ _ (by omega) (by omega) (fun u a c => by omega) (fun _ _ => rfl)
theorem mv_4 {cap : Int} {α σ : Nat → Int → Int} {b n lo up : Int} (h : MV cap α σ b n lo up) : (n = 0 ∨ n = 1 ∨ n = 2 ∨ n = -4) ∧ (n = -4 → lo = -4 ∧ up = -4) := by
  rcases h with ⟨_, h⟩ | ⟨_, r, _, ⟨_, h⟩ | ⟨_, q, _, ⟨_, h⟩ | ⟨_, h1, _⟩⟩⟩
  · omega
  · omega
  · omega
  · omega
theorem m_moved {l : Launch} {g : Gt} {d : Nat} {Z : Zt} {I : It} {P : Pt'} (hM : LayM Z) (hN : LayQ P) {α : Nat → Int → Int} (hV : VM I α) (hW : WF α) {σ : Nat → Int → Int} (hR : RT 0 I α σ) (hWS : WS α σ) (hF : HF I α) (b w : Int) : Mt l g mX12_moved (d + 5) 0 0 [vA 131, vI b, vI w] Z I P (QM (fun r I' => mvA 100000 α σ b w r ∧ ((∀ j, j ≠ 16 → j ≠ 18 → j ≠ 19 → I' 131 j = I 131 j) ∧ (∀ a, a ≠ 131 → a ≠ 141 → a ≠ 142 → I' a = I a) ∧ HF I' α)) Z P) := by
  have v0 := hV.1.1
  have v1 := hV.1.2.1
  have v2 := hV.1.2.2.1
  have v3 := hV.1.2.2.2.1
  have v4 := hV.1.2.2.2.2
  have w0 := hW.1
  have w1 := hW.2.1
  have w5 := hW.2.2.1
  have w10 := hW.2.2.2.1
  refine Mt.of kmX12_moved (ls := [vA 131, vI b, vI w, vX]) (fun _ => rfl) (fun _ => rfl) (okf_k (okf_k (okf_k (okf_n rfl)))) (fun hok => ?_)
  refine ev_iload_1 0 dX12_moved_0 ?_
  refine ev_i2l 1 dX12_moved_1 ?_
  refine ev_lconst0 2 dX12_moved_2 ?_
  refine ev_ldc2 3 dX12_moved_3 kl_X12_200 ⟨by decide, by decide⟩ ?_
  refine ev_cSp_3 6 dX12_moved_6 kmX12_in lk_X12_62 (m_in _ _ _) rfl rfl ?_
  refine ev_ifb_eq 9 24 dX12_moved_9 rfl (fun h9 => ?_) (fun h9 => ?_)
  · refine ev_iconst 24 dX12_moved_24 ⟨by decide, by decide⟩ ?_
    refine ev_iret 25 dX12_moved_25 ?_ rfl
    exact QM_of ⟨Or.inr ⟨by omega, rfl⟩, fun _ _ _ _ => rfl, fun _ _ _ _ => rfl, hF⟩
  · refine ev_iload_2 12 dX12_moved_12 ?_
    refine ev_i2l 13 dX12_moved_13 ?_
    refine ev_lconst0 14 dX12_moved_14 ?_
    refine ev_ldc2 15 dX12_moved_15 kl_X12_77 ⟨by decide, by decide⟩ ?_
    refine ev_cSp_3 18 dX12_moved_18 kmX12_in lk_X12_62 (m_in _ _ _) rfl rfl ?_
    refine ev_ifb_ne 21 26 dX12_moved_21 rfl (fun h21 => ?_) (fun h21 => ?_)
    · refine ev_aload_0 26 dX12_moved_26 ?_
      refine ev_cVv_0 27 dX12_moved_27 kmX12_sounds lk_X12_193 (kd_131 hM) (m_sounds hM hN hV hW hF) rfl rfl (fun I27 f27 => ?_)
      obtain ⟨so, hfo, -⟩ := id f27
      have hV2 := so.vm hV
      have hR2 := so.rt hR
      refine ev_aload_0 30 dX12_moved_30 ?_
      refine ev_iload_1 31 dX12_moved_31 ?_
      refine ev_cVm_1 32 dX12_moved_32 kmX12_movedOf lk_X12_223 (kd_131 hM) (m_movedOf hM hN hV2 hW hR2 hWS hfo b) rfl rfl (fun x32 I32 f32 => ?_)
      obtain ⟨⟨lo, up, mv, mr⟩, g1, g2⟩ := f32
      refine ev_istore_3 35 dX12_moved_35 rfl rfl ?_
      refine ev_iload_3 36 dX12_moved_36 ?_
      refine ev_if_lt 37 44 dX12_moved_37 rfl (fun h37 => ?_) (fun h37 => ?_)
      · refine ev_iload_3 44 dX12_moved_44 ?_
        refine ev_goto 45 64 dX12_moved_45 rfl ?_
        refine ev_iret 64 dX12_moved_64 ?_ rfl
        refine QM_of ⟨Or.inl ⟨by omega, _, _, _, mv, ?_⟩, fun j z1 z2 z3 => (g2 j z2 z3).trans (so.2.1 j z1), fun a z1 z2 z3 => (g1 a z1 z3).trans (so.2.2 a z1 z2), Or.inr ⟨(g2 16 (by omega) (by omega)).trans f27.2.2, fun s v a c e q => by rw [g1 141 (by omega) (by omega)]; exact hfo s v a c e q⟩⟩
        have m4 := mv_4 mv
        (repeat' split) <;> omega
      · refine ev_iload_2 40 dX12_moved_40 ?_
        refine ev_zne 41 48 dX12_moved_41 rfl (fun h41 => ?_) (fun h41 => ?_)
        · refine ev_iload_2 48 dX12_moved_48 ?_
          refine ev_iconst 49 dX12_moved_49 ⟨by decide, by decide⟩ ?_
          refine ev_jne 50 60 dX12_moved_50 rfl (fun h50 => ?_) (fun h50 => ?_)
          · refine ev_aload_0 60 dX12_moved_60 ?_
            refine ev_gI 61 19 19 dX12_moved_61 fa_X12_217 (kd_131 hM) rfl rfl rfl ?_
            refine ev_iret 64 dX12_moved_64 ?_ rfl
            refine QM_of ⟨Or.inl ⟨by omega, _, _, _, mv, ?_⟩, fun j z1 z2 z3 => (g2 j z2 z3).trans (so.2.1 j z1), fun a z1 z2 z3 => (g1 a z1 z3).trans (so.2.2 a z1 z2), Or.inr ⟨(g2 16 (by omega) (by omega)).trans f27.2.2, fun s v a c e q => by rw [g1 141 (by omega) (by omega)]; exact hfo s v a c e q⟩⟩
            have m4 := mv_4 mv
            (repeat' split) <;> omega
          · refine ev_aload_0 53 dX12_moved_53 ?_
            refine ev_gI 54 18 18 dX12_moved_54 fa_X12_214 (kd_131 hM) rfl rfl rfl ?_
            refine ev_goto 57 64 dX12_moved_57 rfl ?_
            refine ev_iret 64 dX12_moved_64 ?_ rfl
            refine QM_of ⟨Or.inl ⟨by omega, _, _, _, mv, ?_⟩, fun j z1 z2 z3 => (g2 j z2 z3).trans (so.2.1 j z1), fun a z1 z2 z3 => (g1 a z1 z3).trans (so.2.2 a z1 z2), Or.inr ⟨(g2 16 (by omega) (by omega)).trans f27.2.2, fun s v a c e q => by rw [g1 141 (by omega) (by omega)]; exact hfo s v a c e q⟩⟩
            have m4 := mv_4 mv
            (repeat' split) <;> omega
        · refine ev_iload_3 44 dX12_moved_44 ?_
          refine ev_goto 45 64 dX12_moved_45 rfl ?_
          refine ev_iret 64 dX12_moved_64 ?_ rfl
          refine QM_of ⟨Or.inl ⟨by omega, _, _, _, mv, ?_⟩, fun j z1 z2 z3 => (g2 j z2 z3).trans (so.2.1 j z1), fun a z1 z2 z3 => (g1 a z1 z3).trans (so.2.2 a z1 z2), Or.inr ⟨(g2 16 (by omega) (by omega)).trans f27.2.2, fun s v a c e q => by rw [g1 141 (by omega) (by omega)]; exact hfo s v a c e q⟩⟩
          have m4 := mv_4 mv
          (repeat' split) <;> omega
    · refine ev_iconst 24 dX12_moved_24 ⟨by decide, by decide⟩ ?_
      refine ev_iret 25 dX12_moved_25 ?_ rfl
      exact QM_of ⟨Or.inr ⟨by omega, rfl⟩, fun _ _ _ _ => rfl, fun _ _ _ _ => rfl, hF⟩
