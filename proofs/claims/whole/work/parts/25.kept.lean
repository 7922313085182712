/-! calls that change what is kept -/
def EqT (a b : Nat → Int → Int) : Prop := a 0 0 = b 0 0 ∧ a 0 1 = b 0 1 ∧ (∀ t, 0 ≤ t → t < 6 → a 1 t = b 1 t ∧ a 2 t = b 2 t) ∧ ∀ j, 0 ≤ j → j < b 0 1 → a 3 j = b 3 j ∧ a 4 j = b 4 j ∧ a 5 j = b 5 j ∧ a 6 j = b 6 j
theorem VP.fr {p : Nat} {n : Int} {I I' : It} {U : Int → Nat → Int → Int} (h : VP p n I U) (k : ∀ q, p ≤ q → q < p + 2 + 7 * n.toNat → I' q = I q) : VP p n I' U := by
  obtain ⟨h1, h2, h3⟩ := h
  have e : I' p = I p := k p (Nat.le_refl _) (by omega)
  refine ⟨by rw [e]; exact h1, by rw [e]; exact h2, fun j a b => ?_⟩
  rw [e] at b ⊢
  have hr := sl_r (n := n) (o := I p 1) (k := j) h1 ⟨a, by omega⟩
  exact (eqS_fr (fun a ha hb => k a (by omega) (by omega))).tr (h3 j a b)
def addS (σ : Nat → Int → Int) (a b c : Int) : Nat → Int → Int := fun k j => if k = 0 ∧ j = 1 then σ 0 1 + 1 else if j = σ 0 1 ∧ k = 3 then a else if j = σ 0 1 ∧ k = 4 then b else if j = σ 0 1 ∧ k = 5 then c else if j = σ 0 1 ∧ k = 6 then -4 else σ k j
def cutS (σ : Nat → Int → Int) (t : Int) : Nat → Int → Int := fun k j => if k = 2 ∧ j = t then 1 else if k = 6 ∧ σ 6 j = t then -4 else σ k j
def hangS (σ : Nat → Int → Int) (t x : Int) : Nat → Int → Int := fun k j => if k = 1 ∧ j = t then x else if k = 4 ∧ σ 6 j = t then x else σ k j
/-- the sea went on, what was is kept -/
def PS (U : Int → Nat → Int → Int) (σ' : Nat → Int → Int) (I I' : It) : Prop := EqT (vw 18 I') σ' ∧ I' 25 2 = (if I 25 2 < 8 then I 25 2 + 1 else 8) ∧ VP 25 8 I' (pshU 8 (I 25 2) U (vw 18 I)) ∧ ∀ q, (q < 18 ∨ 83 ≤ q) → q ≠ 99 → q ≠ 100 → I' q = I q
theorem c_currents {l : Launch} {g : Gt} {d : Nat} {Z : Zt} {I : It} {P : Pt'} {T : Nat} {α σ : Nat → Int → Int} (hsn : SN T α Z I P) (hS : VS I σ) (hWS : WS α σ) (hn : 0 ≤ I 112 4 ∧ I 112 4 ≤ 6) (hD : ∀ i, 0 ≤ i → i < I 112 4 → (0 ≤ I 114 i ∧ I 114 i ≤ 23) ∧ (1 ≤ I 116 i ∧ I 116 i ≤ 50)) (x : Int) : Mt l g mX11_currents (d + 3) 0 0 [vA 0, vI x] Z I P (QP (if 0 ≤ x ∧ x < α 0 1 then ((bF (fun c => ∀ i, 0 ≤ i → i < I 112 4 → I 113 i = x → (I 114 i + I 116 i * (c - 3)) % α 0 0 = I 115 i) 7 : Nat) : Int) else -1) Z I P) := by
  have hZ := hsn.1
  have hP := hsn.2.1
  have hT0 := hsn.2.2.1
  have hT := hsn.2.2.2.1
  have hW := hsn.2.2.2.2.2.1
  have w0 := hW.1
  have w1 := hW.2.1
  have w5 := hW.2.2.1
  have a0 : I T 0 = α 0 0 := hsn.2.2.2.2.1.at 0
  have a1 : I T 1 = α 0 1 := hsn.2.2.2.2.1.at 1
  have a5 : I T 5 = α 0 5 := hsn.2.2.2.2.1.at 5
  have a4 : I (T + 4) = α 4 := hsn.2.2.2.2.1 4 (by omega)
  have s1 : I 19 = σ 1 := hS 1 (by omega)
  have s2 : I 20 = σ 2 := hS 2 (by omega)
  clear s1 s2
  have aT : I T = α 0 := hsn.2.2.2.2.1 0 (by omega)
  have t1 : I (T + 1) = α 1 := hsn.2.2.2.2.1 1 (by omega)
  have t2 : I (T + 2) = α 2 := hsn.2.2.2.2.1 2 (by omega)
  have t3 : I (T + 3) = α 3 := hsn.2.2.2.2.1 3 (by omega)
  have t4 : I (T + 4) = α 4 := hsn.2.2.2.2.1 4 (by omega)
  have t5 : I (T + 5) = α 5 := hsn.2.2.2.2.1 5 (by omega)
  have t6 : I (T + 6) = α 6 := hsn.2.2.2.2.1 6 (by omega)
  have t7 : I (T + 7) = α 7 := hsn.2.2.2.2.1 7 (by omega)
  have t8 : I (T + 8) = α 8 := hsn.2.2.2.2.1 8 (by omega)
  have t9 : I (T + 9) = α 9 := hsn.2.2.2.2.1 9 (by omega)
  have t10 : I (T + 10) = α 10 := hsn.2.2.2.2.1 10 (by omega)
  have t11 : I (T + 11) = α 11 := hsn.2.2.2.2.1 11 (by omega)
  have t12 : I (T + 12) = α 12 := hsn.2.2.2.2.1 12 (by omega)
  have s0 : I 18 = σ 0 := hS 0 (by omega)
  have s1 : I 19 = σ 1 := hS 1 (by omega)
  have s2 : I 20 = σ 2 := hS 2 (by omega)
  have s3 : I 21 = σ 3 := hS 3 (by omega)
  have s4 : I 22 = σ 4 := hS 4 (by omega)
  have s5 : I 23 = σ 5 := hS 5 (by omega)
  have s6 : I 24 = σ 6 := hS 6 (by omega)
  refine Mt.of kmX11_currents (ls := [vA 0, vI x, vX, vX]) (fun _ => rfl) (fun _ => rfl) (okf_k (okf_k (okf_n rfl))) (fun hok => ?_)
  have loop : (0 ≤ x ∧ x < α 0 1) → ∀ (k n : Nat), n + k = 7 → Ev l g mX11_currents (d + 3) 0 0 Z I P 17 [vA 0, vI x, vI ((bF (fun c => ∀ i, 0 ≤ i → i < I 112 4 → I 113 i = x → (I 114 i + I 116 i * (c - 3)) % α 0 0 = I 115 i) n : Nat) : Int), vI n] [] (QP (if 0 ≤ x ∧ x < α 0 1 then ((bF (fun c => ∀ i, 0 ≤ i → i < I 112 4 → I 113 i = x → (I 114 i + I 116 i * (c - 3)) % α 0 0 = I 115 i) 7 : Nat) : Int) else -1) Z I P) := by
    intro hgd k
    induction k with
    | zero =>
      intro n h1
      obtain rfl : n = 7 := by omega
      refine ev_iload_3 17 dX11_currents_17 ?_
      refine ev_bipush 18 dX11_currents_18 ⟨by decide, by decide⟩ ?_
      refine ev_icmp_gt 20 54 dX11_currents_20 rfl (fun h20 => ?_) (fun h20 => ?_)
      · refine ev_iload_2 54 dX11_currents_54 ?_
        refine ev_iret 55 dX11_currents_55 ?_ rfl
        exact QP_of (if_pos hgd).symm
      · exfalso; omega
    | succ k ih =>
      intro n h1
      have n48 : ∀ y : Int, y = ((bF (fun c => ∀ i, 0 ≤ i → i < I 112 4 → I 113 i = x → (I 114 i + I 116 i * (c - 3)) % α 0 0 = I 115 i) (n + 1) : Nat) : Int) → Ev l g mX11_currents (d + 3) 0 0 Z I P 48 [vA 0, vI x, vI y, vI n] [] (QP (if 0 ≤ x ∧ x < α 0 1 then ((bF (fun c => ∀ i, 0 ≤ i → i < I 112 4 → I 113 i = x → (I 114 i + I 116 i * (c - 3)) % α 0 0 = I 115 i) 7 : Nat) : Int) else -1) Z I P) := by
        intro y e
        subst e
        refine ev_iinc_3 48 dX11_currents_48 ⟨by omega, by omega⟩ rfl rfl ?_
        refine ev_goto 51 17 dX11_currents_51 rfl ?_
        rw [show (n : Int) + 1 = ((n + 1 : Nat) : Int) by omega]
        exact ih (n + 1) (by omega)
      have hb31 := bF_31 (p := (fun c => ∀ i, 0 ≤ i → i < I 112 4 → I 113 i = x → (I 114 i + I 116 i * (c - 3)) % α 0 0 = I 115 i)) (n := n) (by omega)
      refine ev_iload_3 17 dX11_currents_17 ?_
      refine ev_bipush 18 dX11_currents_18 ⟨by decide, by decide⟩ ?_
      refine ev_icmp_gt 20 54 dX11_currents_20 rfl (fun h20 => ?_) (fun h20 => ?_)
      · exfalso; omega
      · refine ev_aload_0 23 dX11_currents_23 ?_
        refine ev_getA 24 9 dX11_currents_24 fa_X11_73 (kd_0 hZ) (pr_0_9 hP) rfl ?_
        refine ev_aload_0 27 dX11_currents_27 ?_
        refine ev_getA 28 1 dX11_currents_28 fa_X11_19 (kd_0 hZ) (pr_0_1 hP) rfl ?_
        refine ev_getA 31 0 dX11_currents_31 fa_X11_122 (kd_4 hZ) hT0 rfl ?_
        refine ev_iload_1 34 dX11_currents_34 ?_
        refine ev_iload_3 35 dX11_currents_35 ?_
        refine ev_cVp_3 36 dX11_currents_36 kmX1_allBy lk_X11_314 (kd_112 hZ) (c_allBy hZ hP hT _ _ hn (by omega) hD (by omega)) rfl rfl ?_
        try simp only [a0]
        refine ev_ifb_eq 39 48 dX11_currents_39 rfl (fun h39 => ?_) (fun h39 => ?_)
        · first
            | exact n48 _ (by rw [bF_t (by assumption)])
            | exact n48 _ (by rw [bF_f (by assumption)])
        · refine ev_iload_2 42 dX11_currents_42 ?_
          refine ev_iconst 43 dX11_currents_43 ⟨by decide, by decide⟩ ?_
          refine ev_iload_3 44 dX11_currents_44 ?_
          refine ev_ishl 45 dX11_currents_45 ⟨by omega, by omega⟩ ?_
          rw [show (n : Int).toNat = n by omega]
          refine ev_ior 46 dX11_currents_46 hb31.1 hb31.2 ?_
          refine ev_istore_2 47 dX11_currents_47 rfl rfl ?_
          first
            | exact n48 _ (by rw [bF_t (by assumption)])
            | exact n48 _ (by rw [bF_f (by assumption)])
  refine ev_aload_0 0 dX11_currents_0 ?_
  refine ev_getA 1 1 dX11_currents_1 fa_X11_19 (kd_0 hZ) (pr_0_1 hP) rfl ?_
  refine ev_iload_1 4 dX11_currents_4 ?_
  refine ev_cVp_1 5 dX11_currents_5 kmX6_isLevel lk_X11_128 (kd_4 hZ) (c_isLevel hZ hP hT0 hT _) rfl rfl ?_
  try simp only [aT, t1, t2, t3, t4, t5, t6, t7, t8, t9, t10, t11, t12, s0, s1, s2, s3, s4, s5, s6]
  refine ev_ifb_ne 8 13 dX11_currents_8 rfl (fun h8 => ?_) (fun h8 => ?_)
  · refine ev_iconst 13 dX11_currents_13 ⟨by decide, by decide⟩ ?_
    refine ev_istore_2 14 dX11_currents_14 rfl rfl ?_
    refine ev_iconst 15 dX11_currents_15 ⟨by decide, by decide⟩ ?_
    refine ev_istore_3 16 dX11_currents_16 rfl rfl ?_
    exact loop (by omega) 7 0 (by omega)
  · refine ev_iconst 11 dX11_currents_11 ⟨by decide, by decide⟩ ?_
    refine ev_iret 12 dX11_currents_12 ?_ rfl
    exact QP_of (if_neg (by omega)).symm
theorem c_write {l : Launch} {g : Gt} {d : Nat} {Z : Zt} {I : It} {P : Pt'} {T : Nat} {α σ : Nat → Int → Int} (hsn : SN T α Z I P) (hS : VS I σ) (hWS : WS α σ) (hlen : 0 ≤ I 1 3 ∧ I 1 3 ≤ 200) (c : Int) : Mt l g mX11_write (d + 1) 0 0 [vA 0, vI c] Z I P (QM (fun r I' => (¬ (32 ≤ c ∧ c ≤ 126) ∧ r = -1 ∧ I' = I) ∨ ((32 ≤ c ∧ c ≤ 126) ∧ ((I 1 3 < 200 ∧ r = I 1 3 + 1 ∧ I' = upI (upI I 2 (I 1 3) c) 1 3 (I 1 3 + 1)) ∨ (I 1 3 = 200 ∧ r = -3 ∧ I' = I)))) Z P) := by
  have hZ := hsn.1
  have hP := hsn.2.1
  have hT0 := hsn.2.2.1
  have hT := hsn.2.2.2.1
  have hW := hsn.2.2.2.2.2.1
  have w0 := hW.1
  have w1 := hW.2.1
  have w5 := hW.2.2.1
  refine Mt.of kmX11_write (ls := [vA 0, vI c]) (fun _ => rfl) (fun _ => rfl) (okf_k (okf_k (okf_n rfl))) (fun hok => ?_)
  refine ev_iload_1 0 dX11_write_0 ?_
  refine ev_bipush 1 dX11_write_1 ⟨by decide, by decide⟩ ?_
  refine ev_bipush 3 dX11_write_3 ⟨by decide, by decide⟩ ?_
  refine ev_cSp_3 5 dX11_write_5 kmX11_within lk_X11_111 (c_within _ _ _) rfl rfl ?_
  refine ev_ifb_ne 8 13 dX11_write_8 rfl (fun h8 => ?_) (fun h8 => ?_)
  · refine ev_aload_0 13 dX11_write_13 ?_
    refine ev_getA 14 0 dX11_write_14 fa_X11_12 (kd_0 hZ) (pr_0_0 hP) rfl ?_
    refine ev_iload_1 17 dX11_write_17 ?_
    refine ev_cVm_1 18 dX11_write_18 kmX9_add lk_X11_100 (kd_1 hZ) (c_tadd hZ hP hlen _) rfl rfl (fun x18 I18 f18 => ?_)
    refine ev_zne 21 27 dX11_write_21 rfl (fun h21 => ?_) (fun h21 => ?_)
    · refine ev_aload_0 27 dX11_write_27 ?_
      refine ev_getA 28 0 dX11_write_28 fa_X11_12 (kd_0 hZ) (pr_0_0 hP) rfl ?_
      refine ev_gI 31 3 3 dX11_write_31 fa_X11_115 (kd_1 hZ) rfl rfl rfl ?_
      refine ev_iret 34 dX11_write_34 ?_ rfl
      rcases f18 with ⟨f1, f2, f3⟩ | ⟨f1, f2, f3⟩
      · exact QM_of (Or.inr ⟨by omega, Or.inl ⟨f1, by rw [f3, upI_s], f3⟩⟩)
      · exfalso; omega
    · refine ev_bipush 24 dX11_write_24 ⟨by decide, by decide⟩ ?_
      refine ev_iret 26 dX11_write_26 ?_ rfl
      rcases f18 with ⟨f1, f2, f3⟩ | ⟨f1, f2, f3⟩
      · exfalso; omega
      · exact QM_of (Or.inr ⟨by omega, Or.inr ⟨f1, rfl, f3⟩⟩)
  · refine ev_iconst 11 dX11_write_11 ⟨by decide, by decide⟩ ?_
    refine ev_iret 12 dX11_write_12 ?_ rfl
    exact QM_of (Or.inl ⟨by omega, rfl, rfl⟩)
theorem c_wipe {l : Launch} {g : Gt} {d : Nat} {Z : Zt} {I : It} {P : Pt'} {T : Nat} {α σ : Nat → Int → Int} (hsn : SN T α Z I P) (hS : VS I σ) (hWS : WS α σ) : Mt l g mX11_wipe (d + 1) 0 0 [vA 0] Z I P (QM (fun r I' => r = I 1 3 ∧ I' = upI I 1 3 0) Z P) := by
  have hZ := hsn.1
  have hP := hsn.2.1
  have hT0 := hsn.2.2.1
  have hT := hsn.2.2.2.1
  have hW := hsn.2.2.2.2.2.1
  have w0 := hW.1
  have w1 := hW.2.1
  have w5 := hW.2.2.1
  refine Mt.of kmX11_wipe (ls := [vA 0]) (fun _ => rfl) (fun _ => rfl) (okf_k (okf_n rfl)) (fun hok => ?_)
  refine ev_aload_0 0 dX11_wipe_0 ?_
  refine ev_getA 1 0 dX11_wipe_1 fa_X11_12 (kd_0 hZ) (pr_0_0 hP) rfl ?_
  refine ev_cVm_0 4 dX11_wipe_4 kmX9_empty lk_X11_108 (kd_1 hZ) (c_tempty hZ hP) rfl rfl (fun x4 I4 f4 => ?_)
  refine ev_iret 7 dX11_wipe_7 ?_ rfl
  exact QM_of f4
theorem c_fault {l : Launch} {g : Gt} {d : Nat} {Z : Zt} {I : It} {P : Pt'} {T : Nat} {α σ : Nat → Int → Int} (hsn : SN T α Z I P) (hS : VS I σ) (hWS : WS α σ) {D : Nat} (hD0 : P 0 11 = some D) (hD : IsT D) {tx : Int → Int} {n : Int} (hx : I 2 = tx) (hn : I 1 3 = n) (hlen : 0 ≤ n ∧ n ≤ 200) (hL : Ltr tx n) : Mt l g mX11_fault (d + 5) 0 0 [vA 0] Z I P (QM (fun r I' => r = (rdF tx n 200 (startD (vw D I)) 0).1 ∧ vw D I' = (rdF tx n 200 (startD (vw D I)) 0).2 ∧ (∀ a, (a < D ∨ D + 13 ≤ a) → a ≠ 1 → a ≠ 3 → I' a = I a) ∧ (∀ j, j ≠ 2 → I' 1 j = I 1 j)) Z P) := by
  have hZ := hsn.1
  have hP := hsn.2.1
  have hT0 := hsn.2.2.1
  have hT := hsn.2.2.2.1
  have hW := hsn.2.2.2.2.2.1
  have w0 := hW.1
  have w1 := hW.2.1
  have w5 := hW.2.2.1
  refine Mt.of kmX11_fault (ls := [vA 0]) (fun _ => rfl) (fun _ => rfl) (okf_k (okf_n rfl)) (fun hok => ?_)
  refine ev_aload_0 0 dX11_fault_0 ?_
  refine ev_getA 1 0 dX11_fault_1 fa_X11_12 (kd_0 hZ) (pr_0_0 hP) rfl ?_
  refine ev_aload_0 4 dX11_fault_4 ?_
  refine ev_getA 5 11 dX11_fault_5 fa_X11_84 (kd_0 hZ) hD0 rfl ?_
  refine ev_cVm_1 8 dX11_fault_8 kmX9_readInto lk_X11_118 (kd_1 hZ) (c_read hZ hP hD hx hn hlen hL) rfl rfl (fun x8 I8 f8 => ?_)
  refine ev_iret 11 dX11_fault_11 ?_ rfl
  exact QM_of f8
theorem c_hush {l : Launch} {g : Gt} {d : Nat} {Z : Zt} {I : It} {P : Pt'} {T : Nat} {α σ : Nat → Int → Int} (hsn : SN T α Z I P) (hS : VS I σ) (hWS : WS α σ) : Mt l g mX11_hush (d + 1) 0 0 [vA 0] Z I P (QM (fun r I' => r = I 106 4 ∧ I' = upI I 106 4 0) Z P) := by
  have hZ := hsn.1
  have hP := hsn.2.1
  have hT0 := hsn.2.2.1
  have hT := hsn.2.2.2.1
  have hW := hsn.2.2.2.2.2.1
  have w0 := hW.1
  have w1 := hW.2.1
  have w5 := hW.2.2.1
  refine Mt.of kmX11_hush (ls := [vA 0]) (fun _ => rfl) (fun _ => rfl) (okf_k (okf_n rfl)) (fun hok => ?_)
  refine ev_aload_0 0 dX11_hush_0 ?_
  refine ev_getA 1 7 dX11_hush_1 fa_X11_59 (kd_0 hZ) (pr_0_7 hP) rfl ?_
  refine ev_cVm_0 4 dX11_hush_4 kmX2_empty lk_X11_273 (kd_106 hZ) (c_hempty hZ) rfl rfl (fun x4 I4 f4 => ?_)
  refine ev_iret 7 dX11_hush_7 ?_ rfl
  exact QM_of f4
theorem c_forget {l : Launch} {g : Gt} {d : Nat} {Z : Zt} {I : It} {P : Pt'} {T : Nat} {α σ : Nat → Int → Int} (hsn : SN T α Z I P) (hS : VS I σ) (hWS : WS α σ) : Mt l g mX11_forget (d + 1) 0 0 [vA 0] Z I P (QM (fun r I' => r = I 112 4 ∧ I' = upI I 112 4 0) Z P) := by
  have hZ := hsn.1
  have hP := hsn.2.1
  have hT0 := hsn.2.2.1
  have hT := hsn.2.2.2.1
  have hW := hsn.2.2.2.2.2.1
  have w0 := hW.1
  have w1 := hW.2.1
  have w5 := hW.2.2.1
  refine Mt.of kmX11_forget (ls := [vA 0]) (fun _ => rfl) (fun _ => rfl) (okf_k (okf_n rfl)) (fun hok => ?_)
  refine ev_aload_0 0 dX11_forget_0 ?_
  refine ev_getA 1 9 dX11_forget_1 fa_X11_73 (kd_0 hZ) (pr_0_9 hP) rfl ?_
  refine ev_cVm_0 4 dX11_forget_4 kmX1_empty lk_X11_313 (kd_112 hZ) (c_dempty hZ) rfl rfl (fun x4 I4 f4 => ?_)
  refine ev_iret 7 dX11_forget_7 ?_ rfl
  exact QM_of f4
theorem c_heard {l : Launch} {g : Gt} {d : Nat} {Z : Zt} {I : It} {P : Pt'} {T : Nat} {α σ : Nat → Int → Int} (hsn : SN T α Z I P) (hS : VS I σ) (hWS : WS α σ) (hn : 0 ≤ I 106 4 ∧ I 106 4 ≤ 6) (t b : Int) : Mt l g mX11_heard (d + 1) 0 0 [vA 0, vI t, vI b] Z I P (QM (fun r I' => (¬ ((0 ≤ t ∧ t < α 0 5) ∧ (0 ≤ b ∧ b ≤ 99)) ∧ r = -1 ∧ I' = I) ∨ (((0 ≤ t ∧ t < α 0 5) ∧ (0 ≤ b ∧ b ≤ 99)) ∧ ((σ 2 t ≠ 0 ∧ r = -2 ∧ I' = I) ∨ (σ 2 t = 0 ∧ ((I 106 4 < 6 ∧ r = I 106 4 + 1 ∧ I' = upI (upI (upI I 107 (I 106 4) t) 108 (I 106 4) b) 106 4 (I 106 4 + 1)) ∨ (I 106 4 = 6 ∧ r = -3 ∧ I' = I)))))) Z P) := by
  have hZ := hsn.1
  have hP := hsn.2.1
  have hT0 := hsn.2.2.1
  have hT := hsn.2.2.2.1
  have hW := hsn.2.2.2.2.2.1
  have w0 := hW.1
  have w1 := hW.2.1
  have w5 := hW.2.2.1
  have a0 : I T 0 = α 0 0 := hsn.2.2.2.2.1.at 0
  have a1 : I T 1 = α 0 1 := hsn.2.2.2.2.1.at 1
  have a5 : I T 5 = α 0 5 := hsn.2.2.2.2.1.at 5
  have a4 : I (T + 4) = α 4 := hsn.2.2.2.2.1 4 (by omega)
  have s1 : I 19 = σ 1 := hS 1 (by omega)
  have s2 : I 20 = σ 2 := hS 2 (by omega)
  clear s1 s2
  have aT : I T = α 0 := hsn.2.2.2.2.1 0 (by omega)
  have t1 : I (T + 1) = α 1 := hsn.2.2.2.2.1 1 (by omega)
  have t2 : I (T + 2) = α 2 := hsn.2.2.2.2.1 2 (by omega)
  have t3 : I (T + 3) = α 3 := hsn.2.2.2.2.1 3 (by omega)
  have t4 : I (T + 4) = α 4 := hsn.2.2.2.2.1 4 (by omega)
  have t5 : I (T + 5) = α 5 := hsn.2.2.2.2.1 5 (by omega)
  have t6 : I (T + 6) = α 6 := hsn.2.2.2.2.1 6 (by omega)
  have t7 : I (T + 7) = α 7 := hsn.2.2.2.2.1 7 (by omega)
  have t8 : I (T + 8) = α 8 := hsn.2.2.2.2.1 8 (by omega)
  have t9 : I (T + 9) = α 9 := hsn.2.2.2.2.1 9 (by omega)
  have t10 : I (T + 10) = α 10 := hsn.2.2.2.2.1 10 (by omega)
  have t11 : I (T + 11) = α 11 := hsn.2.2.2.2.1 11 (by omega)
  have t12 : I (T + 12) = α 12 := hsn.2.2.2.2.1 12 (by omega)
  have s0 : I 18 = σ 0 := hS 0 (by omega)
  have s1 : I 19 = σ 1 := hS 1 (by omega)
  have s2 : I 20 = σ 2 := hS 2 (by omega)
  have s3 : I 21 = σ 3 := hS 3 (by omega)
  have s4 : I 22 = σ 4 := hS 4 (by omega)
  have s5 : I 23 = σ 5 := hS 5 (by omega)
  have s6 : I 24 = σ 6 := hS 6 (by omega)
  refine Mt.of kmX11_heard (ls := [vA 0, vI t, vI b]) (fun _ => rfl) (fun _ => rfl) (okf_k (okf_k (okf_k (okf_n rfl)))) (fun hok => ?_)
  refine ev_aload_0 0 dX11_heard_0 ?_
  refine ev_getA 1 1 dX11_heard_1 fa_X11_19 (kd_0 hZ) (pr_0_1 hP) rfl ?_
  refine ev_iload_1 4 dX11_heard_4 ?_
  refine ev_cVp_1 5 dX11_heard_5 kmX6_isTown lk_X11_141 (kd_4 hZ) (c_isTown hZ hP hT0 hT _) rfl rfl ?_
  try simp only [aT, t1, t2, t3, t4, t5, t6, t7, t8, t9, t10, t11, t12, s0, s1, s2, s3, s4, s5, s6]
  refine ev_ifb_eq 8 21 dX11_heard_8 rfl (fun h8 => ?_) (fun h8 => ?_)
  · refine ev_iconst 21 dX11_heard_21 ⟨by decide, by decide⟩ ?_
    refine ev_iret 22 dX11_heard_22 ?_ rfl
    exact QM_of (Or.inl ⟨by omega, rfl, rfl⟩)
  · refine ev_iload_2 11 dX11_heard_11 ?_
    refine ev_iconst 12 dX11_heard_12 ⟨by decide, by decide⟩ ?_
    refine ev_bipush 13 dX11_heard_13 ⟨by decide, by decide⟩ ?_
    refine ev_cSp_3 15 dX11_heard_15 kmX11_within lk_X11_111 (c_within _ _ _) rfl rfl ?_
    try simp only [aT, t1, t2, t3, t4, t5, t6, t7, t8, t9, t10, t11, t12, s0, s1, s2, s3, s4, s5, s6]
    refine ev_ifb_ne 18 23 dX11_heard_18 rfl (fun h18 => ?_) (fun h18 => ?_)
    · refine ev_aload_0 23 dX11_heard_23 ?_
      refine ev_getA 24 1 dX11_heard_24 fa_X11_19 (kd_0 hZ) (pr_0_1 hP) rfl ?_
      refine ev_getA 27 1 dX11_heard_27 fa_X11_147 (kd_4 hZ) (pr_4_1 hP) rfl ?_
      refine ev_getA 30 3 dX11_heard_30 fa_X11_162 (kd_18 hZ) (pr_18_3 hP) rfl ?_
      refine ev_iload_1 33 dX11_heard_33 ?_
      refine ev_zald 34 dX11_heard_34 (kd_20 hZ) ⟨by omega, by have := (ln_20 hZ); omega⟩ ?_
      try simp only [aT, t1, t2, t3, t4, t5, t6, t7, t8, t9, t10, t11, t12, s0, s1, s2, s3, s4, s5, s6]
      refine ev_if_eq 35 41 dX11_heard_35 rfl (fun h35 => ?_) (fun h35 => ?_)
      · refine ev_aload_0 41 dX11_heard_41 ?_
        refine ev_getA 42 7 dX11_heard_42 fa_X11_59 (kd_0 hZ) (pr_0_7 hP) rfl ?_
        refine ev_iload_1 45 dX11_heard_45 ?_
        refine ev_iload_2 46 dX11_heard_46 ?_
        refine ev_cVm_2 47 dX11_heard_47 kmX2_add lk_X11_270 (kd_106 hZ) (c_hadd hZ hP (by omega) _ _) rfl rfl (fun x47 I47 f47 => ?_)
        refine ev_zne 50 56 dX11_heard_50 rfl (fun h50 => ?_) (fun h50 => ?_)
        · refine ev_aload_0 56 dX11_heard_56 ?_
          refine ev_getA 57 7 dX11_heard_57 fa_X11_59 (kd_0 hZ) (pr_0_7 hP) rfl ?_
          refine ev_gI 60 4 4 dX11_heard_60 fa_X11_272 (kd_106 hZ) rfl rfl rfl ?_
          try simp only [aT, t1, t2, t3, t4, t5, t6, t7, t8, t9, t10, t11, t12, s0, s1, s2, s3, s4, s5, s6]
          refine ev_iret 63 dX11_heard_63 ?_ rfl
          rcases f47 with ⟨f1, f2, f3⟩ | ⟨f1, f2, f3⟩
          · exact QM_of (Or.inr ⟨by omega, Or.inr ⟨by omega, Or.inl ⟨f1, by rw [f3, upI_s], f3⟩⟩⟩)
          · exfalso; omega
        · refine ev_bipush 53 dX11_heard_53 ⟨by decide, by decide⟩ ?_
          refine ev_iret 55 dX11_heard_55 ?_ rfl
          rcases f47 with ⟨f1, f2, f3⟩ | ⟨f1, f2, f3⟩
          · exfalso; omega
          · exact QM_of (Or.inr ⟨by omega, Or.inr ⟨by omega, Or.inr ⟨f1, rfl, f3⟩⟩⟩)
      · refine ev_bipush 38 dX11_heard_38 ⟨by decide, by decide⟩ ?_
        refine ev_iret 40 dX11_heard_40 ?_ rfl
        exact QM_of (Or.inr ⟨by omega, Or.inl ⟨by omega, rfl, rfl⟩⟩)
    · refine ev_iconst 21 dX11_heard_21 ⟨by decide, by decide⟩ ?_
      refine ev_iret 22 dX11_heard_22 ?_ rfl
      exact QM_of (Or.inl ⟨by omega, rfl, rfl⟩)
theorem c_drifted {l : Launch} {g : Gt} {d : Nat} {Z : Zt} {I : It} {P : Pt'} {T : Nat} {α σ : Nat → Int → Int} (hsn : SN T α Z I P) (hS : VS I σ) (hWS : WS α σ) (hn : 0 ≤ I 112 4 ∧ I 112 4 ≤ 6) (a b c e : Int) : Mt l g mX11_drifted (d + 1) 0 0 [vA 0, vI a, vI b, vI c, vI e] Z I P (QM (fun r I' => (¬ ((0 ≤ a ∧ a < α 0 1) ∧ (0 ≤ b ∧ b < α 0 0) ∧ (0 ≤ c ∧ c < α 0 0) ∧ (1 ≤ e ∧ e ≤ 50)) ∧ r = -1 ∧ I' = I) ∨ (((0 ≤ a ∧ a < α 0 1) ∧ (0 ≤ b ∧ b < α 0 0) ∧ (0 ≤ c ∧ c < α 0 0) ∧ (1 ≤ e ∧ e ≤ 50)) ∧ ((I 112 4 < 6 ∧ r = I 112 4 + 1 ∧ I' = upI (upI (upI (upI (upI I 113 (I 112 4) a) 114 (I 112 4) b) 115 (I 112 4) c) 116 (I 112 4) e) 112 4 (I 112 4 + 1)) ∨ (I 112 4 = 6 ∧ r = -3 ∧ I' = I)))) Z P) := by
  have hZ := hsn.1
  have hP := hsn.2.1
  have hT0 := hsn.2.2.1
  have hT := hsn.2.2.2.1
  have hW := hsn.2.2.2.2.2.1
  have w0 := hW.1
  have w1 := hW.2.1
  have w5 := hW.2.2.1
  have a0 : I T 0 = α 0 0 := hsn.2.2.2.2.1.at 0
  have a1 : I T 1 = α 0 1 := hsn.2.2.2.2.1.at 1
  have a5 : I T 5 = α 0 5 := hsn.2.2.2.2.1.at 5
  have a4 : I (T + 4) = α 4 := hsn.2.2.2.2.1 4 (by omega)
  have s1 : I 19 = σ 1 := hS 1 (by omega)
  have s2 : I 20 = σ 2 := hS 2 (by omega)
  clear s1 s2
  have aT : I T = α 0 := hsn.2.2.2.2.1 0 (by omega)
  have t1 : I (T + 1) = α 1 := hsn.2.2.2.2.1 1 (by omega)
  have t2 : I (T + 2) = α 2 := hsn.2.2.2.2.1 2 (by omega)
  have t3 : I (T + 3) = α 3 := hsn.2.2.2.2.1 3 (by omega)
  have t4 : I (T + 4) = α 4 := hsn.2.2.2.2.1 4 (by omega)
  have t5 : I (T + 5) = α 5 := hsn.2.2.2.2.1 5 (by omega)
  have t6 : I (T + 6) = α 6 := hsn.2.2.2.2.1 6 (by omega)
  have t7 : I (T + 7) = α 7 := hsn.2.2.2.2.1 7 (by omega)
  have t8 : I (T + 8) = α 8 := hsn.2.2.2.2.1 8 (by omega)
  have t9 : I (T + 9) = α 9 := hsn.2.2.2.2.1 9 (by omega)
  have t10 : I (T + 10) = α 10 := hsn.2.2.2.2.1 10 (by omega)
  have t11 : I (T + 11) = α 11 := hsn.2.2.2.2.1 11 (by omega)
  have t12 : I (T + 12) = α 12 := hsn.2.2.2.2.1 12 (by omega)
  have s0 : I 18 = σ 0 := hS 0 (by omega)
  have s1 : I 19 = σ 1 := hS 1 (by omega)
  have s2 : I 20 = σ 2 := hS 2 (by omega)
  have s3 : I 21 = σ 3 := hS 3 (by omega)
  have s4 : I 22 = σ 4 := hS 4 (by omega)
  have s5 : I 23 = σ 5 := hS 5 (by omega)
  have s6 : I 24 = σ 6 := hS 6 (by omega)
  refine Mt.of kmX11_drifted (ls := [vA 0, vI a, vI b, vI c, vI e]) (fun _ => rfl) (fun _ => rfl) (okf_k (okf_k (okf_k (okf_k (okf_k (okf_n rfl)))))) (fun hok => ?_)
  refine ev_aload_0 0 dX11_drifted_0 ?_
  refine ev_getA 1 1 dX11_drifted_1 fa_X11_19 (kd_0 hZ) (pr_0_1 hP) rfl ?_
  refine ev_iload_1 4 dX11_drifted_4 ?_
  refine ev_cVp_1 5 dX11_drifted_5 kmX6_isLevel lk_X11_128 (kd_4 hZ) (c_isLevel hZ hP hT0 hT _) rfl rfl ?_
  try simp only [aT, t1, t2, t3, t4, t5, t6, t7, t8, t9, t10, t11, t12, s0, s1, s2, s3, s4, s5, s6]
  refine ev_ifb_eq 8 44 dX11_drifted_8 rfl (fun h8 => ?_) (fun h8 => ?_)
  · refine ev_iconst 44 dX11_drifted_44 ⟨by decide, by decide⟩ ?_
    refine ev_iret 45 dX11_drifted_45 ?_ rfl
    exact QM_of (Or.inl ⟨by omega, rfl, rfl⟩)
  · refine ev_aload_0 11 dX11_drifted_11 ?_
    refine ev_getA 12 1 dX11_drifted_12 fa_X11_19 (kd_0 hZ) (pr_0_1 hP) rfl ?_
    refine ev_iload_2 15 dX11_drifted_15 ?_
    refine ev_cVp_1 16 dX11_drifted_16 kmX6_isPlace lk_X11_204 (kd_4 hZ) (c_isPlace hZ hP hT0 hT _) rfl rfl ?_
    try simp only [aT, t1, t2, t3, t4, t5, t6, t7, t8, t9, t10, t11, t12, s0, s1, s2, s3, s4, s5, s6]
    refine ev_ifb_eq 19 44 dX11_drifted_19 rfl (fun h19 => ?_) (fun h19 => ?_)
    · refine ev_iconst 44 dX11_drifted_44 ⟨by decide, by decide⟩ ?_
      refine ev_iret 45 dX11_drifted_45 ?_ rfl
      exact QM_of (Or.inl ⟨by omega, rfl, rfl⟩)
    · refine ev_aload_0 22 dX11_drifted_22 ?_
      refine ev_getA 23 1 dX11_drifted_23 fa_X11_19 (kd_0 hZ) (pr_0_1 hP) rfl ?_
      refine ev_iload_3 26 dX11_drifted_26 ?_
      refine ev_cVp_1 27 dX11_drifted_27 kmX6_isPlace lk_X11_204 (kd_4 hZ) (c_isPlace hZ hP hT0 hT _) rfl rfl ?_
      try simp only [aT, t1, t2, t3, t4, t5, t6, t7, t8, t9, t10, t11, t12, s0, s1, s2, s3, s4, s5, s6]
      refine ev_ifb_eq 30 44 dX11_drifted_30 rfl (fun h30 => ?_) (fun h30 => ?_)
      · refine ev_iconst 44 dX11_drifted_44 ⟨by decide, by decide⟩ ?_
        refine ev_iret 45 dX11_drifted_45 ?_ rfl
        exact QM_of (Or.inl ⟨by omega, rfl, rfl⟩)
      · refine ev_iload_4 33 dX11_drifted_33 ?_
        refine ev_iconst 35 dX11_drifted_35 ⟨by decide, by decide⟩ ?_
        refine ev_bipush 36 dX11_drifted_36 ⟨by decide, by decide⟩ ?_
        refine ev_cSp_3 38 dX11_drifted_38 kmX11_within lk_X11_111 (c_within _ _ _) rfl rfl ?_
        try simp only [aT, t1, t2, t3, t4, t5, t6, t7, t8, t9, t10, t11, t12, s0, s1, s2, s3, s4, s5, s6]
        refine ev_ifb_ne 41 46 dX11_drifted_41 rfl (fun h41 => ?_) (fun h41 => ?_)
        · refine ev_aload_0 46 dX11_drifted_46 ?_
          refine ev_getA 47 9 dX11_drifted_47 fa_X11_73 (kd_0 hZ) (pr_0_9 hP) rfl ?_
          refine ev_iload_1 50 dX11_drifted_50 ?_
          refine ev_iload_2 51 dX11_drifted_51 ?_
          refine ev_iload_3 52 dX11_drifted_52 ?_
          refine ev_iload_4 53 dX11_drifted_53 ?_
          refine ev_cVm_4 55 dX11_drifted_55 kmX1_add lk_X11_309 (kd_112 hZ) (c_dadd hZ hP (by omega) _ _ _ _) rfl rfl (fun x55 I55 f55 => ?_)
          refine ev_zne 58 64 dX11_drifted_58 rfl (fun h58 => ?_) (fun h58 => ?_)
          · refine ev_aload_0 64 dX11_drifted_64 ?_
            refine ev_getA 65 9 dX11_drifted_65 fa_X11_73 (kd_0 hZ) (pr_0_9 hP) rfl ?_
            refine ev_gI 68 4 4 dX11_drifted_68 fa_X11_312 (kd_112 hZ) rfl rfl rfl ?_
            try simp only [aT, t1, t2, t3, t4, t5, t6, t7, t8, t9, t10, t11, t12, s0, s1, s2, s3, s4, s5, s6]
            refine ev_iret 71 dX11_drifted_71 ?_ rfl
            rcases f55 with ⟨f1, f2, f3⟩ | ⟨f1, f2, f3⟩
            · exact QM_of (Or.inr ⟨by omega, Or.inl ⟨f1, by rw [f3, upI_s], f3⟩⟩)
            · exfalso; omega
          · refine ev_bipush 61 dX11_drifted_61 ⟨by decide, by decide⟩ ?_
            refine ev_iret 63 dX11_drifted_63 ?_ rfl
            rcases f55 with ⟨f1, f2, f3⟩ | ⟨f1, f2, f3⟩
            · exfalso; omega
            · exact QM_of (Or.inr ⟨by omega, Or.inr ⟨f1, rfl, f3⟩⟩)
        · refine ev_iconst 44 dX11_drifted_44 ⟨by decide, by decide⟩ ?_
          refine ev_iret 45 dX11_drifted_45 ?_ rfl
          exact QM_of (Or.inl ⟨by omega, rfl, rfl⟩)
theorem c_count {l : Launch} {g : Gt} {d : Nat} {Z : Zt} {I : It} {P : Pt'} {T : Nat} {α σ : Nat → Int → Int} (hsn : SN T α Z I P) (hS : VS I σ) (hWS : WS α σ) (w : Int) : Mt l g mX11_count d 0 0 [vA 0, vI w] Z I P (QP (if w = 0 then α 0 1 else if w = 1 then α 0 0 else if w = 2 then α 0 5 else if w = 3 then σ 0 1 else if w = 4 then σ 0 0 else if w = 5 then I 106 4 else if w = 6 then I 112 4 else if w = 7 then I 25 2 else if w = 8 then I 83 2 else if w = 9 then I 1 3 else -1) Z I P) := by
  have hZ := hsn.1
  have hP := hsn.2.1
  have hT0 := hsn.2.2.1
  have hT := hsn.2.2.2.1
  have hW := hsn.2.2.2.2.2.1
  have w0 := hW.1
  have w1 := hW.2.1
  have w5 := hW.2.2.1
  have a0 : I T 0 = α 0 0 := hsn.2.2.2.2.1.at 0
  have a1 : I T 1 = α 0 1 := hsn.2.2.2.2.1.at 1
  have a5 : I T 5 = α 0 5 := hsn.2.2.2.2.1.at 5
  have a4 : I (T + 4) = α 4 := hsn.2.2.2.2.1 4 (by omega)
  have s1 : I 19 = σ 1 := hS 1 (by omega)
  have s2 : I 20 = σ 2 := hS 2 (by omega)
  clear s1 s2
  have aT : I T = α 0 := hsn.2.2.2.2.1 0 (by omega)
  have t1 : I (T + 1) = α 1 := hsn.2.2.2.2.1 1 (by omega)
  have t2 : I (T + 2) = α 2 := hsn.2.2.2.2.1 2 (by omega)
  have t3 : I (T + 3) = α 3 := hsn.2.2.2.2.1 3 (by omega)
  have t4 : I (T + 4) = α 4 := hsn.2.2.2.2.1 4 (by omega)
  have t5 : I (T + 5) = α 5 := hsn.2.2.2.2.1 5 (by omega)
  have t6 : I (T + 6) = α 6 := hsn.2.2.2.2.1 6 (by omega)
  have t7 : I (T + 7) = α 7 := hsn.2.2.2.2.1 7 (by omega)
  have t8 : I (T + 8) = α 8 := hsn.2.2.2.2.1 8 (by omega)
  have t9 : I (T + 9) = α 9 := hsn.2.2.2.2.1 9 (by omega)
  have t10 : I (T + 10) = α 10 := hsn.2.2.2.2.1 10 (by omega)
  have t11 : I (T + 11) = α 11 := hsn.2.2.2.2.1 11 (by omega)
  have t12 : I (T + 12) = α 12 := hsn.2.2.2.2.1 12 (by omega)
  have s0 : I 18 = σ 0 := hS 0 (by omega)
  have s1 : I 19 = σ 1 := hS 1 (by omega)
  have s2 : I 20 = σ 2 := hS 2 (by omega)
  have s3 : I 21 = σ 3 := hS 3 (by omega)
  have s4 : I 22 = σ 4 := hS 4 (by omega)
  have s5 : I 23 = σ 5 := hS 5 (by omega)
  have s6 : I 24 = σ 6 := hS 6 (by omega)
  refine Mt.of kmX11_count (ls := [vA 0, vI w]) (fun _ => rfl) (fun _ => rfl) (okf_k (okf_k (okf_n rfl))) (fun hok => ?_)
  refine ev_iload_1 0 dX11_count_0 ?_
  refine ev_tsw 1 151 dX11_count_1 rfl (fun h1 => ?_) (fun c1 hc1 h1 h2 => ?_)
  · refine ev_iconst 151 dX11_count_151 ⟨by decide, by decide⟩ ?_
    refine ev_iret 152 dX11_count_152 ?_ rfl
    exact QP_of (by repeat' split; all_goals first | rfl | omega)
  · rcases (show c1 = 0 ∨ c1 = 1 ∨ c1 = 2 ∨ c1 = 3 ∨ c1 = 4 ∨ c1 = 5 ∨ c1 = 6 ∨ c1 = 7 ∨ c1 = 8 ∨ c1 = 9 by omega) with rfl | rfl | rfl | rfl | rfl | rfl | rfl | rfl | rfl | rfl
    · refine ev_tswIn 1 56 dX11_count_1 (by decide) (by decide) rfl rfl ?_
      refine ev_aload_0 56 dX11_count_56 ?_
      refine ev_getA 57 1 dX11_count_57 fa_X11_19 (kd_0 hZ) (pr_0_1 hP) rfl ?_
      refine ev_getA 60 0 dX11_count_60 fa_X11_122 (kd_4 hZ) hT0 rfl ?_
      refine ev_gI 63 1 1 dX11_count_63 fa_X11_125 (kdT_0 hZ hT) rfl rfl rfl ?_
      try simp only [aT, t1, t2, t3, t4, t5, t6, t7, t8, t9, t10, t11, t12, s0, s1, s2, s3, s4, s5, s6]
      refine ev_iret 66 dX11_count_66 ?_ rfl
      exact QP_of (by repeat' split; all_goals first | rfl | omega)
    · refine ev_tswIn 1 67 dX11_count_1 (by decide) (by decide) rfl rfl ?_
      refine ev_aload_0 67 dX11_count_67 ?_
      refine ev_getA 68 1 dX11_count_68 fa_X11_19 (kd_0 hZ) (pr_0_1 hP) rfl ?_
      refine ev_getA 71 0 dX11_count_71 fa_X11_122 (kd_4 hZ) hT0 rfl ?_
      refine ev_gI 74 0 0 dX11_count_74 fa_X11_267 (kdT_0 hZ hT) rfl rfl rfl ?_
      try simp only [aT, t1, t2, t3, t4, t5, t6, t7, t8, t9, t10, t11, t12, s0, s1, s2, s3, s4, s5, s6]
      refine ev_iret 77 dX11_count_77 ?_ rfl
      exact QP_of (by repeat' split; all_goals first | rfl | omega)
    · refine ev_tswIn 1 78 dX11_count_1 (by decide) (by decide) rfl rfl ?_
      refine ev_aload_0 78 dX11_count_78 ?_
      refine ev_getA 79 1 dX11_count_79 fa_X11_19 (kd_0 hZ) (pr_0_1 hP) rfl ?_
      refine ev_getA 82 0 dX11_count_82 fa_X11_122 (kd_4 hZ) hT0 rfl ?_
      refine ev_gI 85 5 5 dX11_count_85 fa_X11_264 (kdT_0 hZ hT) rfl rfl rfl ?_
      try simp only [aT, t1, t2, t3, t4, t5, t6, t7, t8, t9, t10, t11, t12, s0, s1, s2, s3, s4, s5, s6]
      refine ev_iret 88 dX11_count_88 ?_ rfl
      exact QP_of (by repeat' split; all_goals first | rfl | omega)
    · refine ev_tswIn 1 89 dX11_count_1 (by decide) (by decide) rfl rfl ?_
      refine ev_aload_0 89 dX11_count_89 ?_
      refine ev_getA 90 1 dX11_count_90 fa_X11_19 (kd_0 hZ) (pr_0_1 hP) rfl ?_
      refine ev_getA 93 1 dX11_count_93 fa_X11_147 (kd_4 hZ) (pr_4_1 hP) rfl ?_
      refine ev_gI 96 1 1 dX11_count_96 fa_X11_188 (kd_18 hZ) rfl rfl rfl ?_
      try simp only [aT, t1, t2, t3, t4, t5, t6, t7, t8, t9, t10, t11, t12, s0, s1, s2, s3, s4, s5, s6]
      refine ev_iret 99 dX11_count_99 ?_ rfl
      exact QP_of (by repeat' split; all_goals first | rfl | omega)
    · refine ev_tswIn 1 100 dX11_count_1 (by decide) (by decide) rfl rfl ?_
      refine ev_aload_0 100 dX11_count_100 ?_
      refine ev_getA 101 1 dX11_count_101 fa_X11_19 (kd_0 hZ) (pr_0_1 hP) rfl ?_
      refine ev_getA 104 1 dX11_count_104 fa_X11_147 (kd_4 hZ) (pr_4_1 hP) rfl ?_
      refine ev_gI 107 0 0 dX11_count_107 fa_X11_181 (kd_18 hZ) rfl rfl rfl ?_
      try simp only [aT, t1, t2, t3, t4, t5, t6, t7, t8, t9, t10, t11, t12, s0, s1, s2, s3, s4, s5, s6]
      refine ev_iret 110 dX11_count_110 ?_ rfl
      exact QP_of (by repeat' split; all_goals first | rfl | omega)
    · refine ev_tswIn 1 111 dX11_count_1 (by decide) (by decide) rfl rfl ?_
      refine ev_aload_0 111 dX11_count_111 ?_
      refine ev_getA 112 7 dX11_count_112 fa_X11_59 (kd_0 hZ) (pr_0_7 hP) rfl ?_
      refine ev_gI 115 4 4 dX11_count_115 fa_X11_272 (kd_106 hZ) rfl rfl rfl ?_
      try simp only [aT, t1, t2, t3, t4, t5, t6, t7, t8, t9, t10, t11, t12, s0, s1, s2, s3, s4, s5, s6]
      refine ev_iret 118 dX11_count_118 ?_ rfl
      exact QP_of (by repeat' split; all_goals first | rfl | omega)
    · refine ev_tswIn 1 119 dX11_count_1 (by decide) (by decide) rfl rfl ?_
      refine ev_aload_0 119 dX11_count_119 ?_
      refine ev_getA 120 9 dX11_count_120 fa_X11_73 (kd_0 hZ) (pr_0_9 hP) rfl ?_
      refine ev_gI 123 4 4 dX11_count_123 fa_X11_312 (kd_112 hZ) rfl rfl rfl ?_
      try simp only [aT, t1, t2, t3, t4, t5, t6, t7, t8, t9, t10, t11, t12, s0, s1, s2, s3, s4, s5, s6]
      refine ev_iret 126 dX11_count_126 ?_ rfl
      exact QP_of (by repeat' split; all_goals first | rfl | omega)
    · refine ev_tswIn 1 127 dX11_count_1 (by decide) (by decide) rfl rfl ?_
      refine ev_aload_0 127 dX11_count_127 ?_
      refine ev_getA 128 2 dX11_count_128 fa_X11_28 (kd_0 hZ) (pr_0_2 hP) rfl ?_
      refine ev_gI 131 2 2 dX11_count_131 fa_X11_228 (kd_25 hZ) rfl rfl rfl ?_
      try simp only [aT, t1, t2, t3, t4, t5, t6, t7, t8, t9, t10, t11, t12, s0, s1, s2, s3, s4, s5, s6]
      refine ev_iret 134 dX11_count_134 ?_ rfl
      exact QP_of (by repeat' split; all_goals first | rfl | omega)
    · refine ev_tswIn 1 135 dX11_count_1 (by decide) (by decide) rfl rfl ?_
      refine ev_aload_0 135 dX11_count_135 ?_
      refine ev_getA 136 3 dX11_count_136 fa_X11_32 (kd_0 hZ) (pr_0_3 hP) rfl ?_
      refine ev_gI 139 2 2 dX11_count_139 fa_X11_228 (kd_83 hZ) rfl rfl rfl ?_
      try simp only [aT, t1, t2, t3, t4, t5, t6, t7, t8, t9, t10, t11, t12, s0, s1, s2, s3, s4, s5, s6]
      refine ev_iret 142 dX11_count_142 ?_ rfl
      exact QP_of (by repeat' split; all_goals first | rfl | omega)
    · refine ev_tswIn 1 143 dX11_count_1 (by decide) (by decide) rfl rfl ?_
      refine ev_aload_0 143 dX11_count_143 ?_
      refine ev_getA 144 0 dX11_count_144 fa_X11_12 (kd_0 hZ) (pr_0_0 hP) rfl ?_
      refine ev_gI 147 3 3 dX11_count_147 fa_X11_115 (kd_1 hZ) rfl rfl rfl ?_
      try simp only [aT, t1, t2, t3, t4, t5, t6, t7, t8, t9, t10, t11, t12, s0, s1, s2, s3, s4, s5, s6]
      refine ev_iret 150 dX11_count_150 ?_ rfl
      exact QP_of (by repeat' split; all_goals first | rfl | omega)
theorem c_keep {l : Launch} {g : Gt} {d : Nat} {Z : Zt} {I : It} {P : Pt'} {T : Nat} {α σ : Nat → Int → Int} (hsn : SN T α Z I P) (hS : VS I σ) (hWS : WS α σ) {V : Int → Nat → Int → Int} (hV : VP 83 2 I V) : Mt l g mX11_keep (d + 2) 0 0 [vA 0] Z I P (QM (fun r I' => (I 83 2 = 2 ∧ r = -3 ∧ I' = I) ∨ (I 83 2 < 2 ∧ r = I 83 2 + 1 ∧ I' 83 2 = I 83 2 + 1 ∧ VP 83 2 I' (pshU 2 (I 83 2) V (vw 18 I)) ∧ ∀ q, (q < 83 ∨ 99 ≤ q) → I' q = I q)) Z P) := by
  have hZ := hsn.1
  have hP := hsn.2.1
  have hT0 := hsn.2.2.1
  have hT := hsn.2.2.2.1
  have hW := hsn.2.2.2.2.2.1
  have w0 := hW.1
  have w1 := hW.2.1
  have w5 := hW.2.2.1
  have a0 : I T 0 = α 0 0 := hsn.2.2.2.2.1.at 0
  have a1 : I T 1 = α 0 1 := hsn.2.2.2.2.1.at 1
  have a5 : I T 5 = α 0 5 := hsn.2.2.2.2.1.at 5
  have a4 : I (T + 4) = α 4 := hsn.2.2.2.2.1 4 (by omega)
  have s1 : I 19 = σ 1 := hS 1 (by omega)
  have s2 : I 20 = σ 2 := hS 2 (by omega)
  clear s1 s2
  have aT : I T = α 0 := hsn.2.2.2.2.1 0 (by omega)
  have t1 : I (T + 1) = α 1 := hsn.2.2.2.2.1 1 (by omega)
  have t2 : I (T + 2) = α 2 := hsn.2.2.2.2.1 2 (by omega)
  have t3 : I (T + 3) = α 3 := hsn.2.2.2.2.1 3 (by omega)
  have t4 : I (T + 4) = α 4 := hsn.2.2.2.2.1 4 (by omega)
  have t5 : I (T + 5) = α 5 := hsn.2.2.2.2.1 5 (by omega)
  have t6 : I (T + 6) = α 6 := hsn.2.2.2.2.1 6 (by omega)
  have t7 : I (T + 7) = α 7 := hsn.2.2.2.2.1 7 (by omega)
  have t8 : I (T + 8) = α 8 := hsn.2.2.2.2.1 8 (by omega)
  have t9 : I (T + 9) = α 9 := hsn.2.2.2.2.1 9 (by omega)
  have t10 : I (T + 10) = α 10 := hsn.2.2.2.2.1 10 (by omega)
  have t11 : I (T + 11) = α 11 := hsn.2.2.2.2.1 11 (by omega)
  have t12 : I (T + 12) = α 12 := hsn.2.2.2.2.1 12 (by omega)
  have s0 : I 18 = σ 0 := hS 0 (by omega)
  have s1 : I 19 = σ 1 := hS 1 (by omega)
  have s2 : I 20 = σ 2 := hS 2 (by omega)
  have s3 : I 21 = σ 3 := hS 3 (by omega)
  have s4 : I 22 = σ 4 := hS 4 (by omega)
  have s5 : I 23 = σ 5 := hS 5 (by omega)
  have s6 : I 24 = σ 6 := hS 6 (by omega)
  have hB : ∀ t, 0 ≤ t → t < 6 → I 20 t = 0 ∨ I 20 t = 1 := fun t a b => by rw [s2]; exact hWS.2.2.2.1 t a b
  have ht : T = 5 ∨ T = 118 := hT
  have w18 := hWS.2.1
  have hv := hV.2.1
  refine Mt.of kmX11_keep (ls := [vA 0]) (fun _ => rfl) (fun _ => rfl) (okf_k (okf_n rfl)) (fun hok => ?_)
  refine ev_aload_0 0 dX11_keep_0 ?_
  refine ev_getA 1 3 dX11_keep_1 fa_X11_32 (kd_0 hZ) (pr_0_3 hP) rfl ?_
  refine ev_gI 4 2 2 dX11_keep_4 fa_X11_228 (kd_83 hZ) rfl rfl rfl ?_
  refine ev_iconst 7 dX11_keep_7 ⟨by decide, by decide⟩ ?_
  refine ev_icmp_lt 8 14 dX11_keep_8 rfl (fun h8 => ?_) (fun h8 => ?_)
  · refine ev_aload_0 14 dX11_keep_14 ?_
    refine ev_getA 15 3 dX11_keep_15 fa_X11_32 (kd_0 hZ) (pr_0_3 hP) rfl ?_
    refine ev_aload_0 18 dX11_keep_18 ?_
    refine ev_getA 19 1 dX11_keep_19 fa_X11_19 (kd_0 hZ) (pr_0_1 hP) rfl ?_
    refine ev_getA 22 1 dX11_keep_22 fa_X11_147 (kd_4 hZ) (pr_4_1 hP) rfl ?_
    refine ev_cVv_1 25 dX11_keep_25 kmX4_push lk_X11_184 (kd_83 hZ) (c_push hZ hP (Or.inr ⟨rfl, rfl⟩) hV hB) rfl rfl (fun I25 f25 => ?_)
    refine ev_aload_0 28 dX11_keep_28 ?_
    refine ev_getA 29 3 dX11_keep_29 fa_X11_32 (kd_0 hZ) (pr_0_3 hP) rfl ?_
    refine ev_gI 32 2 2 dX11_keep_32 fa_X11_228 (kd_83 hZ) rfl rfl rfl ?_
    refine ev_iret 35 dX11_keep_35 ?_ rfl
    obtain ⟨u1, u2, u3⟩ := f25
    rw [if_pos (by omega)] at u1
    exact QM_of (Or.inr ⟨by omega, u1, u1, u2, u3⟩)
  · refine ev_bipush 11 dX11_keep_11 ⟨by decide, by decide⟩ ?_
    refine ev_iret 13 dX11_keep_13 ?_ rfl
    exact QM_of (Or.inl ⟨by omega, rfl, rfl⟩)
theorem c_undo {l : Launch} {g : Gt} {d : Nat} {Z : Zt} {I : It} {P : Pt'} {T : Nat} {α σ : Nat → Int → Int} (hsn : SN T α Z I P) (hS : VS I σ) (hWS : WS α σ) {U : Int → Nat → Int → Int} (hU : VP 25 8 I U) (hVB : ∀ k, 0 ≤ k → k < I 25 2 → ∀ t, 0 ≤ t → t < 6 → U k 2 t = 0 ∨ U k 2 t = 1) : Mt l g mX11_undo (d + 2) 0 0 [vA 0] Z I P (QM (fun r I' => (I 25 2 = 0 ∧ r = -2 ∧ I' = I) ∨ (1 ≤ I 25 2 ∧ r = I 25 2 - 1 ∧ I' 25 2 = I 25 2 - 1 ∧ VP 25 8 I' U ∧ EqS (vw 18 I') (U (I 25 2 - 1)) ∧ ∀ q, (q < 18 ∨ 25 ≤ q) → q ≠ 25 → I' q = I q)) Z P) := by
  have hZ := hsn.1
  have hP := hsn.2.1
  have hT0 := hsn.2.2.1
  have hT := hsn.2.2.2.1
  have hW := hsn.2.2.2.2.2.1
  have w0 := hW.1
  have w1 := hW.2.1
  have w5 := hW.2.2.1
  refine Mt.of kmX11_undo (ls := [vA 0]) (fun _ => rfl) (fun _ => rfl) (okf_k (okf_n rfl)) (fun hok => ?_)
  refine ev_aload_0 0 dX11_undo_0 ?_
  refine ev_getA 1 2 dX11_undo_1 fa_X11_28 (kd_0 hZ) (pr_0_2 hP) rfl ?_
  refine ev_aload_0 4 dX11_undo_4 ?_
  refine ev_getA 5 1 dX11_undo_5 fa_X11_19 (kd_0 hZ) (pr_0_1 hP) rfl ?_
  refine ev_getA 8 1 dX11_undo_8 fa_X11_147 (kd_4 hZ) (pr_4_1 hP) rfl ?_
  refine ev_cVm_1 11 dX11_undo_11 kmX4_pop lk_X11_224 (kd_25 hZ) (c_pop hZ hP (Or.inl ⟨rfl, rfl⟩) hU hVB) rfl rfl (fun x11 I11 f11 => ?_)
  refine ev_if_eq 14 27 dX11_undo_14 rfl (fun h14 => ?_) (fun h14 => ?_)
  · refine ev_bipush 27 dX11_undo_27 ⟨by decide, by decide⟩ ?_
    refine ev_iret 29 dX11_undo_29 ?_ rfl
    rcases f11 with ⟨u1, u2, u3⟩ | ⟨u1, u2, u3, u4, u5, u6⟩
    · first
        | exact QM_of (Or.inl ⟨u1, rfl, u3⟩)
        | (exfalso; omega)
    · first
        | (exfalso; omega)
        | exact QM_of (Or.inr ⟨u1, u3, u3, u4, u5, u6⟩)
  · refine ev_aload_0 17 dX11_undo_17 ?_
    refine ev_getA 18 2 dX11_undo_18 fa_X11_28 (kd_0 hZ) (pr_0_2 hP) rfl ?_
    refine ev_gI 21 2 2 dX11_undo_21 fa_X11_228 (kd_25 hZ) rfl rfl rfl ?_
    refine ev_goto 24 29 dX11_undo_24 rfl ?_
    refine ev_iret 29 dX11_undo_29 ?_ rfl
    rcases f11 with ⟨u1, u2, u3⟩ | ⟨u1, u2, u3, u4, u5, u6⟩
    · first
        | exact QM_of (Or.inl ⟨u1, rfl, u3⟩)
        | (exfalso; omega)
    · first
        | (exfalso; omega)
        | exact QM_of (Or.inr ⟨u1, u3, u3, u4, u5, u6⟩)
theorem c_back {l : Launch} {g : Gt} {d : Nat} {Z : Zt} {I : It} {P : Pt'} {T : Nat} {α σ : Nat → Int → Int} (hsn : SN T α Z I P) (hS : VS I σ) (hWS : WS α σ) {V : Int → Nat → Int → Int} (hV : VP 83 2 I V) (hVB : ∀ k, 0 ≤ k → k < I 83 2 → ∀ t, 0 ≤ t → t < 6 → V k 2 t = 0 ∨ V k 2 t = 1) : Mt l g mX11_back (d + 2) 0 0 [vA 0] Z I P (QM (fun r I' => (I 83 2 = 0 ∧ r = -2 ∧ I' = I) ∨ (1 ≤ I 83 2 ∧ r = I 83 2 - 1 ∧ I' 83 2 = I 83 2 - 1 ∧ VP 83 2 I' V ∧ EqS (vw 18 I') (V (I 83 2 - 1)) ∧ I' 25 1 = 0 ∧ I' 25 2 = 0 ∧ ∀ q, (q < 18 ∨ 25 ≤ q) → q ≠ 25 → q ≠ 83 → I' q = I q)) Z P) := by
  have hZ := hsn.1
  have hP := hsn.2.1
  have hT0 := hsn.2.2.1
  have hT := hsn.2.2.2.1
  have hW := hsn.2.2.2.2.2.1
  have w0 := hW.1
  have w1 := hW.2.1
  have w5 := hW.2.2.1
  refine Mt.of kmX11_back (ls := [vA 0]) (fun _ => rfl) (fun _ => rfl) (okf_k (okf_n rfl)) (fun hok => ?_)
  refine ev_aload_0 0 dX11_back_0 ?_
  refine ev_getA 1 3 dX11_back_1 fa_X11_32 (kd_0 hZ) (pr_0_3 hP) rfl ?_
  refine ev_aload_0 4 dX11_back_4 ?_
  refine ev_getA 5 1 dX11_back_5 fa_X11_19 (kd_0 hZ) (pr_0_1 hP) rfl ?_
  refine ev_getA 8 1 dX11_back_8 fa_X11_147 (kd_4 hZ) (pr_4_1 hP) rfl ?_
  refine ev_cVm_1 11 dX11_back_11 kmX4_pop lk_X11_224 (kd_83 hZ) (c_pop hZ hP (Or.inr ⟨rfl, rfl⟩) hV hVB) rfl rfl (fun x11 I11 f11 => ?_)
  refine ev_zne 14 20 dX11_back_14 rfl (fun h14 => ?_) (fun h14 => ?_)
  · refine ev_aload_0 20 dX11_back_20 ?_
    refine ev_getA 21 2 dX11_back_21 fa_X11_28 (kd_0 hZ) (pr_0_2 hP) rfl ?_
    refine ev_cVv_0 24 dX11_back_24 kmX4_empty lk_X11_330 (kd_25 hZ) (c_pempty hZ (Or.inl ⟨rfl, rfl⟩)) rfl rfl (fun I24 f24 => ?_)
    refine ev_aload_0 27 dX11_back_27 ?_
    refine ev_getA 28 3 dX11_back_28 fa_X11_32 (kd_0 hZ) (pr_0_3 hP) rfl ?_
    refine ev_gI 31 2 2 dX11_back_31 fa_X11_228 (kd_83 hZ) rfl rfl rfl ?_
    refine ev_iret 34 dX11_back_34 ?_ rfl
    rcases f11 with ⟨u1, u2, u3⟩ | ⟨u1, u2, u3, u4, u5, u6⟩
    · exfalso; omega
    · have e : ∀ q, q ≠ 25 → I24 q = I11 q := fun q hq => by rw [f24, upI_A hq, upI_A hq]
      refine QM_of (Or.inr ⟨u1, by rw [e 83 (by omega)]; exact u3, by rw [e 83 (by omega)]; exact u3, u4.fr (fun q z1 z2 => e q (by omega)), (eqS_fr (fun a z1 z2 => e a (by omega))).tr u5, ?_, ?_, fun q z1 z2 z3 => by rw [e q z2]; exact u6 q z1 z3⟩)
      · rw [f24, upI_k (by omega), upI_s]
      · rw [f24, upI_s]
  · refine ev_bipush 17 dX11_back_17 ⟨by decide, by decide⟩ ?_
    refine ev_iret 19 dX11_back_19 ?_ rfl
    rcases f11 with ⟨u1, u2, u3⟩ | ⟨u1, u2, u3, u4, u5, u6⟩
    · exact QM_of (Or.inl ⟨u1, rfl, u3⟩)
    · exfalso; omega
