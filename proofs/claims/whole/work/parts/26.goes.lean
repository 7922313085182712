/-! the sea goes on: towns let go, hung, cut -/
theorem EqS.t {a b : Nat → Int → Int} (h : EqS a b) (hn : b 0 1 ≤ 7) : EqT a b := ⟨h.1, h.2.1, h.2.2.1, fun j x y => h.2.2.2 j x (by omega)⟩
theorem EqT.tr {a b c : Nat → Int → Int} (h : EqT a b) (k : EqT b c) : EqT a c := by
  obtain ⟨h1, h2, h3, h4⟩ := h
  obtain ⟨k1, k2, k3, k4⟩ := k
  refine ⟨h1.trans k1, h2.trans k2, fun t x y => ⟨(h3 t x y).1.trans (k3 t x y).1, (h3 t x y).2.trans (k3 t x y).2⟩, fun j x y => ?_⟩
  obtain ⟨p1, p2, p3, p4⟩ := h4 j x (by omega)
  obtain ⟨q1, q2, q3, q4⟩ := k4 j x y
  exact ⟨p1.trans q1, p2.trans q2, p3.trans q3, p4.trans q4⟩
theorem addS_cg {σ τ : Nat → Int → Int} {a b c : Int} (h : EqT σ τ) : EqT (addS σ a b c) (addS τ a b c) := by
  obtain ⟨h1, h2, h3, h4⟩ := h
  refine ⟨?_, ?_, fun t x y => ?_, fun j x y => ?_⟩
  · simp [addS, h1]
  · simp [addS, h2]
  · simp [addS, h3 t x y]
  · have e : addS τ a b c 0 1 = τ 0 1 + 1 := by simp [addS]
    rw [e] at y
    by_cases q : j = τ 0 1
    · subst q; simp [addS, h2]
    · have := h4 j x (by omega)
      simp [addS, h2, q, this]
theorem add_eq {I0 : It} {a b c : Int} : EqT (vw 18 (upI (upI (upI (upI (upI I0 21 (I0 18 1) a) 22 (I0 18 1) b) 23 (I0 18 1) c) 24 (I0 18 1) (-4)) 18 1 (I0 18 1 + 1))) (addS (vw 18 I0) a b c) := by
  refine ⟨?_, ?_, fun t x y => ?_, fun j x y => ?_⟩
  · simp [vw, addS, upI]
  · simp [vw, addS, upI]
  · simp [vw, addS, upI]
  · by_cases q : j = I0 18 1
    · subst q; simp [vw, addS, upI]
    · simp [vw, addS, upI, q]
theorem vw_eq {I0 : It} {σ : Nat → Int → Int} (h : ∀ c, c ≤ 6 → I0 (18 + c) = σ c) : EqT (vw 18 I0) σ := by
  have e : ∀ c, c ≤ 6 → vw 18 I0 c = σ c := h
  unfold EqT
  rw [e 0 (by omega), e 1 (by omega), e 2 (by omega), e 3 (by omega), e 4 (by omega), e 5 (by omega), e 6 (by omega)]
  exact ⟨rfl, rfl, fun _ _ _ => ⟨rfl, rfl⟩, fun _ _ _ => ⟨rfl, rfl, rfl, rfl⟩⟩
theorem PS.mk {U : Int → Nat → Int → Int} {σ' : Nat → Int → Int} {I I1 I' : It} (h1 : I1 25 2 = (if I 25 2 < 8 then I 25 2 + 1 else 8)) (h2 : VP 25 8 I1 (pshU 8 (I 25 2) U (vw 18 I))) (h3 : ∀ q, (q < 25 ∨ 83 ≤ q) → I1 q = I q) (k : ∀ q, (q < 18 ∨ 25 ≤ q) → q ≠ 99 → q ≠ 100 → I' q = I1 q) (e : EqT (vw 18 I') σ') : PS U σ' I I' :=
  ⟨e, by rw [k 25 (by omega) (by omega) (by omega)]; exact h1, h2.fr (fun q a b => k q (by omega) (by have : q < 25 + 2 + 7 * 8 := b; omega) (by have : q < 25 + 2 + 7 * 8 := b; omega)), fun q a b c => by rw [k q (by omega) b c]; exact h3 q (by omega)⟩
theorem c_letGo {l : Launch} {g : Gt} {d : Nat} {Z : Zt} {I : It} {P : Pt'} {T : Nat} {α σ : Nat → Int → Int} (hsn : SN T α Z I P) (hS : VS I σ) (hWS : WS α σ) {U : Int → Nat → Int → Int} (hU : VP 25 8 I U) (t w : Int) : Mt l g mX11_letGo (d + 2) 0 0 [vA 0, vI t, vI w] Z I P (QM (fun r I' => (¬ ((0 ≤ t ∧ t < α 0 5) ∧ (0 ≤ w ∧ w ≤ 9)) ∧ r = -1 ∧ I' = I) ∨ (((0 ≤ t ∧ t < α 0 5) ∧ (0 ≤ w ∧ w ≤ 9)) ∧ ((σ 2 t ≠ 0 ∧ r = -2 ∧ I' = I) ∨ (σ 2 t = 0 ∧ σ 0 1 = 7 ∧ r = -3 ∧ I' = I) ∨ (σ 2 t = 0 ∧ σ 0 1 < 7 ∧ r = σ 0 1 ∧ PS U (addS σ (α 4 t) (σ 1 t) w) I I')))) Z P) := by
  have hZ := hsn.1
  have hP := hsn.2.1
  have hT0 := hsn.2.2.1
  have hT := hsn.2.2.2.1
  have hW := hsn.2.2.2.2.2.1
  have w0 := hW.1
  have w1 := hW.2.1
  have w5 := hW.2.2.1
  have a0 : I T 0 = α 0 0 := hsn.2.2.2.2.1.at 0
  have a1 : I T 1 = α 0 1 := hsn.2.2.2.2.1.at 1
  have a5 : I T 5 = α 0 5 := hsn.2.2.2.2.1.at 5
  have a4 : I (T + 4) = α 4 := hsn.2.2.2.2.1 4 (by omega)
  have s1 : I 19 = σ 1 := hS 1 (by omega)
  have s2 : I 20 = σ 2 := hS 2 (by omega)
  clear s1 s2
  have aT : I T = α 0 := hsn.2.2.2.2.1 0 (by omega)
  have t1 : I (T + 1) = α 1 := hsn.2.2.2.2.1 1 (by omega)
  have t2 : I (T + 2) = α 2 := hsn.2.2.2.2.1 2 (by omega)
  have t3 : I (T + 3) = α 3 := hsn.2.2.2.2.1 3 (by omega)
  have t4 : I (T + 4) = α 4 := hsn.2.2.2.2.1 4 (by omega)
  have t5 : I (T + 5) = α 5 := hsn.2.2.2.2.1 5 (by omega)
  have t6 : I (T + 6) = α 6 := hsn.2.2.2.2.1 6 (by omega)
  have t7 : I (T + 7) = α 7 := hsn.2.2.2.2.1 7 (by omega)
  have t8 : I (T + 8) = α 8 := hsn.2.2.2.2.1 8 (by omega)
  have t9 : I (T + 9) = α 9 := hsn.2.2.2.2.1 9 (by omega)
  have t10 : I (T + 10) = α 10 := hsn.2.2.2.2.1 10 (by omega)
  have t11 : I (T + 11) = α 11 := hsn.2.2.2.2.1 11 (by omega)
  have t12 : I (T + 12) = α 12 := hsn.2.2.2.2.1 12 (by omega)
  have s0 : I 18 = σ 0 := hS 0 (by omega)
  have s1 : I 19 = σ 1 := hS 1 (by omega)
  have s2 : I 20 = σ 2 := hS 2 (by omega)
  have s3 : I 21 = σ 3 := hS 3 (by omega)
  have s4 : I 22 = σ 4 := hS 4 (by omega)
  have s5 : I 23 = σ 5 := hS 5 (by omega)
  have s6 : I 24 = σ 6 := hS 6 (by omega)
  have hB : ∀ t, 0 ≤ t → t < 6 → I 20 t = 0 ∨ I 20 t = 1 := fun t a b => by rw [s2]; exact hWS.2.2.2.1 t a b
  have ht : T = 5 ∨ T = 118 := hT
  have w18 := hWS.2.1
  refine Mt.of kmX11_letGo (ls := [vA 0, vI t, vI w]) (fun _ => rfl) (fun _ => rfl) (okf_k (okf_k (okf_k (okf_n rfl)))) (fun hok => ?_)
  refine ev_aload_0 0 dX11_letGo_0 ?_
  refine ev_getA 1 1 dX11_letGo_1 fa_X11_19 (kd_0 hZ) (pr_0_1 hP) rfl ?_
  refine ev_iload_1 4 dX11_letGo_4 ?_
  refine ev_cVp_1 5 dX11_letGo_5 kmX6_isTown lk_X11_141 (kd_4 hZ) (c_isTown hZ hP hT0 hT _) rfl rfl ?_
  try simp only [aT, t1, t2, t3, t4, t5, t6, t7, t8, t9, t10, t11, t12, s0, s1, s2, s3, s4, s5, s6]
  refine ev_ifb_eq 8 21 dX11_letGo_8 rfl (fun h8 => ?_) (fun h8 => ?_)
  · refine ev_iconst 21 dX11_letGo_21 ⟨by decide, by decide⟩ ?_
    refine ev_iret 22 dX11_letGo_22 ?_ rfl
    exact QM_of (Or.inl ⟨by omega, rfl, rfl⟩)
  · refine ev_iload_2 11 dX11_letGo_11 ?_
    refine ev_iconst 12 dX11_letGo_12 ⟨by decide, by decide⟩ ?_
    refine ev_bipush 13 dX11_letGo_13 ⟨by decide, by decide⟩ ?_
    refine ev_cSp_3 15 dX11_letGo_15 kmX11_within lk_X11_111 (c_within _ _ _) rfl rfl ?_
    try simp only [aT, t1, t2, t3, t4, t5, t6, t7, t8, t9, t10, t11, t12, s0, s1, s2, s3, s4, s5, s6]
    refine ev_ifb_ne 18 23 dX11_letGo_18 rfl (fun h18 => ?_) (fun h18 => ?_)
    · refine ev_aload_0 23 dX11_letGo_23 ?_
      refine ev_getA 24 1 dX11_letGo_24 fa_X11_19 (kd_0 hZ) (pr_0_1 hP) rfl ?_
      refine ev_getA 27 1 dX11_letGo_27 fa_X11_147 (kd_4 hZ) (pr_4_1 hP) rfl ?_
      refine ev_getA 30 3 dX11_letGo_30 fa_X11_162 (kd_18 hZ) (pr_18_3 hP) rfl ?_
      refine ev_iload_1 33 dX11_letGo_33 ?_
      refine ev_zald 34 dX11_letGo_34 (kd_20 hZ) ⟨by omega, by have := (ln_20 hZ); omega⟩ ?_
      try simp only [aT, t1, t2, t3, t4, t5, t6, t7, t8, t9, t10, t11, t12, s0, s1, s2, s3, s4, s5, s6]
      refine ev_if_eq 35 41 dX11_letGo_35 rfl (fun h35 => ?_) (fun h35 => ?_)
      · refine ev_aload_0 41 dX11_letGo_41 ?_
        refine ev_getA 42 1 dX11_letGo_42 fa_X11_19 (kd_0 hZ) (pr_0_1 hP) rfl ?_
        refine ev_getA 45 1 dX11_letGo_45 fa_X11_147 (kd_4 hZ) (pr_4_1 hP) rfl ?_
        refine ev_gI 48 1 1 dX11_letGo_48 fa_X11_188 (kd_18 hZ) rfl rfl rfl ?_
        try simp only [aT, t1, t2, t3, t4, t5, t6, t7, t8, t9, t10, t11, t12, s0, s1, s2, s3, s4, s5, s6]
        refine ev_bipush 51 dX11_letGo_51 ⟨by decide, by decide⟩ ?_
        refine ev_icmp_lt 53 59 dX11_letGo_53 rfl (fun h53 => ?_) (fun h53 => ?_)
        · refine ev_aload_0 59 dX11_letGo_59 ?_
          refine ev_getA 60 2 dX11_letGo_60 fa_X11_28 (kd_0 hZ) (pr_0_2 hP) rfl ?_
          refine ev_aload_0 63 dX11_letGo_63 ?_
          refine ev_getA 64 1 dX11_letGo_64 fa_X11_19 (kd_0 hZ) (pr_0_1 hP) rfl ?_
          refine ev_getA 67 1 dX11_letGo_67 fa_X11_147 (kd_4 hZ) (pr_4_1 hP) rfl ?_
          have m1 := hW.2.2.2.2.2.2.1 t (by omega) (by omega)
          refine ev_cVv_1 70 dX11_letGo_70 kmX4_push lk_X11_184 (kd_25 hZ) (c_push hZ hP (Or.inl ⟨rfl, rfl⟩) hU hB) rfl rfl (fun I70 f70 => ?_)
          obtain ⟨u1, u2, u3⟩ := f70
          have aT : I70 T = α 0 := by rw [u3 T (by omega)]; exact aT
          have t1 : I70 (T + 1) = α 1 := by rw [u3 (T + 1) (by omega)]; exact t1
          have t2 : I70 (T + 2) = α 2 := by rw [u3 (T + 2) (by omega)]; exact t2
          have t3 : I70 (T + 3) = α 3 := by rw [u3 (T + 3) (by omega)]; exact t3
          have t4 : I70 (T + 4) = α 4 := by rw [u3 (T + 4) (by omega)]; exact t4
          have t5 : I70 (T + 5) = α 5 := by rw [u3 (T + 5) (by omega)]; exact t5
          have t6 : I70 (T + 6) = α 6 := by rw [u3 (T + 6) (by omega)]; exact t6
          have t7 : I70 (T + 7) = α 7 := by rw [u3 (T + 7) (by omega)]; exact t7
          have t8 : I70 (T + 8) = α 8 := by rw [u3 (T + 8) (by omega)]; exact t8
          have t9 : I70 (T + 9) = α 9 := by rw [u3 (T + 9) (by omega)]; exact t9
          have t10 : I70 (T + 10) = α 10 := by rw [u3 (T + 10) (by omega)]; exact t10
          have t11 : I70 (T + 11) = α 11 := by rw [u3 (T + 11) (by omega)]; exact t11
          have t12 : I70 (T + 12) = α 12 := by rw [u3 (T + 12) (by omega)]; exact t12
          have s0 : I70 18 = σ 0 := by rw [u3 18 (by omega)]; exact s0
          have s1 : I70 19 = σ 1 := by rw [u3 19 (by omega)]; exact s1
          have s2 : I70 20 = σ 2 := by rw [u3 20 (by omega)]; exact s2
          have s3 : I70 21 = σ 3 := by rw [u3 21 (by omega)]; exact s3
          have s4 : I70 22 = σ 4 := by rw [u3 22 (by omega)]; exact s4
          have s5 : I70 23 = σ 5 := by rw [u3 23 (by omega)]; exact s5
          have s6 : I70 24 = σ 6 := by rw [u3 24 (by omega)]; exact s6
          refine ev_aload_0 73 dX11_letGo_73 ?_
          refine ev_getA 74 1 dX11_letGo_74 fa_X11_19 (kd_0 hZ) (pr_0_1 hP) rfl ?_
          refine ev_getA 77 1 dX11_letGo_77 fa_X11_147 (kd_4 hZ) (pr_4_1 hP) rfl ?_
          refine ev_aload_0 80 dX11_letGo_80 ?_
          refine ev_getA 81 1 dX11_letGo_81 fa_X11_19 (kd_0 hZ) (pr_0_1 hP) rfl ?_
          refine ev_getA 84 0 dX11_letGo_84 fa_X11_122 (kd_4 hZ) hT0 rfl ?_
          refine ev_getA 87 6 dX11_letGo_87 fa_X11_144 (kdT_0 hZ hT) (prT_6 hP hT) rfl ?_
          refine ev_iload_1 90 dX11_letGo_90 ?_
          refine ev_iald 91 dX11_letGo_91 (kdT_4 hZ hT) ⟨by omega, by have := (lnT_4 hZ hT); omega⟩ ?_
          try simp only [aT, t1, t2, t3, t4, t5, t6, t7, t8, t9, t10, t11, t12, s0, s1, s2, s3, s4, s5, s6]
          refine ev_aload_0 92 dX11_letGo_92 ?_
          refine ev_getA 93 1 dX11_letGo_93 fa_X11_19 (kd_0 hZ) (pr_0_1 hP) rfl ?_
          refine ev_getA 96 1 dX11_letGo_96 fa_X11_147 (kd_4 hZ) (pr_4_1 hP) rfl ?_
          refine ev_getA 99 2 dX11_letGo_99 fa_X11_151 (kd_18 hZ) (pr_18_2 hP) rfl ?_
          refine ev_iload_1 102 dX11_letGo_102 ?_
          refine ev_iald 103 dX11_letGo_103 (kd_19 hZ) ⟨by omega, by have := (ln_19 hZ); omega⟩ ?_
          try simp only [aT, t1, t2, t3, t4, t5, t6, t7, t8, t9, t10, t11, t12, s0, s1, s2, s3, s4, s5, s6]
          refine ev_iload_2 104 dX11_letGo_104 ?_
          refine ev_cVm_3 105 dX11_letGo_105 kmX8_addThing lk_X11_200 (kd_18 hZ) (c_addTh hZ hP (by rw [s0]; omega) _ _ _) rfl rfl (fun x105 I105 f105 => ?_)
          refine ev_iret 108 dX11_letGo_108 ?_ rfl
          have z0 : I70 18 1 = σ 0 1 := by rw [s0]
          rcases f105 with ⟨v1, v2, v3⟩ | ⟨v1, _⟩
          · refine QM_of (Or.inr ⟨by omega, Or.inr (Or.inr ⟨by omega, by omega, by omega, PS.mk u1 u2 u3 (fun q a b c => ?_) ?_⟩)⟩)
            · rw [v3]; simp (disch := omega) only [upI_A]
            · rw [v3]
              exact add_eq.tr (addS_cg (vw_eq (fun c hc => by rw [u3 (18 + c) (by omega)]; exact hS c hc)))
          · exfalso; omega
        · refine ev_bipush 56 dX11_letGo_56 ⟨by decide, by decide⟩ ?_
          refine ev_iret 58 dX11_letGo_58 ?_ rfl
          exact QM_of (Or.inr ⟨by omega, Or.inr (Or.inl ⟨by omega, by omega, rfl, rfl⟩)⟩)
      · refine ev_bipush 38 dX11_letGo_38 ⟨by decide, by decide⟩ ?_
        refine ev_iret 40 dX11_letGo_40 ?_ rfl
        exact QM_of (Or.inr ⟨by omega, Or.inl ⟨by omega, rfl, rfl⟩⟩)
    · refine ev_iconst 21 dX11_letGo_21 ⟨by decide, by decide⟩ ?_
      refine ev_iret 22 dX11_letGo_22 ?_ rfl
      exact QM_of (Or.inl ⟨by omega, rfl, rfl⟩)
theorem c_cut {l : Launch} {g : Gt} {d : Nat} {Z : Zt} {I : It} {P : Pt'} {T : Nat} {α σ : Nat → Int → Int} (hsn : SN T α Z I P) (hS : VS I σ) (hWS : WS α σ) {U : Int → Nat → Int → Int} (hU : VP 25 8 I U) (t : Int) : Mt l g mX11_cut (d + 2) 0 0 [vA 0, vI t] Z I P (QM (fun r I' => (¬ (0 ≤ t ∧ t < α 0 5) ∧ r = -1 ∧ I' = I) ∨ ((0 ≤ t ∧ t < α 0 5) ∧ ((σ 2 t ≠ 0 ∧ r = -2 ∧ I' = I) ∨ (σ 2 t = 0 ∧ σ 0 1 = 7 ∧ r = -3 ∧ I' = I) ∨ (σ 2 t = 0 ∧ σ 0 1 < 7 ∧ r = σ 0 1 ∧ PS U (addS (cutS σ t) (α 4 t) (σ 1 t) 9) I I')))) Z P) := by
  have hZ := hsn.1
  have hP := hsn.2.1
  have hT0 := hsn.2.2.1
  have hT := hsn.2.2.2.1
  have hW := hsn.2.2.2.2.2.1
  have w0 := hW.1
  have w1 := hW.2.1
  have w5 := hW.2.2.1
  have a0 : I T 0 = α 0 0 := hsn.2.2.2.2.1.at 0
  have a1 : I T 1 = α 0 1 := hsn.2.2.2.2.1.at 1
  have a5 : I T 5 = α 0 5 := hsn.2.2.2.2.1.at 5
  have a4 : I (T + 4) = α 4 := hsn.2.2.2.2.1 4 (by omega)
  have s1 : I 19 = σ 1 := hS 1 (by omega)
  have s2 : I 20 = σ 2 := hS 2 (by omega)
  clear s1 s2
  have aT : I T = α 0 := hsn.2.2.2.2.1 0 (by omega)
  have t1 : I (T + 1) = α 1 := hsn.2.2.2.2.1 1 (by omega)
  have t2 : I (T + 2) = α 2 := hsn.2.2.2.2.1 2 (by omega)
  have t3 : I (T + 3) = α 3 := hsn.2.2.2.2.1 3 (by omega)
  have t4 : I (T + 4) = α 4 := hsn.2.2.2.2.1 4 (by omega)
  have t5 : I (T + 5) = α 5 := hsn.2.2.2.2.1 5 (by omega)
  have t6 : I (T + 6) = α 6 := hsn.2.2.2.2.1 6 (by omega)
  have t7 : I (T + 7) = α 7 := hsn.2.2.2.2.1 7 (by omega)
  have t8 : I (T + 8) = α 8 := hsn.2.2.2.2.1 8 (by omega)
  have t9 : I (T + 9) = α 9 := hsn.2.2.2.2.1 9 (by omega)
  have t10 : I (T + 10) = α 10 := hsn.2.2.2.2.1 10 (by omega)
  have t11 : I (T + 11) = α 11 := hsn.2.2.2.2.1 11 (by omega)
  have t12 : I (T + 12) = α 12 := hsn.2.2.2.2.1 12 (by omega)
  have s0 : I 18 = σ 0 := hS 0 (by omega)
  have s1 : I 19 = σ 1 := hS 1 (by omega)
  have s2 : I 20 = σ 2 := hS 2 (by omega)
  have s3 : I 21 = σ 3 := hS 3 (by omega)
  have s4 : I 22 = σ 4 := hS 4 (by omega)
  have s5 : I 23 = σ 5 := hS 5 (by omega)
  have s6 : I 24 = σ 6 := hS 6 (by omega)
  have hB : ∀ t, 0 ≤ t → t < 6 → I 20 t = 0 ∨ I 20 t = 1 := fun t a b => by rw [s2]; exact hWS.2.2.2.1 t a b
  have ht : T = 5 ∨ T = 118 := hT
  have w18 := hWS.2.1
  refine Mt.of kmX11_cut (ls := [vA 0, vI t]) (fun _ => rfl) (fun _ => rfl) (okf_k (okf_k (okf_n rfl))) (fun hok => ?_)
  refine ev_aload_0 0 dX11_cut_0 ?_
  refine ev_getA 1 1 dX11_cut_1 fa_X11_19 (kd_0 hZ) (pr_0_1 hP) rfl ?_
  refine ev_iload_1 4 dX11_cut_4 ?_
  refine ev_cVp_1 5 dX11_cut_5 kmX6_isTown lk_X11_141 (kd_4 hZ) (c_isTown hZ hP hT0 hT _) rfl rfl ?_
  try simp only [aT, t1, t2, t3, t4, t5, t6, t7, t8, t9, t10, t11, t12, s0, s1, s2, s3, s4, s5, s6]
  refine ev_ifb_ne 8 13 dX11_cut_8 rfl (fun h8 => ?_) (fun h8 => ?_)
  · refine ev_aload_0 13 dX11_cut_13 ?_
    refine ev_getA 14 1 dX11_cut_14 fa_X11_19 (kd_0 hZ) (pr_0_1 hP) rfl ?_
    refine ev_getA 17 1 dX11_cut_17 fa_X11_147 (kd_4 hZ) (pr_4_1 hP) rfl ?_
    refine ev_getA 20 3 dX11_cut_20 fa_X11_162 (kd_18 hZ) (pr_18_3 hP) rfl ?_
    refine ev_iload_1 23 dX11_cut_23 ?_
    refine ev_zald 24 dX11_cut_24 (kd_20 hZ) ⟨by omega, by have := (ln_20 hZ); omega⟩ ?_
    try simp only [aT, t1, t2, t3, t4, t5, t6, t7, t8, t9, t10, t11, t12, s0, s1, s2, s3, s4, s5, s6]
    refine ev_if_eq 25 31 dX11_cut_25 rfl (fun h25 => ?_) (fun h25 => ?_)
    · refine ev_aload_0 31 dX11_cut_31 ?_
      refine ev_getA 32 1 dX11_cut_32 fa_X11_19 (kd_0 hZ) (pr_0_1 hP) rfl ?_
      refine ev_getA 35 1 dX11_cut_35 fa_X11_147 (kd_4 hZ) (pr_4_1 hP) rfl ?_
      refine ev_gI 38 1 1 dX11_cut_38 fa_X11_188 (kd_18 hZ) rfl rfl rfl ?_
      try simp only [aT, t1, t2, t3, t4, t5, t6, t7, t8, t9, t10, t11, t12, s0, s1, s2, s3, s4, s5, s6]
      refine ev_bipush 41 dX11_cut_41 ⟨by decide, by decide⟩ ?_
      refine ev_icmp_lt 43 49 dX11_cut_43 rfl (fun h43 => ?_) (fun h43 => ?_)
      · refine ev_aload_0 49 dX11_cut_49 ?_
        refine ev_getA 50 2 dX11_cut_50 fa_X11_28 (kd_0 hZ) (pr_0_2 hP) rfl ?_
        refine ev_aload_0 53 dX11_cut_53 ?_
        refine ev_getA 54 1 dX11_cut_54 fa_X11_19 (kd_0 hZ) (pr_0_1 hP) rfl ?_
        refine ev_getA 57 1 dX11_cut_57 fa_X11_147 (kd_4 hZ) (pr_4_1 hP) rfl ?_
        have m1 := hW.2.2.2.2.2.2.1 t (by omega) (by omega)
        refine ev_cVv_1 60 dX11_cut_60 kmX4_push lk_X11_184 (kd_25 hZ) (c_push hZ hP (Or.inl ⟨rfl, rfl⟩) hU hB) rfl rfl (fun I60 f60 => ?_)
        obtain ⟨u1, u2, u3⟩ := f60
        have aT : I60 T = α 0 := by rw [u3 T (by omega)]; exact aT
        have t1 : I60 (T + 1) = α 1 := by rw [u3 (T + 1) (by omega)]; exact t1
        have t2 : I60 (T + 2) = α 2 := by rw [u3 (T + 2) (by omega)]; exact t2
        have t3 : I60 (T + 3) = α 3 := by rw [u3 (T + 3) (by omega)]; exact t3
        have t4 : I60 (T + 4) = α 4 := by rw [u3 (T + 4) (by omega)]; exact t4
        have t5 : I60 (T + 5) = α 5 := by rw [u3 (T + 5) (by omega)]; exact t5
        have t6 : I60 (T + 6) = α 6 := by rw [u3 (T + 6) (by omega)]; exact t6
        have t7 : I60 (T + 7) = α 7 := by rw [u3 (T + 7) (by omega)]; exact t7
        have t8 : I60 (T + 8) = α 8 := by rw [u3 (T + 8) (by omega)]; exact t8
        have t9 : I60 (T + 9) = α 9 := by rw [u3 (T + 9) (by omega)]; exact t9
        have t10 : I60 (T + 10) = α 10 := by rw [u3 (T + 10) (by omega)]; exact t10
        have t11 : I60 (T + 11) = α 11 := by rw [u3 (T + 11) (by omega)]; exact t11
        have t12 : I60 (T + 12) = α 12 := by rw [u3 (T + 12) (by omega)]; exact t12
        have s0 : I60 18 = σ 0 := by rw [u3 18 (by omega)]; exact s0
        have s1 : I60 19 = σ 1 := by rw [u3 19 (by omega)]; exact s1
        have s2 : I60 20 = σ 2 := by rw [u3 20 (by omega)]; exact s2
        have s3 : I60 21 = σ 3 := by rw [u3 21 (by omega)]; exact s3
        have s4 : I60 22 = σ 4 := by rw [u3 22 (by omega)]; exact s4
        have s5 : I60 23 = σ 5 := by rw [u3 23 (by omega)]; exact s5
        have s6 : I60 24 = σ 6 := by rw [u3 24 (by omega)]; exact s6
        refine ev_aload_0 63 dX11_cut_63 ?_
        refine ev_getA 64 1 dX11_cut_64 fa_X11_19 (kd_0 hZ) (pr_0_1 hP) rfl ?_
        refine ev_getA 67 1 dX11_cut_67 fa_X11_147 (kd_4 hZ) (pr_4_1 hP) rfl ?_
        refine ev_iload_1 70 dX11_cut_70 ?_
        refine ev_cVv_1 71 dX11_cut_71 kmX8_cutTown lk_X11_221 (kd_18 hZ) (c_cutT hZ hP (by rw [s0]; omega) (by omega)) rfl rfl (fun I71 f71 => ?_)
        obtain ⟨v1, v2, v3, v4⟩ := f71
        have k18 : I71 18 = I60 18 := v4 18 (by omega) (by omega)
        rw [s6, s0] at v3
        have aT : I71 T = α 0 := by rw [v4 T (by omega) (by omega)]; exact aT
        have t1 : I71 (T + 1) = α 1 := by rw [v4 (T + 1) (by omega) (by omega)]; exact t1
        have t2 : I71 (T + 2) = α 2 := by rw [v4 (T + 2) (by omega) (by omega)]; exact t2
        have t3 : I71 (T + 3) = α 3 := by rw [v4 (T + 3) (by omega) (by omega)]; exact t3
        have t4 : I71 (T + 4) = α 4 := by rw [v4 (T + 4) (by omega) (by omega)]; exact t4
        have t5 : I71 (T + 5) = α 5 := by rw [v4 (T + 5) (by omega) (by omega)]; exact t5
        have t6 : I71 (T + 6) = α 6 := by rw [v4 (T + 6) (by omega) (by omega)]; exact t6
        have t7 : I71 (T + 7) = α 7 := by rw [v4 (T + 7) (by omega) (by omega)]; exact t7
        have t8 : I71 (T + 8) = α 8 := by rw [v4 (T + 8) (by omega) (by omega)]; exact t8
        have t9 : I71 (T + 9) = α 9 := by rw [v4 (T + 9) (by omega) (by omega)]; exact t9
        have t10 : I71 (T + 10) = α 10 := by rw [v4 (T + 10) (by omega) (by omega)]; exact t10
        have t11 : I71 (T + 11) = α 11 := by rw [v4 (T + 11) (by omega) (by omega)]; exact t11
        have t12 : I71 (T + 12) = α 12 := by rw [v4 (T + 12) (by omega) (by omega)]; exact t12
        have s0 : I71 18 = σ 0 := by rw [v4 18 (by omega) (by omega)]; exact s0
        have s1 : I71 19 = σ 1 := by rw [v4 19 (by omega) (by omega)]; exact s1
        have s3 : I71 21 = σ 3 := by rw [v4 21 (by omega) (by omega)]; exact s3
        have s4 : I71 22 = σ 4 := by rw [v4 22 (by omega) (by omega)]; exact s4
        have s5 : I71 23 = σ 5 := by rw [v4 23 (by omega) (by omega)]; exact s5
        refine ev_aload_0 74 dX11_cut_74 ?_
        refine ev_getA 75 1 dX11_cut_75 fa_X11_19 (kd_0 hZ) (pr_0_1 hP) rfl ?_
        refine ev_getA 78 1 dX11_cut_78 fa_X11_147 (kd_4 hZ) (pr_4_1 hP) rfl ?_
        refine ev_aload_0 81 dX11_cut_81 ?_
        refine ev_getA 82 1 dX11_cut_82 fa_X11_19 (kd_0 hZ) (pr_0_1 hP) rfl ?_
        refine ev_getA 85 0 dX11_cut_85 fa_X11_122 (kd_4 hZ) hT0 rfl ?_
        refine ev_getA 88 6 dX11_cut_88 fa_X11_144 (kdT_0 hZ hT) (prT_6 hP hT) rfl ?_
        refine ev_iload_1 91 dX11_cut_91 ?_
        refine ev_iald 92 dX11_cut_92 (kdT_4 hZ hT) ⟨by omega, by have := (lnT_4 hZ hT); omega⟩ ?_
        try simp only [aT, t1, t2, t3, t4, t5, t6, t7, t8, t9, t10, t11, t12, s0, s1, s2, s3, s4, s5, s6]
        refine ev_aload_0 93 dX11_cut_93 ?_
        refine ev_getA 94 1 dX11_cut_94 fa_X11_19 (kd_0 hZ) (pr_0_1 hP) rfl ?_
        refine ev_getA 97 1 dX11_cut_97 fa_X11_147 (kd_4 hZ) (pr_4_1 hP) rfl ?_
        refine ev_getA 100 2 dX11_cut_100 fa_X11_151 (kd_18 hZ) (pr_18_2 hP) rfl ?_
        refine ev_iload_1 103 dX11_cut_103 ?_
        refine ev_iald 104 dX11_cut_104 (kd_19 hZ) ⟨by omega, by have := (ln_19 hZ); omega⟩ ?_
        try simp only [aT, t1, t2, t3, t4, t5, t6, t7, t8, t9, t10, t11, t12, s0, s1, s2, s3, s4, s5, s6]
        refine ev_bipush 105 dX11_cut_105 ⟨by decide, by decide⟩ ?_
        refine ev_cVm_3 107 dX11_cut_107 kmX8_addThing lk_X11_200 (kd_18 hZ) (c_addTh hZ hP (by rw [s0]; omega) _ _ _) rfl rfl (fun x107 I107 f107 => ?_)
        refine ev_iret 110 dX11_cut_110 ?_ rfl
        have z0 : I71 18 1 = σ 0 1 := by rw [s0]
        have ec : EqT (vw 18 I71) (cutS σ t) := by
          refine ⟨?_, ?_, fun q a b => ?_, fun j a b => ?_⟩
          · simp [vw, cutS, s0]
          · simp [vw, cutS, s0]
          · refine ⟨by simp [vw, cutS, s1], ?_⟩
            by_cases e : q = t
            · subst e; simp [vw, cutS, v1]
            · have := v2 q e
              simp [vw, cutS, e, this, s2]
          · have b' : j < σ 0 1 := by simpa [cutS] using b
            have := v3 j a b'
            refine ⟨by simp [vw, cutS, s3], by simp [vw, cutS, s4], by simp [vw, cutS, s5], ?_⟩
            show I71 24 j = _
            rw [this]; simp [cutS]
        rcases f107 with ⟨w1, w2, w3⟩ | ⟨w1, _⟩
        · refine QM_of (Or.inr ⟨by omega, Or.inr (Or.inr ⟨by omega, by omega, by omega, PS.mk u1 u2 u3 (fun q a b c => ?_) ?_⟩)⟩)
          · rw [w3]; simp (disch := omega) only [upI_A]; exact v4 q (by omega) (by omega)
          · rw [w3]
            exact add_eq.tr (addS_cg ec)
        · exfalso; omega
      · refine ev_bipush 46 dX11_cut_46 ⟨by decide, by decide⟩ ?_
        refine ev_iret 48 dX11_cut_48 ?_ rfl
        exact QM_of (Or.inr ⟨by omega, Or.inr (Or.inl ⟨by omega, by omega, rfl, rfl⟩)⟩)
    · refine ev_bipush 28 dX11_cut_28 ⟨by decide, by decide⟩ ?_
      refine ev_iret 30 dX11_cut_30 ?_ rfl
      exact QM_of (Or.inr ⟨by omega, Or.inl ⟨by omega, rfl, rfl⟩⟩)
  · refine ev_iconst 11 dX11_cut_11 ⟨by decide, by decide⟩ ?_
    refine ev_iret 12 dX11_cut_12 ?_ rfl
    exact QM_of (Or.inl ⟨by omega, rfl, rfl⟩)
theorem c_hang {l : Launch} {g : Gt} {d : Nat} {Z : Zt} {I : It} {P : Pt'} {T : Nat} {α σ : Nat → Int → Int} (hsn : SN T α Z I P) (hS : VS I σ) (hWS : WS α σ) {U : Int → Nat → Int → Int} (hU : VP 25 8 I U) (t x : Int) : Mt l g mX11_hang (d + 2) 0 0 [vA 0, vI t, vI x] Z I P (QM (fun r I' => (¬ ((0 ≤ t ∧ t < α 0 5) ∧ (0 ≤ x ∧ x < α 0 0)) ∧ r = -1 ∧ I' = I) ∨ (((0 ≤ t ∧ t < α 0 5) ∧ (0 ≤ x ∧ x < α 0 0)) ∧ ((¬ (σ 2 t = 0 ∧ ¬ mkt α (24 * α 4 t + x) ∧ tAt (α 4) (σ 1) (σ 2) (α 4 t) x (-1) (α 0 5).toNat 0 = -4) ∧ r = -2 ∧ I' = I) ∨ ((σ 2 t = 0 ∧ ¬ mkt α (24 * α 4 t + x) ∧ tAt (α 4) (σ 1) (σ 2) (α 4 t) x (-1) (α 0 5).toNat 0 = -4) ∧ r = σ 1 t ∧ PS U (hangS σ t x) I I')))) Z P) := by
  have hZ := hsn.1
  have hP := hsn.2.1
  have hT0 := hsn.2.2.1
  have hT := hsn.2.2.2.1
  have hW := hsn.2.2.2.2.2.1
  have w0 := hW.1
  have w1 := hW.2.1
  have w5 := hW.2.2.1
  have a0 : I T 0 = α 0 0 := hsn.2.2.2.2.1.at 0
  have a1 : I T 1 = α 0 1 := hsn.2.2.2.2.1.at 1
  have a5 : I T 5 = α 0 5 := hsn.2.2.2.2.1.at 5
  have a4 : I (T + 4) = α 4 := hsn.2.2.2.2.1 4 (by omega)
  have s1 : I 19 = σ 1 := hS 1 (by omega)
  have s2 : I 20 = σ 2 := hS 2 (by omega)
  clear s1 s2
  have aT : I T = α 0 := hsn.2.2.2.2.1 0 (by omega)
  have t1 : I (T + 1) = α 1 := hsn.2.2.2.2.1 1 (by omega)
  have t2 : I (T + 2) = α 2 := hsn.2.2.2.2.1 2 (by omega)
  have t3 : I (T + 3) = α 3 := hsn.2.2.2.2.1 3 (by omega)
  have t4 : I (T + 4) = α 4 := hsn.2.2.2.2.1 4 (by omega)
  have t5 : I (T + 5) = α 5 := hsn.2.2.2.2.1 5 (by omega)
  have t6 : I (T + 6) = α 6 := hsn.2.2.2.2.1 6 (by omega)
  have t7 : I (T + 7) = α 7 := hsn.2.2.2.2.1 7 (by omega)
  have t8 : I (T + 8) = α 8 := hsn.2.2.2.2.1 8 (by omega)
  have t9 : I (T + 9) = α 9 := hsn.2.2.2.2.1 9 (by omega)
  have t10 : I (T + 10) = α 10 := hsn.2.2.2.2.1 10 (by omega)
  have t11 : I (T + 11) = α 11 := hsn.2.2.2.2.1 11 (by omega)
  have t12 : I (T + 12) = α 12 := hsn.2.2.2.2.1 12 (by omega)
  have s0 : I 18 = σ 0 := hS 0 (by omega)
  have s1 : I 19 = σ 1 := hS 1 (by omega)
  have s2 : I 20 = σ 2 := hS 2 (by omega)
  have s3 : I 21 = σ 3 := hS 3 (by omega)
  have s4 : I 22 = σ 4 := hS 4 (by omega)
  have s5 : I 23 = σ 5 := hS 5 (by omega)
  have s6 : I 24 = σ 6 := hS 6 (by omega)
  have hB : ∀ t, 0 ≤ t → t < 6 → I 20 t = 0 ∨ I 20 t = 1 := fun t a b => by rw [s2]; exact hWS.2.2.2.1 t a b
  have ht : T = 5 ∨ T = 118 := hT
  have w18 := hWS.2.1
  refine Mt.of kmX11_hang (ls := [vA 0, vI t, vI x, vX, vX]) (fun _ => rfl) (fun _ => rfl) (okf_k (okf_k (okf_k (okf_n rfl)))) (fun hok => ?_)
  refine ev_aload_0 0 dX11_hang_0 ?_
  refine ev_getA 1 1 dX11_hang_1 fa_X11_19 (kd_0 hZ) (pr_0_1 hP) rfl ?_
  refine ev_iload_1 4 dX11_hang_4 ?_
  refine ev_cVp_1 5 dX11_hang_5 kmX6_isTown lk_X11_141 (kd_4 hZ) (c_isTown hZ hP hT0 hT _) rfl rfl ?_
  try simp only [aT, t1, t2, t3, t4, t5, t6, t7, t8, t9, t10, t11, t12, s0, s1, s2, s3, s4, s5, s6]
  refine ev_ifb_eq 8 22 dX11_hang_8 rfl (fun h8 => ?_) (fun h8 => ?_)
  · refine ev_iconst 22 dX11_hang_22 ⟨by decide, by decide⟩ ?_
    refine ev_iret 23 dX11_hang_23 ?_ rfl
    exact QM_of (Or.inl ⟨by omega, rfl, rfl⟩)
  · refine ev_aload_0 11 dX11_hang_11 ?_
    refine ev_getA 12 1 dX11_hang_12 fa_X11_19 (kd_0 hZ) (pr_0_1 hP) rfl ?_
    refine ev_iload_2 15 dX11_hang_15 ?_
    refine ev_cVp_1 16 dX11_hang_16 kmX6_isPlace lk_X11_204 (kd_4 hZ) (c_isPlace hZ hP hT0 hT _) rfl rfl ?_
    try simp only [aT, t1, t2, t3, t4, t5, t6, t7, t8, t9, t10, t11, t12, s0, s1, s2, s3, s4, s5, s6]
    refine ev_ifb_ne 19 24 dX11_hang_19 rfl (fun h19 => ?_) (fun h19 => ?_)
    · have m1 := hW.2.2.2.2.2.2.1 t (by omega) (by omega)
      have hg : gr α (24 * α 4 t + x) := ⟨by omega, by omega, by omega⟩
      have hsh := hsn.2.2.2.2.2.2.2.2.2 _ hg
      refine ev_aload_0 24 dX11_hang_24 ?_
      refine ev_getA 25 1 dX11_hang_25 fa_X11_19 (kd_0 hZ) (pr_0_1 hP) rfl ?_
      refine ev_getA 28 0 dX11_hang_28 fa_X11_122 (kd_4 hZ) hT0 rfl ?_
      refine ev_getA 31 6 dX11_hang_31 fa_X11_144 (kdT_0 hZ hT) (prT_6 hP hT) rfl ?_
      refine ev_iload_1 34 dX11_hang_34 ?_
      refine ev_iald 35 dX11_hang_35 (kdT_4 hZ hT) ⟨by omega, by have := (lnT_4 hZ hT); omega⟩ ?_
      try simp only [aT, t1, t2, t3, t4, t5, t6, t7, t8, t9, t10, t11, t12, s0, s1, s2, s3, s4, s5, s6]
      refine ev_iload_2 36 dX11_hang_36 ?_
      refine ev_cSp_2 37 dX11_hang_37 kmX11_spotOf lk_X11_207 (c_spotOf _ _ (by omega)) rfl rfl ?_
      try simp only [aT, t1, t2, t3, t4, t5, t6, t7, t8, t9, t10, t11, t12, s0, s1, s2, s3, s4, s5, s6]
      refine ev_istore_3 40 dX11_hang_40 rfl rfl ?_
      refine ev_aload_0 41 dX11_hang_41 ?_
      refine ev_getA 42 1 dX11_hang_42 fa_X11_19 (kd_0 hZ) (pr_0_1 hP) rfl ?_
      refine ev_getA 45 1 dX11_hang_45 fa_X11_147 (kd_4 hZ) (pr_4_1 hP) rfl ?_
      refine ev_getA 48 3 dX11_hang_48 fa_X11_162 (kd_18 hZ) (pr_18_3 hP) rfl ?_
      refine ev_iload_1 51 dX11_hang_51 ?_
      refine ev_zald 52 dX11_hang_52 (kd_20 hZ) ⟨by omega, by have := (ln_20 hZ); omega⟩ ?_
      try simp only [aT, t1, t2, t3, t4, t5, t6, t7, t8, t9, t10, t11, t12, s0, s1, s2, s3, s4, s5, s6]
      refine ev_zne 53 67 dX11_hang_53 rfl (fun h53 => ?_) (fun h53 => ?_)
      · refine ev_bipush 67 dX11_hang_67 ⟨by decide, by decide⟩ ?_
        refine ev_iret 69 dX11_hang_69 ?_ rfl
        first
          | exact QM_of (Or.inr ⟨by omega, Or.inl ⟨fun z => by have := z.1; omega, rfl, rfl⟩⟩)
          | exact QM_of (Or.inr ⟨by omega, Or.inl ⟨fun z => by have := hsh.mpr z.2.1; omega, rfl, rfl⟩⟩)
      · refine ev_aload_0 56 dX11_hang_56 ?_
        refine ev_getA 57 6 dX11_hang_57 fa_X11_50 (kd_0 hZ) (pr_0_6 hP) rfl ?_
        refine ev_iload_3 60 dX11_hang_60 ?_
        refine ev_cVp_1 61 dX11_hang_61 kmX7_isOpen lk_X11_211 (kd_101 hZ) (c_isOpen hZ hP _) rfl rfl ?_
        try simp only [aT, t1, t2, t3, t4, t5, t6, t7, t8, t9, t10, t11, t12, s0, s1, s2, s3, s4, s5, s6]
        refine ev_ifb_ne 64 70 dX11_hang_64 rfl (fun h64 => ?_) (fun h64 => ?_)
        · refine ev_aload_0 70 dX11_hang_70 ?_
          refine ev_getA 71 1 dX11_hang_71 fa_X11_19 (kd_0 hZ) (pr_0_1 hP) rfl ?_
          refine ev_aload_0 74 dX11_hang_74 ?_
          refine ev_getA 75 1 dX11_hang_75 fa_X11_19 (kd_0 hZ) (pr_0_1 hP) rfl ?_
          refine ev_getA 78 0 dX11_hang_78 fa_X11_122 (kd_4 hZ) hT0 rfl ?_
          refine ev_getA 81 6 dX11_hang_81 fa_X11_144 (kdT_0 hZ hT) (prT_6 hP hT) rfl ?_
          refine ev_iload_1 84 dX11_hang_84 ?_
          refine ev_iald 85 dX11_hang_85 (kdT_4 hZ hT) ⟨by omega, by have := (lnT_4 hZ hT); omega⟩ ?_
          try simp only [aT, t1, t2, t3, t4, t5, t6, t7, t8, t9, t10, t11, t12, s0, s1, s2, s3, s4, s5, s6]
          refine ev_iload_2 86 dX11_hang_86 ?_
          refine ev_iconst 87 dX11_hang_87 ⟨by decide, by decide⟩ ?_
          refine ev_cVp_3 88 dX11_hang_88 kmX6_townAt lk_X11_214 (kd_4 hZ) (c_townAt hZ hP hT0 hT (by omega) _ _ _) rfl rfl ?_
          try simp only [aT, t1, t2, t3, t4, t5, t6, t7, t8, t9, t10, t11, t12, s0, s1, s2, s3, s4, s5, s6]
          refine ev_bipush 91 dX11_hang_91 ⟨by decide, by decide⟩ ?_
          refine ev_icmp_eq 93 99 dX11_hang_93 rfl (fun h93 => ?_) (fun h93 => ?_)
          · refine ev_aload_0 99 dX11_hang_99 ?_
            refine ev_getA 100 2 dX11_hang_100 fa_X11_28 (kd_0 hZ) (pr_0_2 hP) rfl ?_
            refine ev_aload_0 103 dX11_hang_103 ?_
            refine ev_getA 104 1 dX11_hang_104 fa_X11_19 (kd_0 hZ) (pr_0_1 hP) rfl ?_
            refine ev_getA 107 1 dX11_hang_107 fa_X11_147 (kd_4 hZ) (pr_4_1 hP) rfl ?_
            refine ev_cVv_1 110 dX11_hang_110 kmX4_push lk_X11_184 (kd_25 hZ) (c_push hZ hP (Or.inl ⟨rfl, rfl⟩) hU hB) rfl rfl (fun I110 f110 => ?_)
            obtain ⟨u1, u2, u3⟩ := f110
            have aT : I110 T = α 0 := by rw [u3 T (by omega)]; exact aT
            have t1 : I110 (T + 1) = α 1 := by rw [u3 (T + 1) (by omega)]; exact t1
            have t2 : I110 (T + 2) = α 2 := by rw [u3 (T + 2) (by omega)]; exact t2
            have t3 : I110 (T + 3) = α 3 := by rw [u3 (T + 3) (by omega)]; exact t3
            have t4 : I110 (T + 4) = α 4 := by rw [u3 (T + 4) (by omega)]; exact t4
            have t5 : I110 (T + 5) = α 5 := by rw [u3 (T + 5) (by omega)]; exact t5
            have t6 : I110 (T + 6) = α 6 := by rw [u3 (T + 6) (by omega)]; exact t6
            have t7 : I110 (T + 7) = α 7 := by rw [u3 (T + 7) (by omega)]; exact t7
            have t8 : I110 (T + 8) = α 8 := by rw [u3 (T + 8) (by omega)]; exact t8
            have t9 : I110 (T + 9) = α 9 := by rw [u3 (T + 9) (by omega)]; exact t9
            have t10 : I110 (T + 10) = α 10 := by rw [u3 (T + 10) (by omega)]; exact t10
            have t11 : I110 (T + 11) = α 11 := by rw [u3 (T + 11) (by omega)]; exact t11
            have t12 : I110 (T + 12) = α 12 := by rw [u3 (T + 12) (by omega)]; exact t12
            have s0 : I110 18 = σ 0 := by rw [u3 18 (by omega)]; exact s0
            have s1 : I110 19 = σ 1 := by rw [u3 19 (by omega)]; exact s1
            have s2 : I110 20 = σ 2 := by rw [u3 20 (by omega)]; exact s2
            have s3 : I110 21 = σ 3 := by rw [u3 21 (by omega)]; exact s3
            have s4 : I110 22 = σ 4 := by rw [u3 22 (by omega)]; exact s4
            have s5 : I110 23 = σ 5 := by rw [u3 23 (by omega)]; exact s5
            have s6 : I110 24 = σ 6 := by rw [u3 24 (by omega)]; exact s6
            refine ev_aload_0 113 dX11_hang_113 ?_
            refine ev_getA 114 1 dX11_hang_114 fa_X11_19 (kd_0 hZ) (pr_0_1 hP) rfl ?_
            refine ev_getA 117 1 dX11_hang_117 fa_X11_147 (kd_4 hZ) (pr_4_1 hP) rfl ?_
            refine ev_getA 120 2 dX11_hang_120 fa_X11_151 (kd_18 hZ) (pr_18_2 hP) rfl ?_
            refine ev_iload_1 123 dX11_hang_123 ?_
            refine ev_iald 124 dX11_hang_124 (kd_19 hZ) ⟨by omega, by have := (ln_19 hZ); omega⟩ ?_
            try simp only [aT, t1, t2, t3, t4, t5, t6, t7, t8, t9, t10, t11, t12, s0, s1, s2, s3, s4, s5, s6]
            refine ev_istore_4 125 dX11_hang_125 rfl rfl ?_
            refine ev_aload_0 127 dX11_hang_127 ?_
            refine ev_getA 128 1 dX11_hang_128 fa_X11_19 (kd_0 hZ) (pr_0_1 hP) rfl ?_
            refine ev_getA 131 1 dX11_hang_131 fa_X11_147 (kd_4 hZ) (pr_4_1 hP) rfl ?_
            refine ev_iload_1 134 dX11_hang_134 ?_
            refine ev_iload_2 135 dX11_hang_135 ?_
            refine ev_cVv_2 136 dX11_hang_136 kmX8_hangTown lk_X11_217 (kd_18 hZ) (c_hangT hZ hP (by rw [s0]; omega) (by omega) _) rfl rfl (fun I136 f136 => ?_)
            refine ev_iload_4 139 dX11_hang_139 ?_
            refine ev_iret 141 dX11_hang_141 ?_ rfl
            obtain ⟨v1, v2, v3, v4⟩ := f136
            rw [s6, s0, s4] at v3
            rw [s1] at v2
            refine QM_of (Or.inr ⟨by omega, Or.inr ⟨⟨by omega, hsh.mp (by omega), by omega⟩, rfl, PS.mk u1 u2 u3 (fun q a b c => v4 q (by omega) (by omega)) ?_⟩⟩)
            refine ⟨?_, ?_, fun q a b => ?_, fun j a b => ?_⟩
            · show I136 18 0 = _; rw [v4 18 (by omega) (by omega), s0]; simp [hangS]
            · show I136 18 1 = _; rw [v4 18 (by omega) (by omega), s0]; simp [hangS]
            · constructor
              · show I136 19 q = _
                by_cases e : q = t
                · subst e; rw [v1]; simp [hangS]
                · rw [v2 q e]; simp [hangS, e]
              · show I136 20 q = _; rw [v4 20 (by omega) (by omega), s2]; simp [hangS]
            · have b' : j < σ 0 1 := by simpa [hangS] using b
              refine ⟨?_, ?_, ?_, ?_⟩
              · show I136 21 j = _; rw [v4 21 (by omega) (by omega), s3]; simp [hangS]
              · show I136 22 j = _; rw [v3 j a b']; simp [hangS]
              · show I136 23 j = _; rw [v4 23 (by omega) (by omega), s5]; simp [hangS]
              · show I136 24 j = _; rw [v4 24 (by omega) (by omega), s6]; simp [hangS]
          · refine ev_bipush 96 dX11_hang_96 ⟨by decide, by decide⟩ ?_
            refine ev_iret 98 dX11_hang_98 ?_ rfl
            exact QM_of (Or.inr ⟨by omega, Or.inl ⟨fun z => by have := z.2.2; omega, rfl, rfl⟩⟩)
        · refine ev_bipush 67 dX11_hang_67 ⟨by decide, by decide⟩ ?_
          refine ev_iret 69 dX11_hang_69 ?_ rfl
          first
            | exact QM_of (Or.inr ⟨by omega, Or.inl ⟨fun z => by have := z.1; omega, rfl, rfl⟩⟩)
            | exact QM_of (Or.inr ⟨by omega, Or.inl ⟨fun z => by have := hsh.mpr z.2.1; omega, rfl, rfl⟩⟩)
    · refine ev_iconst 22 dX11_hang_22 ⟨by decide, by decide⟩ ?_
      refine ev_iret 23 dX11_hang_23 ?_ rfl
      exact QM_of (Or.inl ⟨by omega, rfl, rfl⟩)
