/-! the sea goes on: steps -/
theorem ps_cg {α σ τ : Nat → Int → Int} {as : Int} (h1 : σ 1 = τ 1) (h2 : σ 2 = τ 2) (q : Dq) : ps α σ as q = ps α τ as q := by unfold ps; rw [h1, h2]
theorem psn_cg {α σ τ : Nat → Int → Int} {as : Int} (h1 : σ 1 = τ 1) (h2 : σ 2 = τ 2) : ∀ (n : Nat) (q : Dq), psn α σ as n q = psn α τ as n q
  | 0, q => rfl
  | n + 1, q => by
    show psn α σ as n (ps α σ as q) = psn α τ as n (ps α τ as q)
    rw [ps_cg h1 h2, psn_cg h1 h2 n]
def stp (α σ : Nat → Int → Int) (n j : Int) : Dq := psn α σ (-1) n.toNat (σ 3 j, σ 4 j, σ 5 j, σ 6 j)
def stepS (α σ : Nat → Int → Int) (n : Int) : Nat → Int → Int := fun k j => if k = 0 ∧ j = 0 then σ 0 0 + n else if k = 3 then (stp α σ n j).1 else if k = 4 then (stp α σ n j).2.1 else if k = 6 then (stp α σ n j).2.2.2 else σ k j
theorem psn_w {α σ : Nat → Int → Int} {as : Int} : ∀ (n : Nat) (q : Dq), (psn α σ as n q).2.2.1 = q.2.2.1
  | 0, q => rfl
  | n + 1, q => by
    show (psn α σ as n (ps α σ as q)).2.2.1 = _
    rw [psn_w n]; unfold ps; split <;> rfl
theorem c_steps {l : Launch} {g : Gt} {d : Nat} {Z : Zt} {I : It} {P : Pt'} {T : Nat} {α σ : Nat → Int → Int} (hsn : SN T α Z I P) (hS : VS I σ) (hWS : WS α σ) {U : Int → Nat → Int → Int} (hU : VP 25 8 I U) (n : Int) : Mt l g mX11_steps (d + 6) 0 0 [vA 0, vI n] Z I P (QM (fun r I' => (¬ (1 ≤ n ∧ n ≤ 60) ∧ r = -1 ∧ I' = I) ∨ ((1 ≤ n ∧ n ≤ 60) ∧ ((9999 < σ 0 0 + n ∧ r = -2 ∧ I' = I) ∨ (σ 0 0 + n ≤ 9999 ∧ r = σ 0 0 + n ∧ PS U (stepS α σ n) I I')))) Z P) := by
  have hZ := hsn.1
  have hP := hsn.2.1
  have hT0 := hsn.2.2.1
  have hT := hsn.2.2.2.1
  have hW := hsn.2.2.2.2.2.1
  have w0 := hW.1
  have w1 := hW.2.1
  have w5 := hW.2.2.1
  have a0 : I T 0 = α 0 0 := hsn.2.2.2.2.1.at 0
  have a1 : I T 1 = α 0 1 := hsn.2.2.2.2.1.at 1
  have a5 : I T 5 = α 0 5 := hsn.2.2.2.2.1.at 5
  have a4 : I (T + 4) = α 4 := hsn.2.2.2.2.1 4 (by omega)
  have s1 : I 19 = σ 1 := hS 1 (by omega)
  have s2 : I 20 = σ 2 := hS 2 (by omega)
  clear s1 s2
  have aT : I T = α 0 := hsn.2.2.2.2.1 0 (by omega)
  have t1 : I (T + 1) = α 1 := hsn.2.2.2.2.1 1 (by omega)
  have t2 : I (T + 2) = α 2 := hsn.2.2.2.2.1 2 (by omega)
  have t3 : I (T + 3) = α 3 := hsn.2.2.2.2.1 3 (by omega)
  have t4 : I (T + 4) = α 4 := hsn.2.2.2.2.1 4 (by omega)
  have t5 : I (T + 5) = α 5 := hsn.2.2.2.2.1 5 (by omega)
  have t6 : I (T + 6) = α 6 := hsn.2.2.2.2.1 6 (by omega)
  have t7 : I (T + 7) = α 7 := hsn.2.2.2.2.1 7 (by omega)
  have t8 : I (T + 8) = α 8 := hsn.2.2.2.2.1 8 (by omega)
  have t9 : I (T + 9) = α 9 := hsn.2.2.2.2.1 9 (by omega)
  have t10 : I (T + 10) = α 10 := hsn.2.2.2.2.1 10 (by omega)
  have t11 : I (T + 11) = α 11 := hsn.2.2.2.2.1 11 (by omega)
  have t12 : I (T + 12) = α 12 := hsn.2.2.2.2.1 12 (by omega)
  have s0 : I 18 = σ 0 := hS 0 (by omega)
  have s1 : I 19 = σ 1 := hS 1 (by omega)
  have s2 : I 20 = σ 2 := hS 2 (by omega)
  have s3 : I 21 = σ 3 := hS 3 (by omega)
  have s4 : I 22 = σ 4 := hS 4 (by omega)
  have s5 : I 23 = σ 5 := hS 5 (by omega)
  have s6 : I 24 = σ 6 := hS 6 (by omega)
  have hB : ∀ t, 0 ≤ t → t < 6 → I 20 t = 0 ∨ I 20 t = 1 := fun t a b => by rw [s2]; exact hWS.2.2.2.1 t a b
  have ht : T = 5 ∨ T = 118 := hT
  have w18 := hWS.2.1
  have w00 := hWS.1
  refine Mt.of kmX11_steps (ls := [vA 0, vI n, vX]) (fun _ => rfl) (fun _ => rfl) (okf_k (okf_k (okf_n rfl))) (fun hok => ?_)
  have loop : ((1 ≤ n ∧ n ≤ 60) ∧ σ 0 0 + n ≤ 9999) → ∀ (Ip : It), Ip 25 2 = (if I 25 2 < 8 then I 25 2 + 1 else 8) → VP 25 8 Ip (pshU 8 (I 25 2) U (vw 18 I)) → (∀ q, (q < 25 ∨ 83 ≤ q) → Ip q = I q) → ∀ (k : Nat) (i : Int) (I1 : It), 0 ≤ i → i + k = σ 0 1 → (∀ q, q ≠ 21 → q ≠ 22 → q ≠ 24 → q ≠ 99 → I1 q = Ip q) → (∀ j, 0 ≤ j → I1 21 j = (if j < i then (stp α σ n j).1 else σ 3 j) ∧ I1 22 j = (if j < i then (stp α σ n j).2.1 else σ 4 j) ∧ I1 24 j = (if j < i then (stp α σ n j).2.2.2 else σ 6 j)) → Ev l g mX11_steps (d + 6) 0 0 Z I1 P 49 [vA 0, vI n, vI i] [] (QM (fun r I' => (¬ (1 ≤ n ∧ n ≤ 60) ∧ r = -1 ∧ I' = I) ∨ ((1 ≤ n ∧ n ≤ 60) ∧ ((9999 < σ 0 0 + n ∧ r = -2 ∧ I' = I) ∨ (σ 0 0 + n ≤ 9999 ∧ r = σ 0 0 + n ∧ PS U (stepS α σ n) I I')))) Z P) := by
    intro hgd Ip u1 u2 u3 k
    have hAp : VT T Ip α := fun c hc => by rw [u3 (T + c) (by omega)]; exact hsn.2.2.2.2.1 c hc
    have s0 : Ip 18 = σ 0 := by rw [u3 18 (by omega)]; exact s0
    have s1 : Ip 19 = σ 1 := by rw [u3 19 (by omega)]; exact s1
    have s2 : Ip 20 = σ 2 := by rw [u3 20 (by omega)]; exact s2
    have s5 : Ip 23 = σ 5 := by rw [u3 23 (by omega)]; exact s5
    induction k with
    | zero =>
      intro i I1 h0 h1 g1 g2
      have s0 : I1 18 = σ 0 := by rw [g1 18 (by omega) (by omega) (by omega) (by omega)]; exact s0
      have s1 : I1 19 = σ 1 := by rw [g1 19 (by omega) (by omega) (by omega) (by omega)]; exact s1
      have s2 : I1 20 = σ 2 := by rw [g1 20 (by omega) (by omega) (by omega) (by omega)]; exact s2
      have s5 : I1 23 = σ 5 := by rw [g1 23 (by omega) (by omega) (by omega) (by omega)]; exact s5
      refine ev_iload_2 49 dX11_steps_49 ?_
      refine ev_aload_0 50 dX11_steps_50 ?_
      refine ev_getA 51 1 dX11_steps_51 fa_X11_19 (kd_0 hZ) (pr_0_1 hP) rfl ?_
      refine ev_getA 54 1 dX11_steps_54 fa_X11_147 (kd_4 hZ) (pr_4_1 hP) rfl ?_
      refine ev_gI 57 1 1 dX11_steps_57 fa_X11_188 (kd_18 hZ) rfl rfl rfl ?_
      try simp only [s0]
      refine ev_icmp_ge 60 93 dX11_steps_60 rfl (fun h60 => ?_) (fun h60 => ?_)
      · refine ev_aload_0 93 dX11_steps_93 ?_
        refine ev_getA 94 1 dX11_steps_94 fa_X11_19 (kd_0 hZ) (pr_0_1 hP) rfl ?_
        refine ev_getA 97 1 dX11_steps_97 fa_X11_147 (kd_4 hZ) (pr_4_1 hP) rfl ?_
        refine ev_dupA 100 dX11_steps_100 ?_
        refine ev_gI 101 0 0 dX11_steps_101 fa_X11_181 (kd_18 hZ) rfl rfl rfl ?_
        try simp only [s0]
        refine ev_iload_1 104 dX11_steps_104 ?_
        refine ev_iadd 105 dX11_steps_105 ⟨by omega, by omega⟩ ?_
        refine ev_pI 106 0 0 dX11_steps_106 fp_X11_181 (kd_18 hZ) rfl rfl ?_
        refine ev_aload_0 109 dX11_steps_109 ?_
        refine ev_getA 110 1 dX11_steps_110 fa_X11_19 (kd_0 hZ) (pr_0_1 hP) rfl ?_
        refine ev_getA 113 1 dX11_steps_113 fa_X11_147 (kd_4 hZ) (pr_4_1 hP) rfl ?_
        refine ev_gI 116 0 0 dX11_steps_116 fa_X11_181 (kd_18 hZ) rfl rfl rfl ?_
        try simp (disch := omega) only [upI_s, upI_a, upI_k]
        try simp only [s0]
        refine ev_iret 119 dX11_steps_119 ?_ rfl
        refine QM_of (Or.inr ⟨hgd.1, Or.inr ⟨hgd.2, rfl, PS.mk u1 u2 u3 (fun q a b c => by rw [upI_A (by omega)]; exact g1 q (by omega) (by omega) (by omega) b) ?_⟩⟩)
        refine ⟨?_, ?_, fun q a b => ?_, fun j a b => ?_⟩
        · show upI I1 18 0 _ 18 0 = _; rw [upI_s]; simp [stepS]
        · show upI I1 18 0 _ 18 1 = _; rw [upI_k (by omega), s0]; simp [stepS]
        · constructor
          · show upI I1 18 0 _ 19 q = _; rw [upI_A (by omega), s1]; simp [stepS]
          · show upI I1 18 0 _ 20 q = _; rw [upI_A (by omega), s2]; simp [stepS]
        · have b' : j < σ 0 1 := by simpa [stepS] using b
          obtain ⟨y1, y2, y3⟩ := g2 j a
          rw [if_pos (by omega)] at y1 y2 y3
          refine ⟨?_, ?_, ?_, ?_⟩
          · show upI I1 18 0 _ 21 j = _; rw [upI_A (by omega), y1]; simp [stepS]
          · show upI I1 18 0 _ 22 j = _; rw [upI_A (by omega), y2]; simp [stepS]
          · show upI I1 18 0 _ 23 j = _; rw [upI_A (by omega), s5]; simp [stepS]
          · show upI I1 18 0 _ 24 j = _; rw [upI_A (by omega), y3]; simp [stepS]
      · exfalso; omega
    | succ k ih =>
      intro i I1 h0 h1 g1 g2
      have s0 : I1 18 = σ 0 := by rw [g1 18 (by omega) (by omega) (by omega) (by omega)]; exact s0
      have s1 : I1 19 = σ 1 := by rw [g1 19 (by omega) (by omega) (by omega) (by omega)]; exact s1
      have s2 : I1 20 = σ 2 := by rw [g1 20 (by omega) (by omega) (by omega) (by omega)]; exact s2
      have s5 : I1 23 = σ 5 := by rw [g1 23 (by omega) (by omega) (by omega) (by omega)]; exact s5
      refine ev_iload_2 49 dX11_steps_49 ?_
      refine ev_aload_0 50 dX11_steps_50 ?_
      refine ev_getA 51 1 dX11_steps_51 fa_X11_19 (kd_0 hZ) (pr_0_1 hP) rfl ?_
      refine ev_getA 54 1 dX11_steps_54 fa_X11_147 (kd_4 hZ) (pr_4_1 hP) rfl ?_
      refine ev_gI 57 1 1 dX11_steps_57 fa_X11_188 (kd_18 hZ) rfl rfl rfl ?_
      try simp only [s0]
      refine ev_icmp_ge 60 93 dX11_steps_60 rfl (fun h60 => ?_) (fun h60 => ?_)
      · exfalso; omega
      · refine ev_aload_0 63 dX11_steps_63 ?_
        refine ev_getA 64 4 dX11_steps_64 fa_X11_40 (kd_0 hZ) (pr_0_4 hP) rfl ?_
        refine ev_iload_2 67 dX11_steps_67 ?_
        refine ev_cVv_1 68 dX11_steps_68 kmX0_take lk_X11_191 (kd_99 hZ) (c_take hZ hP (Or.inl rfl) (by omega)) rfl rfl (fun I68 f68 => ?_)
        obtain ⟨d1, o1⟩ := f68
        obtain ⟨g5, g6, g7⟩ := g2 i h0
        rw [if_neg (by omega)] at g5 g6 g7
        rw [g5, g6, g7, s5] at d1
        have hA1 : VT T I68 α := fun c hc => by rw [o1 (T + c) (by omega), g1 (T + c) (by omega) (by omega) (by omega) (by omega)]; exact hAp c hc
        have hS1 : VS I68 (vw 18 I68) := fun c hc => rfl
        have hi1 : inD α (dq 99 I68) := by rw [d1]; exact (hWS.2.2.2.2 i h0 (by omega)).1
        have c1 : vw 18 I68 1 = σ 1 := by show I68 19 = _; rw [o1 19 (by omega)]; exact s1
        have c2 : vw 18 I68 2 = σ 2 := by show I68 20 = _; rw [o1 20 (by omega)]; exact s2
        refine ev_aload_0 71 dX11_steps_71 ?_
        refine ev_getA 72 4 dX11_steps_72 fa_X11_40 (kd_0 hZ) (pr_0_4 hP) rfl ?_
        refine ev_iload_1 75 dX11_steps_75 ?_
        refine ev_cVv_1 76 dX11_steps_76 kmX0_passMany lk_X11_194 (kd_99 hZ) (c_passMany hZ hP hT0 hT (Or.inl rfl) hA1 hS1 hW hi1 (by omega)) rfl rfl (fun I76 f76 => ?_)
        obtain ⟨d2, o2⟩ := f76
        rw [d1, psn_cg c1 c2] at d2
        have k1 : I76 99 1 = (stp α σ n i).1 := by show (dq 99 I76).1 = _; rw [d2]; rfl
        have k2 : I76 99 2 = (stp α σ n i).2.1 := by show (dq 99 I76).2.1 = _; rw [d2]; rfl
        have k4 : I76 99 4 = (stp α σ n i).2.2.2 := by show (dq 99 I76).2.2.2 = _; rw [d2]; rfl
        have o3 : ∀ q, q ≠ 99 → I76 q = I1 q := fun q hq => by rw [o2 q hq, o1 q hq]
        refine ev_aload_0 79 dX11_steps_79 ?_
        refine ev_getA 80 4 dX11_steps_80 fa_X11_40 (kd_0 hZ) (pr_0_4 hP) rfl ?_
        refine ev_iload_2 83 dX11_steps_83 ?_
        refine ev_cVv_1 84 dX11_steps_84 kmX0_give lk_X11_197 (kd_99 hZ) (c_give hZ hP (Or.inl rfl) (by omega)) rfl rfl (fun I84 f84 => ?_)
        rw [k1, k2, k4] at f84
        refine ev_iinc_2 87 dX11_steps_87 ⟨by omega, by omega⟩ rfl rfl ?_
        refine ev_goto 90 49 dX11_steps_90 rfl ?_
        refine ih _ _ (by omega) (by omega) (fun q a b c e => ?_) (fun j a => ?_)
        · rw [f84, upI_A c, upI_A b, upI_A a, o3 q e]; exact g1 q a b c e
        · obtain ⟨y1, y2, y3⟩ := g2 j a
          by_cases e : j = i
          · subst e
            rw [f84]
            simp (disch := omega) only [upI_s, upI_A]
            rw [if_pos (by omega), if_pos (by omega), if_pos (by omega)]
            exact ⟨rfl, rfl, rfl⟩
          · rw [f84]
            simp (disch := omega) only [upI_s, upI_A, upI_k]
            rw [o3 21 (by omega), o3 22 (by omega), o3 24 (by omega), y1, y2, y3]
            by_cases z : j < i
            · rw [if_pos z, if_pos z, if_pos z, if_pos (by omega), if_pos (by omega), if_pos (by omega)]; exact ⟨rfl, rfl, rfl⟩
            · rw [if_neg z, if_neg z, if_neg z, if_neg (by omega), if_neg (by omega), if_neg (by omega)]; exact ⟨rfl, rfl, rfl⟩
  refine ev_iload_1 0 dX11_steps_0 ?_
  refine ev_iconst 1 dX11_steps_1 ⟨by decide, by decide⟩ ?_
  refine ev_bipush 2 dX11_steps_2 ⟨by decide, by decide⟩ ?_
  refine ev_cSp_3 4 dX11_steps_4 kmX11_within lk_X11_111 (c_within _ _ _) rfl rfl ?_
  try simp only [aT, t1, t2, t3, t4, t5, t6, t7, t8, t9, t10, t11, t12, s0, s1, s2, s3, s4, s5, s6]
  refine ev_ifb_ne 7 12 dX11_steps_7 rfl (fun h7 => ?_) (fun h7 => ?_)
  · refine ev_aload_0 12 dX11_steps_12 ?_
    refine ev_getA 13 1 dX11_steps_13 fa_X11_19 (kd_0 hZ) (pr_0_1 hP) rfl ?_
    refine ev_getA 16 1 dX11_steps_16 fa_X11_147 (kd_4 hZ) (pr_4_1 hP) rfl ?_
    refine ev_gI 19 0 0 dX11_steps_19 fa_X11_181 (kd_18 hZ) rfl rfl rfl ?_
    try simp only [aT, t1, t2, t3, t4, t5, t6, t7, t8, t9, t10, t11, t12, s0, s1, s2, s3, s4, s5, s6]
    refine ev_iload_1 22 dX11_steps_22 ?_
    refine ev_iadd 23 dX11_steps_23 ⟨by omega, by omega⟩ ?_
    refine ev_sipush 24 dX11_steps_24 ⟨by decide, by decide⟩ ?_
    refine ev_icmp_le 27 33 dX11_steps_27 rfl (fun h27 => ?_) (fun h27 => ?_)
    · refine ev_aload_0 33 dX11_steps_33 ?_
      refine ev_getA 34 2 dX11_steps_34 fa_X11_28 (kd_0 hZ) (pr_0_2 hP) rfl ?_
      refine ev_aload_0 37 dX11_steps_37 ?_
      refine ev_getA 38 1 dX11_steps_38 fa_X11_19 (kd_0 hZ) (pr_0_1 hP) rfl ?_
      refine ev_getA 41 1 dX11_steps_41 fa_X11_147 (kd_4 hZ) (pr_4_1 hP) rfl ?_
      refine ev_cVv_1 44 dX11_steps_44 kmX4_push lk_X11_184 (kd_25 hZ) (c_push hZ hP (Or.inl ⟨rfl, rfl⟩) hU hB) rfl rfl (fun I44 f44 => ?_)
      obtain ⟨u1, u2, u3⟩ := f44
      refine ev_iconst 47 dX11_steps_47 ⟨by decide, by decide⟩ ?_
      refine ev_istore_2 48 dX11_steps_48 rfl rfl ?_
      exact loop ⟨by omega, by omega⟩ I44 u1 u2 u3 (σ 0 1).toNat 0 I44 (by omega) (by omega) (fun _ _ _ _ _ => rfl) (fun j a => by
        rw [if_neg (by omega), if_neg (by omega), if_neg (by omega), u3 21 (by omega), u3 22 (by omega), u3 24 (by omega), s3, s4, s6]
        exact ⟨rfl, rfl, rfl⟩)
    · refine ev_bipush 30 dX11_steps_30 ⟨by decide, by decide⟩ ?_
      refine ev_iret 32 dX11_steps_32 ?_ rfl
      exact QM_of (Or.inr ⟨by omega, Or.inl ⟨by omega, rfl, rfl⟩⟩)
  · refine ev_iconst 10 dX11_steps_10 ⟨by decide, by decide⟩ ?_
    refine ev_iret 11 dX11_steps_11 ?_ rfl
    exact QM_of (Or.inl ⟨by omega, rfl, rfl⟩)
