/-! what is heard where -/
noncomputable def bF (p : Int → Prop) : Nat → Nat
  | 0 => 0
  | n + 1 => bF p n ||| ((b2 (p (n : Int))).toNat * 2 ^ n)
theorem bF_t {p : Int → Prop} {n : Nat} (h : p (n : Int)) : bF p (n + 1) = bF p n ||| 2 ^ n := by
  show bF p n ||| ((b2 (p (n : Int))).toNat * 2 ^ n) = _
  rw [b2_t h]
  show bF p n ||| (1 * 2 ^ n) = _
  rw [Nat.one_mul]
theorem bF_f {p : Int → Prop} {n : Nat} (h : ¬ p (n : Int)) : bF p (n + 1) = bF p n := by
  show bF p n ||| ((b2 (p (n : Int))).toNat * 2 ^ n) = _
  rw [b2_f h]
  show bF p n ||| (0 * 2 ^ n) = _
  rw [Nat.zero_mul, Nat.or_zero]
theorem bF_l {p : Int → Prop} : ∀ n : Nat, bF p n < 2 ^ n
  | 0 => Nat.one_pos
  | n + 1 => by
    have h := bF_l (p := p) n
    have h2 : bF p n < 2 ^ (n + 1) := by rw [Nat.pow_succ]; omega
    have h3 : 2 ^ n < 2 ^ (n + 1) := by rw [Nat.pow_succ]; have := Nat.two_pow_pos n; omega
    by_cases q : p (n : Int)
    · rw [bF_t q]; exact Nat.or_lt_two_pow h2 h3
    · rw [bF_f q]; exact h2
theorem bF_31 {p : Int → Prop} {n : Nat} (h : n ≤ 20) : bF p n < 2 ^ 31 ∧ 2 ^ n < 2 ^ 31 := ⟨Nat.lt_of_lt_of_le (bF_l n) (Nat.pow_le_pow_right (by decide) (by omega)), Nat.pow_lt_pow_right (by decide) (by omega)⟩
noncomputable def tmA (cap : Int) (α : Nat → Int → Int) (l x k y : Int) : Int := if (0 ≤ l ∧ l < α 0 1) ∧ (0 ≤ x ∧ x < α 0 0) ∧ (0 ≤ k ∧ k < α 0 1) ∧ (0 ≤ y ∧ y < α 0 0) then (if dS cap α (24 * l + x) (24 * k + y) < cap then dS cap α (24 * l + x) (24 * k + y) else -4) else -1
noncomputable def hrA (cap : Int) (α σ : Nat → Int → Int) (t b : Int) : Int := if (0 ≤ t ∧ t < α 0 5) ∧ (0 ≤ b ∧ b ≤ 99) then (if σ 2 t = 0 then ((bF (fun u => u ≠ t ∧ σ 2 u = 0 ∧ dS cap α (24 * α 4 t + σ 1 t) (24 * α 4 u + σ 1 u) ≤ b) (α 0 5).toNat : Nat) : Int) else -2) else -1
noncomputable def shA (cap : Int) (α σ : Nat → Int → Int) (t : Int) : Int := if 0 ≤ t ∧ t < α 0 5 then (if σ 2 t = 0 then cnt (fun v => op α v ∧ cap ≤ dS cap α (24 * α 4 t + σ 1 t) v) 192 else -2) else -1
def whA (p : Int → Prop) (w r : Int) : Prop := ((0 ≤ w ∧ w ≤ 1) ∧ ∃ s q, SK p 192 s q ∧ r = if w = 0 then s else q) ∨ (¬ (0 ≤ w ∧ w ≤ 1) ∧ r = -1)
def mvA (cap : Int) (α σ : Nat → Int → Int) (b w r : Int) : Prop := (((0 ≤ b ∧ b ≤ 99) ∧ (0 ≤ w ∧ w ≤ 2)) ∧ ∃ n lo up, MV cap α σ b n lo up ∧ r = if w = 0 then n else if w = 1 then lo else up) ∨ (¬ ((0 ≤ b ∧ b ≤ 99) ∧ (0 ≤ w ∧ w ≤ 2)) ∧ r = -1)
theorem c_time {l : Launch} {g : Gt} {d : Nat} {Z : Zt} {I : It} {P : Pt'} {T : Nat} {α σ : Nat → Int → Int} (hsn : SN T α Z I P) (hS : VS I σ) (hWS : WS α σ) (x y z w : Int) : Mt l g mX11_time (d + 3) (2 * nn P) (194 * nn P) [vA 0, vI x, vI y, vI z, vI w] Z I P (QG (fun r Z' I' P' => r = tmA 1000000 α x y z w ∧ SN T α Z' I' P' ∧ SX Z I P Z' I' P')) := by
  have hZ := hsn.1
  have hP := hsn.2.1
  have hT0 := hsn.2.2.1
  have hT := hsn.2.2.2.1
  have hW := hsn.2.2.2.2.2.1
  have w0 := hW.1
  have w1 := hW.2.1
  have w5 := hW.2.2.1
  have a0 : I T 0 = α 0 0 := hsn.2.2.2.2.1.at 0
  have a1 : I T 1 = α 0 1 := hsn.2.2.2.2.1.at 1
  have a5 : I T 5 = α 0 5 := hsn.2.2.2.2.1.at 5
  have a4 : I (T + 4) = α 4 := hsn.2.2.2.2.1 4 (by omega)
  have s1 : I 19 = σ 1 := hS 1 (by omega)
  have s2 : I 20 = σ 2 := hS 2 (by omega)
  clear s1 s2
  have aT : I T = α 0 := hsn.2.2.2.2.1 0 (by omega)
  have t1 : I (T + 1) = α 1 := hsn.2.2.2.2.1 1 (by omega)
  have t2 : I (T + 2) = α 2 := hsn.2.2.2.2.1 2 (by omega)
  have t3 : I (T + 3) = α 3 := hsn.2.2.2.2.1 3 (by omega)
  have t4 : I (T + 4) = α 4 := hsn.2.2.2.2.1 4 (by omega)
  have t5 : I (T + 5) = α 5 := hsn.2.2.2.2.1 5 (by omega)
  have t6 : I (T + 6) = α 6 := hsn.2.2.2.2.1 6 (by omega)
  have t7 : I (T + 7) = α 7 := hsn.2.2.2.2.1 7 (by omega)
  have t8 : I (T + 8) = α 8 := hsn.2.2.2.2.1 8 (by omega)
  have t9 : I (T + 9) = α 9 := hsn.2.2.2.2.1 9 (by omega)
  have t10 : I (T + 10) = α 10 := hsn.2.2.2.2.1 10 (by omega)
  have t11 : I (T + 11) = α 11 := hsn.2.2.2.2.1 11 (by omega)
  have t12 : I (T + 12) = α 12 := hsn.2.2.2.2.1 12 (by omega)
  have s0 : I 18 = σ 0 := hS 0 (by omega)
  have s1 : I 19 = σ 1 := hS 1 (by omega)
  have s2 : I 20 = σ 2 := hS 2 (by omega)
  have s3 : I 21 = σ 3 := hS 3 (by omega)
  have s4 : I 22 = σ 4 := hS 4 (by omega)
  have s5 : I 23 = σ 5 := hS 5 (by omega)
  have s6 : I 24 = σ 6 := hS 6 (by omega)
  refine Mt.of kmX11_time (ls := [vA 0, vI x, vI y, vI z, vI w, vX]) (fun _ => rfl) (fun _ => rfl) (okf_k (okf_k (okf_k (okf_k (okf_k (okf_n rfl)))))) (fun hok => ?_)
  refine ev_aload_0 0 dX11_time_0 ?_
  refine ev_getA 1 1 dX11_time_1 fa_X11_19 (kd_0 hZ) (pr_0_1 hP) rfl ?_
  refine ev_iload_1 4 dX11_time_4 ?_
  refine ev_cVp_1 5 dX11_time_5 kmX6_isLevel lk_X11_128 (kd_4 hZ) (c_isLevel hZ hP hT0 hT _) rfl rfl ?_
  try simp only [aT, t1, t2, t3, t4, t5, t6, t7, t8, t9, t10, t11, t12, s0, s1, s2, s3, s4, s5, s6]
  refine ev_ifb_eq 8 45 dX11_time_8 rfl (fun h8 => ?_) (fun h8 => ?_)
  · refine ev_iconst 45 dX11_time_45 ⟨by decide, by decide⟩ ?_
    refine ev_iret 46 dX11_time_46 ?_ rfl
    exact QG_of ⟨(if_neg (by omega)).symm, hsn, SX.rf⟩
  · refine ev_aload_0 11 dX11_time_11 ?_
    refine ev_getA 12 1 dX11_time_12 fa_X11_19 (kd_0 hZ) (pr_0_1 hP) rfl ?_
    refine ev_iload_2 15 dX11_time_15 ?_
    refine ev_cVp_1 16 dX11_time_16 kmX6_isPlace lk_X11_204 (kd_4 hZ) (c_isPlace hZ hP hT0 hT _) rfl rfl ?_
    try simp only [aT, t1, t2, t3, t4, t5, t6, t7, t8, t9, t10, t11, t12, s0, s1, s2, s3, s4, s5, s6]
    refine ev_ifb_eq 19 45 dX11_time_19 rfl (fun h19 => ?_) (fun h19 => ?_)
    · refine ev_iconst 45 dX11_time_45 ⟨by decide, by decide⟩ ?_
      refine ev_iret 46 dX11_time_46 ?_ rfl
      exact QG_of ⟨(if_neg (by omega)).symm, hsn, SX.rf⟩
    · refine ev_aload_0 22 dX11_time_22 ?_
      refine ev_getA 23 1 dX11_time_23 fa_X11_19 (kd_0 hZ) (pr_0_1 hP) rfl ?_
      refine ev_iload_3 26 dX11_time_26 ?_
      refine ev_cVp_1 27 dX11_time_27 kmX6_isLevel lk_X11_128 (kd_4 hZ) (c_isLevel hZ hP hT0 hT _) rfl rfl ?_
      try simp only [aT, t1, t2, t3, t4, t5, t6, t7, t8, t9, t10, t11, t12, s0, s1, s2, s3, s4, s5, s6]
      refine ev_ifb_eq 30 45 dX11_time_30 rfl (fun h30 => ?_) (fun h30 => ?_)
      · refine ev_iconst 45 dX11_time_45 ⟨by decide, by decide⟩ ?_
        refine ev_iret 46 dX11_time_46 ?_ rfl
        exact QG_of ⟨(if_neg (by omega)).symm, hsn, SX.rf⟩
      · refine ev_aload_0 33 dX11_time_33 ?_
        refine ev_getA 34 1 dX11_time_34 fa_X11_19 (kd_0 hZ) (pr_0_1 hP) rfl ?_
        refine ev_iload_4 37 dX11_time_37 ?_
        refine ev_cVp_1 39 dX11_time_39 kmX6_isPlace lk_X11_204 (kd_4 hZ) (c_isPlace hZ hP hT0 hT _) rfl rfl ?_
        try simp only [aT, t1, t2, t3, t4, t5, t6, t7, t8, t9, t10, t11, t12, s0, s1, s2, s3, s4, s5, s6]
        refine ev_ifb_ne 42 47 dX11_time_42 rfl (fun h42 => ?_) (fun h42 => ?_)
        · have hg : gr α (24 * x + y) := ⟨by omega, by omega, by omega⟩
          refine ev_aload_0 47 dX11_time_47 ?_
          refine ev_getA 48 6 dX11_time_48 fa_X11_50 (kd_0 hZ) (pr_0_6 hP) rfl ?_
          refine ev_iload_1 51 dX11_time_51 ?_
          refine ev_iload_2 52 dX11_time_52 ?_
          refine ev_cSp_2 53 dX11_time_53 kmX11_spotOf lk_X11_207 (c_spotOf _ _ (by omega)) rfl rfl ?_
          try simp only [aT, t1, t2, t3, t4, t5, t6, t7, t8, t9, t10, t11, t12, s0, s1, s2, s3, s4, s5, s6]
          refine Ev.mono (bc' := 0 + 2 * nn P) (bs' := 0 + 194 * nn P) (by omega) (by omega) ?_
          refine ev_cVa_1 56 dX11_time_56 kmX7_rowFrom lk_X11_250 (kd_101 hZ) (c_rowFrom hsn hg) rfl rfl (fun x56 Z56 I56 P56 f56 _ _ => ?_)
          obtain ⟨hsn1, sx, hr, hlt, h3, hkn, hd⟩ := f56
          refine Ev.rows sx.2.2.2.2.2.1 sx.2.2.2.2.2.2 ?_
          have hZ := hsn1.1
          have hP := hsn1.2.1
          have hT0 := hsn1.2.2.1
          refine ev_iload_3 59 dX11_time_59 ?_
          refine ev_iload_4 60 dX11_time_60 ?_
          refine ev_cSp_2 62 dX11_time_62 kmX11_spotOf lk_X11_207 (c_spotOf _ _ (by omega)) rfl rfl ?_
          try simp only [aT, t1, t2, t3, t4, t5, t6, t7, t8, t9, t10, t11, t12, s0, s1, s2, s3, s4, s5, s6]
          refine ev_cVp_1 65 dX11_time_65 kmX5_beatsTo lk_X11_254 hr.1 (c_beatsTo hr _) rfl rfl ?_
          try simp only [aT, t1, t2, t3, t4, t5, t6, t7, t8, t9, t10, t11, t12, s0, s1, s2, s3, s4, s5, s6]
          rw [if_pos (by omega), hd _ (by omega) (by omega)]
          refine ev_istore_5 68 dX11_time_68 rfl rfl ?_
          refine ev_iload_5 70 dX11_time_70 ?_
          refine ev_ldcw 72 dX11_time_72 kc_X11_260 ⟨by decide, by decide⟩ ?_
          refine ev_icmp_ge 75 83 dX11_time_75 rfl (fun h75 => ?_) (fun h75 => ?_)
          · refine ev_bipush 83 dX11_time_83 ⟨by decide, by decide⟩ ?_
            refine ev_iret 85 dX11_time_85 ?_ rfl
            first
              | exact QG_of ⟨((if_pos (by omega)).trans (if_pos (by omega))).symm, hsn1, sx⟩
              | exact QG_of ⟨((if_pos (by omega)).trans (if_neg (by omega))).symm, hsn1, sx⟩
          · refine ev_iload_5 78 dX11_time_78 ?_
            refine ev_goto 80 85 dX11_time_80 rfl ?_
            refine ev_iret 85 dX11_time_85 ?_ rfl
            first
              | exact QG_of ⟨((if_pos (by omega)).trans (if_pos (by omega))).symm, hsn1, sx⟩
              | exact QG_of ⟨((if_pos (by omega)).trans (if_neg (by omega))).symm, hsn1, sx⟩
        · refine ev_iconst 45 dX11_time_45 ⟨by decide, by decide⟩ ?_
          refine ev_iret 46 dX11_time_46 ?_ rfl
          exact QG_of ⟨(if_neg (by omega)).symm, hsn, SX.rf⟩
theorem c_hears {l : Launch} {g : Gt} {d : Nat} {Z : Zt} {I : It} {P : Pt'} {T : Nat} {α σ : Nat → Int → Int} (hsn : SN T α Z I P) (hS : VS I σ) (hWS : WS α σ) (t b : Int) : Mt l g mX11_hears (d + 3) (2 * nn P) (194 * nn P) [vA 0, vI t, vI b] Z I P (QG (fun r Z' I' P' => r = hrA 1000000 α σ t b ∧ SN T α Z' I' P' ∧ SX Z I P Z' I' P')) := by
  have hZ := hsn.1
  have hP := hsn.2.1
  have hT0 := hsn.2.2.1
  have hT := hsn.2.2.2.1
  have hW := hsn.2.2.2.2.2.1
  have w0 := hW.1
  have w1 := hW.2.1
  have w5 := hW.2.2.1
  have a0 : I T 0 = α 0 0 := hsn.2.2.2.2.1.at 0
  have a1 : I T 1 = α 0 1 := hsn.2.2.2.2.1.at 1
  have a5 : I T 5 = α 0 5 := hsn.2.2.2.2.1.at 5
  have a4 : I (T + 4) = α 4 := hsn.2.2.2.2.1 4 (by omega)
  have s1 : I 19 = σ 1 := hS 1 (by omega)
  have s2 : I 20 = σ 2 := hS 2 (by omega)
  clear s1 s2
  have aT : I T = α 0 := hsn.2.2.2.2.1 0 (by omega)
  have t1 : I (T + 1) = α 1 := hsn.2.2.2.2.1 1 (by omega)
  have t2 : I (T + 2) = α 2 := hsn.2.2.2.2.1 2 (by omega)
  have t3 : I (T + 3) = α 3 := hsn.2.2.2.2.1 3 (by omega)
  have t4 : I (T + 4) = α 4 := hsn.2.2.2.2.1 4 (by omega)
  have t5 : I (T + 5) = α 5 := hsn.2.2.2.2.1 5 (by omega)
  have t6 : I (T + 6) = α 6 := hsn.2.2.2.2.1 6 (by omega)
  have t7 : I (T + 7) = α 7 := hsn.2.2.2.2.1 7 (by omega)
  have t8 : I (T + 8) = α 8 := hsn.2.2.2.2.1 8 (by omega)
  have t9 : I (T + 9) = α 9 := hsn.2.2.2.2.1 9 (by omega)
  have t10 : I (T + 10) = α 10 := hsn.2.2.2.2.1 10 (by omega)
  have t11 : I (T + 11) = α 11 := hsn.2.2.2.2.1 11 (by omega)
  have t12 : I (T + 12) = α 12 := hsn.2.2.2.2.1 12 (by omega)
  have s0 : I 18 = σ 0 := hS 0 (by omega)
  have s1 : I 19 = σ 1 := hS 1 (by omega)
  have s2 : I 20 = σ 2 := hS 2 (by omega)
  have s3 : I 21 = σ 3 := hS 3 (by omega)
  have s4 : I 22 = σ 4 := hS 4 (by omega)
  have s5 : I 23 = σ 5 := hS 5 (by omega)
  have s6 : I 24 = σ 6 := hS 6 (by omega)
  refine Mt.of kmX11_hears (ls := [vA 0, vI t, vI b, vX, vX, vX]) (fun _ => rfl) (fun _ => rfl) (okf_k (okf_k (okf_k (okf_n rfl)))) (fun hok => ?_)
  have loop : ((0 ≤ t ∧ t < α 0 5) ∧ (0 ≤ b ∧ b ≤ 99)) → σ 2 t = 0 → ∀ (Z1 : Zt) (I1 : It) (P1 : Pt') (R : Nat), SN T α Z1 I1 P1 → SX Z I P Z1 I1 P1 → RowAt Z1 P1 R → (∀ v, 0 ≤ v → v < 192 → I1 (R + 1) v = dS 1000000 α (24 * α 4 t + σ 1 t) v) → ∀ (k n : Nat), (n : Int) + k = α 0 5 → Ev l g mX11_hears (d + 3) (2 * nn P1) (194 * nn P1) Z1 I1 P1 63 [vA 0, vI t, vI b, vA R, vI ((bF (fun u => u ≠ t ∧ σ 2 u = 0 ∧ dS 1000000 α (24 * α 4 t + σ 1 t) (24 * α 4 u + σ 1 u) ≤ b) n : Nat) : Int), vI n] [] (QG (fun r Z' I' P' => r = hrA 1000000 α σ t b ∧ SN T α Z' I' P' ∧ SX Z I P Z' I' P')) := by
    intro hgd hct Z1 I1 P1 R hsn sx hr hd k
    have hZ := hsn.1
    have hP := hsn.2.1
    have hT0 := hsn.2.2.1
    have hS := sx.sy.vs hS
    have a0 : I1 T 0 = α 0 0 := hsn.2.2.2.2.1.at 0
    have a1 : I1 T 1 = α 0 1 := hsn.2.2.2.2.1.at 1
    have a5 : I1 T 5 = α 0 5 := hsn.2.2.2.2.1.at 5
    have a4 : I1 (T + 4) = α 4 := hsn.2.2.2.2.1 4 (by omega)
    have s1 : I1 19 = σ 1 := hS 1 (by omega)
    have s2 : I1 20 = σ 2 := hS 2 (by omega)
    induction k with
    | zero =>
      intro n h1
      refine ev_iload_5 63 dX11_hears_63 ?_
      refine ev_aload_0 65 dX11_hears_65 ?_
      refine ev_getA 66 1 dX11_hears_66 fa_X11_19 (kd_0 hZ) (pr_0_1 hP) rfl ?_
      refine ev_getA 69 0 dX11_hears_69 fa_X11_122 (kd_4 hZ) hT0 rfl ?_
      refine ev_gI 72 5 5 dX11_hears_72 fa_X11_264 (kdT_0 hZ hT) rfl rfl rfl ?_
      try simp only [a5]
      refine ev_icmp_ge 75 135 dX11_hears_75 rfl (fun h75 => ?_) (fun h75 => ?_)
      · refine ev_iload_4 135 dX11_hears_135 ?_
        refine ev_iret 137 dX11_hears_137 ?_ rfl
        refine QG_of ⟨?_, hsn, sx⟩
        unfold hrA
        rw [if_pos hgd, if_pos hct, show (α 0 5).toNat = n by omega]
      · exfalso; omega
    | succ k ih =>
      intro n h1
      have m1 := hW.2.2.2.2.2.2.1 (n : Int) (by omega) (by omega)
      have m2 := hWS.2.2.1 (n : Int) (by omega) (by omega)
      have n129 : ∀ x : Int, x = ((bF (fun u => u ≠ t ∧ σ 2 u = 0 ∧ dS 1000000 α (24 * α 4 t + σ 1 t) (24 * α 4 u + σ 1 u) ≤ b) (n + 1) : Nat) : Int) → Ev l g mX11_hears (d + 3) (2 * nn P1) (194 * nn P1) Z1 I1 P1 129 [vA 0, vI t, vI b, vA R, vI x, vI n] [] (QG (fun r Z' I' P' => r = hrA 1000000 α σ t b ∧ SN T α Z' I' P' ∧ SX Z I P Z' I' P')) := by
        intro x e
        subst e
        refine ev_iinc_5 129 dX11_hears_129 ⟨by omega, by omega⟩ rfl rfl ?_
        refine ev_goto 132 63 dX11_hears_132 rfl ?_
        rw [show (n : Int) + 1 = ((n + 1 : Nat) : Int) by omega]
        exact ih (n + 1) (by omega)
      have hb31 := bF_31 (p := (fun u => u ≠ t ∧ σ 2 u = 0 ∧ dS 1000000 α (24 * α 4 t + σ 1 t) (24 * α 4 u + σ 1 u) ≤ b)) (n := n) (by omega)
      refine ev_iload_5 63 dX11_hears_63 ?_
      refine ev_aload_0 65 dX11_hears_65 ?_
      refine ev_getA 66 1 dX11_hears_66 fa_X11_19 (kd_0 hZ) (pr_0_1 hP) rfl ?_
      refine ev_getA 69 0 dX11_hears_69 fa_X11_122 (kd_4 hZ) hT0 rfl ?_
      refine ev_gI 72 5 5 dX11_hears_72 fa_X11_264 (kdT_0 hZ hT) rfl rfl rfl ?_
      try simp only [a5, s2, a4, s1]
      refine ev_icmp_ge 75 135 dX11_hears_75 rfl (fun h75 => ?_) (fun h75 => ?_)
      · exfalso; omega
      · refine ev_iload_5 78 dX11_hears_78 ?_
        refine ev_iload_1 80 dX11_hears_80 ?_
        refine ev_icmp_eq 81 129 dX11_hears_81 rfl (fun h81 => ?_) (fun h81 => ?_)
        · first
            | exact n129 _ (by rw [bF_t ⟨by omega, by omega, by omega⟩])
            | exact n129 _ (by rw [bF_f (fun z => by have z1 := z.1; have z2 := z.2.1; have z3 := z.2.2; omega)])
        · refine ev_aload_0 84 dX11_hears_84 ?_
          refine ev_getA 85 1 dX11_hears_85 fa_X11_19 (kd_0 hZ) (pr_0_1 hP) rfl ?_
          refine ev_getA 88 1 dX11_hears_88 fa_X11_147 (kd_4 hZ) (pr_4_1 hP) rfl ?_
          refine ev_getA 91 3 dX11_hears_91 fa_X11_162 (kd_18 hZ) (pr_18_3 hP) rfl ?_
          refine ev_iload_5 94 dX11_hears_94 ?_
          refine ev_zald 96 dX11_hears_96 (kd_20 hZ) ⟨by omega, by have := (ln_20 hZ); omega⟩ ?_
          try simp only [a5, s2, a4, s1]
          refine ev_if_eq 97 103 dX11_hears_97 rfl (fun h97 => ?_) (fun h97 => ?_)
          · refine ev_aload_3 103 dX11_hears_103 ?_
            refine ev_aload_0 104 dX11_hears_104 ?_
            refine ev_getA 105 1 dX11_hears_105 fa_X11_19 (kd_0 hZ) (pr_0_1 hP) rfl ?_
            refine ev_iload_5 108 dX11_hears_108 ?_
            refine ev_cVp_1 110 dX11_hears_110 kmX6_townSpot lk_X11_261 (kd_4 hZ) (c_townSpot hZ hP hT0 hT _ (by omega) (by rw [a4]; omega) (by rw [s1]; omega)) rfl rfl ?_
            try simp only [a5, s2, a4, s1]
            refine ev_cVp_1 113 dX11_hears_113 kmX5_beatsTo lk_X11_254 hr.1 (c_beatsTo hr _) rfl rfl ?_
            try simp only [a5, s2, a4, s1]
            rw [if_pos (by omega), hd _ (by omega) (by omega)]
            refine ev_iload_2 116 dX11_hears_116 ?_
            refine ev_icmp_gt 117 129 dX11_hears_117 rfl (fun h117 => ?_) (fun h117 => ?_)
            · first
                | exact n129 _ (by rw [bF_t ⟨by omega, by omega, by omega⟩])
                | exact n129 _ (by rw [bF_f (fun z => by have z1 := z.1; have z2 := z.2.1; have z3 := z.2.2; omega)])
            · refine ev_iload_4 120 dX11_hears_120 ?_
              refine ev_iconst 122 dX11_hears_122 ⟨by decide, by decide⟩ ?_
              refine ev_iload_5 123 dX11_hears_123 ?_
              refine ev_ishl 125 dX11_hears_125 ⟨by omega, by omega⟩ ?_
              rw [show (n : Int).toNat = n by omega]
              refine ev_ior 126 dX11_hears_126 hb31.1 hb31.2 ?_
              refine ev_istore_4 127 dX11_hears_127 rfl rfl ?_
              first
                | exact n129 _ (by rw [bF_t ⟨by omega, by omega, by omega⟩])
                | exact n129 _ (by rw [bF_f (fun z => by have z1 := z.1; have z2 := z.2.1; have z3 := z.2.2; omega)])
          · refine ev_goto 100 129 dX11_hears_100 rfl ?_
            first
              | exact n129 _ (by rw [bF_t ⟨by omega, by omega, by omega⟩])
              | exact n129 _ (by rw [bF_f (fun z => by have z1 := z.1; have z2 := z.2.1; have z3 := z.2.2; omega)])
  refine ev_aload_0 0 dX11_hears_0 ?_
  refine ev_getA 1 1 dX11_hears_1 fa_X11_19 (kd_0 hZ) (pr_0_1 hP) rfl ?_
  refine ev_iload_1 4 dX11_hears_4 ?_
  refine ev_cVp_1 5 dX11_hears_5 kmX6_isTown lk_X11_141 (kd_4 hZ) (c_isTown hZ hP hT0 hT _) rfl rfl ?_
  try simp only [aT, t1, t2, t3, t4, t5, t6, t7, t8, t9, t10, t11, t12, s0, s1, s2, s3, s4, s5, s6]
  refine ev_ifb_eq 8 21 dX11_hears_8 rfl (fun h8 => ?_) (fun h8 => ?_)
  · refine ev_iconst 21 dX11_hears_21 ⟨by decide, by decide⟩ ?_
    refine ev_iret 22 dX11_hears_22 ?_ rfl
    exact QG_of ⟨(if_neg (by omega)).symm, hsn, SX.rf⟩
  · refine ev_iload_2 11 dX11_hears_11 ?_
    refine ev_iconst 12 dX11_hears_12 ⟨by decide, by decide⟩ ?_
    refine ev_bipush 13 dX11_hears_13 ⟨by decide, by decide⟩ ?_
    refine ev_cSp_3 15 dX11_hears_15 kmX11_within lk_X11_111 (c_within _ _ _) rfl rfl ?_
    try simp only [aT, t1, t2, t3, t4, t5, t6, t7, t8, t9, t10, t11, t12, s0, s1, s2, s3, s4, s5, s6]
    refine ev_ifb_ne 18 23 dX11_hears_18 rfl (fun h18 => ?_) (fun h18 => ?_)
    · refine ev_aload_0 23 dX11_hears_23 ?_
      refine ev_getA 24 1 dX11_hears_24 fa_X11_19 (kd_0 hZ) (pr_0_1 hP) rfl ?_
      refine ev_getA 27 1 dX11_hears_27 fa_X11_147 (kd_4 hZ) (pr_4_1 hP) rfl ?_
      refine ev_getA 30 3 dX11_hears_30 fa_X11_162 (kd_18 hZ) (pr_18_3 hP) rfl ?_
      refine ev_iload_1 33 dX11_hears_33 ?_
      refine ev_zald 34 dX11_hears_34 (kd_20 hZ) ⟨by omega, by have := (ln_20 hZ); omega⟩ ?_
      try simp only [aT, t1, t2, t3, t4, t5, t6, t7, t8, t9, t10, t11, t12, s0, s1, s2, s3, s4, s5, s6]
      refine ev_if_eq 35 41 dX11_hears_35 rfl (fun h35 => ?_) (fun h35 => ?_)
      · have m1 := hW.2.2.2.2.2.2.1 t (by omega) (by omega)
        have m2 := hWS.2.2.1 t (by omega) (by omega)
        have hg := tsp_gr hW hWS (t := t) (by omega)
        refine ev_aload_0 41 dX11_hears_41 ?_
        refine ev_getA 42 6 dX11_hears_42 fa_X11_50 (kd_0 hZ) (pr_0_6 hP) rfl ?_
        refine ev_aload_0 45 dX11_hears_45 ?_
        refine ev_getA 46 1 dX11_hears_46 fa_X11_19 (kd_0 hZ) (pr_0_1 hP) rfl ?_
        refine ev_iload_1 49 dX11_hears_49 ?_
        refine ev_cVp_1 50 dX11_hears_50 kmX6_townSpot lk_X11_261 (kd_4 hZ) (c_townSpot hZ hP hT0 hT _ (by omega) (by rw [a4]; omega) (by rw [s1]; omega)) rfl rfl ?_
        try simp only [aT, t1, t2, t3, t4, t5, t6, t7, t8, t9, t10, t11, t12, s0, s1, s2, s3, s4, s5, s6]
        refine Ev.mono (bc' := 0 + 2 * nn P) (bs' := 0 + 194 * nn P) (by omega) (by omega) ?_
        refine ev_cVa_1 53 dX11_hears_53 kmX7_rowFrom lk_X11_250 (kd_101 hZ) (c_rowFrom hsn hg) rfl rfl (fun x53 Z53 I53 P53 f53 _ _ => ?_)
        obtain ⟨hsn1, sx, hr, hlt, h3, hkn, hd⟩ := f53
        refine Ev.rows sx.2.2.2.2.2.1 sx.2.2.2.2.2.2 ?_
        have hZ := hsn1.1
        have hP := hsn1.2.1
        have hT0 := hsn1.2.2.1
        refine ev_astore_3 56 dX11_hears_56 rfl rfl ?_
        refine ev_iconst 57 dX11_hears_57 ⟨by decide, by decide⟩ ?_
        refine ev_istore_4 58 dX11_hears_58 rfl rfl ?_
        refine ev_iconst 60 dX11_hears_60 ⟨by decide, by decide⟩ ?_
        refine ev_istore_5 61 dX11_hears_61 rfl rfl ?_
        exact loop (by omega) (by omega) _ _ _ _ hsn1 sx hr hd (α 0 5).toNat 0 (by omega)
      · refine ev_bipush 38 dX11_hears_38 ⟨by decide, by decide⟩ ?_
        refine ev_iret 40 dX11_hears_40 ?_ rfl
        exact QG_of ⟨((if_pos (by omega)).trans (if_neg (by omega))).symm, hsn, SX.rf⟩
    · refine ev_iconst 21 dX11_hears_21 ⟨by decide, by decide⟩ ?_
      refine ev_iret 22 dX11_hears_22 ?_ rfl
      exact QG_of ⟨(if_neg (by omega)).symm, hsn, SX.rf⟩
theorem cnt_to {p : Int → Prop} {v w : Int} (h0 : 0 ≤ v) (h1 : v ≤ w) (hk : ∀ u, v ≤ u → u < w → ¬ p u) : cnt p v.toNat = cnt p w.toNat := by
  have : ∀ k : Nat, (∀ u, v ≤ u → u < v + k → ¬ p u) → cnt p v.toNat = cnt p (v + k).toNat := by
    intro k
    induction k with
    | zero => intro _; rw [show v + ((0 : Nat) : Int) = v by omega]
    | succ k ih =>
      intro h
      rw [ih (fun u a b => h u a (by omega)), show v + ((k + 1 : Nat) : Int) = v + k + 1 by omega, cnt_st (by omega), b2_f (h (v + k) (by omega) (by omega))]; omega
  have := this (w - v).toNat (fun u a b => hk u a (by omega))
  rw [show v + ((w - v).toNat : Int) = w by omega] at this; exact this
theorem c_shadow {l : Launch} {g : Gt} {d : Nat} {Z : Zt} {I : It} {P : Pt'} {T : Nat} {α σ : Nat → Int → Int} (hsn : SN T α Z I P) (hS : VS I σ) (hWS : WS α σ) (t : Int) : Mt l g mX11_shadow (d + 3) (2 * nn P) (194 * nn P) [vA 0, vI t] Z I P (QG (fun r Z' I' P' => r = shA 1000000 α σ t ∧ SN T α Z' I' P' ∧ SX Z I P Z' I' P')) := by
  have hZ := hsn.1
  have hP := hsn.2.1
  have hT0 := hsn.2.2.1
  have hT := hsn.2.2.2.1
  have hW := hsn.2.2.2.2.2.1
  have w0 := hW.1
  have w1 := hW.2.1
  have w5 := hW.2.2.1
  have a0 : I T 0 = α 0 0 := hsn.2.2.2.2.1.at 0
  have a1 : I T 1 = α 0 1 := hsn.2.2.2.2.1.at 1
  have a5 : I T 5 = α 0 5 := hsn.2.2.2.2.1.at 5
  have a4 : I (T + 4) = α 4 := hsn.2.2.2.2.1 4 (by omega)
  have s1 : I 19 = σ 1 := hS 1 (by omega)
  have s2 : I 20 = σ 2 := hS 2 (by omega)
  clear s1 s2
  have aT : I T = α 0 := hsn.2.2.2.2.1 0 (by omega)
  have t1 : I (T + 1) = α 1 := hsn.2.2.2.2.1 1 (by omega)
  have t2 : I (T + 2) = α 2 := hsn.2.2.2.2.1 2 (by omega)
  have t3 : I (T + 3) = α 3 := hsn.2.2.2.2.1 3 (by omega)
  have t4 : I (T + 4) = α 4 := hsn.2.2.2.2.1 4 (by omega)
  have t5 : I (T + 5) = α 5 := hsn.2.2.2.2.1 5 (by omega)
  have t6 : I (T + 6) = α 6 := hsn.2.2.2.2.1 6 (by omega)
  have t7 : I (T + 7) = α 7 := hsn.2.2.2.2.1 7 (by omega)
  have t8 : I (T + 8) = α 8 := hsn.2.2.2.2.1 8 (by omega)
  have t9 : I (T + 9) = α 9 := hsn.2.2.2.2.1 9 (by omega)
  have t10 : I (T + 10) = α 10 := hsn.2.2.2.2.1 10 (by omega)
  have t11 : I (T + 11) = α 11 := hsn.2.2.2.2.1 11 (by omega)
  have t12 : I (T + 12) = α 12 := hsn.2.2.2.2.1 12 (by omega)
  have s0 : I 18 = σ 0 := hS 0 (by omega)
  have s1 : I 19 = σ 1 := hS 1 (by omega)
  have s2 : I 20 = σ 2 := hS 2 (by omega)
  have s3 : I 21 = σ 3 := hS 3 (by omega)
  have s4 : I 22 = σ 4 := hS 4 (by omega)
  have s5 : I 23 = σ 5 := hS 5 (by omega)
  have s6 : I 24 = σ 6 := hS 6 (by omega)
  refine Mt.of kmX11_shadow (ls := [vA 0, vI t, vX, vX, vX, vX, vX]) (fun _ => rfl) (fun _ => rfl) (okf_k (okf_k (okf_n rfl))) (fun hok => ?_)
  have outer : ((0 ≤ t ∧ t < α 0 5) ∧ σ 2 t = 0) → ∀ (Z1 : Zt) (I1 : It) (P1 : Pt') (R : Nat), SN T α Z1 I1 P1 → SX Z I P Z1 I1 P1 → RowAt Z1 P1 R → (∀ v, 0 ≤ v → v < 192 → I1 (R + 1) v = dS 1000000 α (24 * α 4 t + σ 1 t) v) →  ∀ (k : Nat) (L s : Int) (vx vy : Vv), 0 ≤ L → L + k = α 0 1 → s = cnt (fun v => op α v ∧ 1000000 ≤ dS 1000000 α (24 * α 4 t + σ 1 t) v) (24 * L).toNat → Ev l g mX11_shadow (d + 3) (2 * nn P1) (194 * nn P1) Z1 I1 P1 52 [vA 0, vI t, vA R, vI s, vI L, vx, vy] [] (QG (fun r Z' I' P' => r = shA 1000000 α σ t ∧ SN T α Z' I' P' ∧ SX Z I P Z' I' P')) := by
    intro hgd Z1 I1 P1 R hsn sx hr hd k
    have hZ := hsn.1
    have hP := hsn.2.1
    have hT0 := hsn.2.2.1
    have hS := sx.sy.vs hS
    have a0 : I1 T 0 = α 0 0 := hsn.2.2.2.2.1.at 0
    have a1 : I1 T 1 = α 0 1 := hsn.2.2.2.2.1.at 1
    have a5 : I1 T 5 = α 0 5 := hsn.2.2.2.2.1.at 5
    have a4 : I1 (T + 4) = α 4 := hsn.2.2.2.2.1 4 (by omega)
    have s1 : I1 19 = σ 1 := hS 1 (by omega)
    have s2 : I1 20 = σ 2 := hS 2 (by omega)
    induction k with
    | zero =>
      intro L s vx vy h0 h1 e
      refine ev_iload_4 52 dX11_shadow_52 ?_
      refine ev_aload_0 54 dX11_shadow_54 ?_
      refine ev_getA 55 1 dX11_shadow_55 fa_X11_19 (kd_0 hZ) (pr_0_1 hP) rfl ?_
      refine ev_getA 58 0 dX11_shadow_58 fa_X11_122 (kd_4 hZ) hT0 rfl ?_
      refine ev_gI 61 1 1 dX11_shadow_61 fa_X11_125 (kdT_0 hZ hT) rfl rfl rfl ?_
      try simp only [a1]
      refine ev_icmp_ge 64 133 dX11_shadow_64 rfl (fun h64 => ?_) (fun h64 => ?_)
      · refine ev_iload_3 133 dX11_shadow_133 ?_
        refine ev_iret 134 dX11_shadow_134 ?_ rfl
        refine QG_of ⟨?_, hsn, sx⟩
        unfold shA
        rw [if_pos hgd.1, if_pos hgd.2, e]
        have e9 := cnt_to (p := (fun v => op α v ∧ 1000000 ≤ dS 1000000 α (24 * α 4 t + σ 1 t) v)) (v := 24 * L) (w := 192) (by omega) (by omega) (fun u z1 z2 z3 => by have := z3.1.1.2.1; omega)
        rw [show (192 : Int).toNat = 192 from rfl] at e9
        exact e9
      · exfalso; omega
    | succ k ih =>
      intro L s vx vy h0 h1 e
      have inner : ∀ (k : Nat) (x s : Int) (vy : Vv), 0 ≤ x → x + k = α 0 0 → s = cnt (fun v => op α v ∧ 1000000 ≤ dS 1000000 α (24 * α 4 t + σ 1 t) v) (24 * L + x).toNat → Ev l g mX11_shadow (d + 3) (2 * nn P1) (194 * nn P1) Z1 I1 P1 70 [vA 0, vI t, vA R, vI s, vI L, vI x, vy] [] (QG (fun r Z' I' P' => r = shA 1000000 α σ t ∧ SN T α Z' I' P' ∧ SX Z I P Z' I' P')) := by
        intro k
        induction k with
        | zero =>
          intro x s vy j0 j1 e
          refine ev_iload_5 70 dX11_shadow_70 ?_
          refine ev_aload_0 72 dX11_shadow_72 ?_
          refine ev_getA 73 1 dX11_shadow_73 fa_X11_19 (kd_0 hZ) (pr_0_1 hP) rfl ?_
          refine ev_getA 76 0 dX11_shadow_76 fa_X11_122 (kd_4 hZ) hT0 rfl ?_
          refine ev_gI 79 0 0 dX11_shadow_79 fa_X11_267 (kdT_0 hZ hT) rfl rfl rfl ?_
          try simp only [a0]
          refine ev_icmp_ge 82 127 dX11_shadow_82 rfl (fun h82 => ?_) (fun h82 => ?_)
          · refine ev_iinc_4 127 dX11_shadow_127 ⟨by omega, by omega⟩ rfl rfl ?_
            refine ev_goto 130 52 dX11_shadow_130 rfl ?_
            exact ih _ _ _ _ (by omega) (by omega) (by rw [e]; exact (cnt_to (by omega) (by omega) (fun u z1 z2 z3 => by have := z3.1.1.2.2; omega)))
          · exfalso; omega
        | succ k ih2 =>
          intro x s vy j0 j1 e
          have hg : gr α (24 * L + x) := ⟨by omega, by omega, by omega⟩
          have hsh := hsn.2.2.2.2.2.2.2.2.2 _ hg
          have hcr := cnt_r (fun v => op α v ∧ 1000000 ≤ dS 1000000 α (24 * α 4 t + σ 1 t) v) (24 * L + x).toNat
          rw [← e] at hcr
          have n121 : ∀ (s : Int) (vy : Vv), s = cnt (fun v => op α v ∧ 1000000 ≤ dS 1000000 α (24 * α 4 t + σ 1 t) v) (24 * L + (x + 1)).toNat → Ev l g mX11_shadow (d + 3) (2 * nn P1) (194 * nn P1) Z1 I1 P1 121 [vA 0, vI t, vA R, vI s, vI L, vI x, vy] [] (QG (fun r Z' I' P' => r = shA 1000000 α σ t ∧ SN T α Z' I' P' ∧ SX Z I P Z' I' P')) := by
            intro s vy e
            refine ev_iinc_5 121 dX11_shadow_121 ⟨by omega, by omega⟩ rfl rfl ?_
            refine ev_goto 124 70 dX11_shadow_124 rfl ?_
            exact ih2 _ _ _ (by omega) (by omega) e
          have cs : cnt (fun v => op α v ∧ 1000000 ≤ dS 1000000 α (24 * α 4 t + σ 1 t) v) (24 * L + (x + 1)).toNat = s + b2 ((fun v => op α v ∧ 1000000 ≤ dS 1000000 α (24 * α 4 t + σ 1 t) v) (24 * L + x)) := by
            rw [show 24 * L + (x + 1) = 24 * L + x + 1 by omega, cnt_st (by omega), e]
          refine ev_iload_5 70 dX11_shadow_70 ?_
          refine ev_aload_0 72 dX11_shadow_72 ?_
          refine ev_getA 73 1 dX11_shadow_73 fa_X11_19 (kd_0 hZ) (pr_0_1 hP) rfl ?_
          refine ev_getA 76 0 dX11_shadow_76 fa_X11_122 (kd_4 hZ) hT0 rfl ?_
          refine ev_gI 79 0 0 dX11_shadow_79 fa_X11_267 (kdT_0 hZ hT) rfl rfl rfl ?_
          try simp only [a0]
          refine ev_icmp_ge 82 127 dX11_shadow_82 rfl (fun h82 => ?_) (fun h82 => ?_)
          · exfalso; omega
          · refine ev_iload_4 85 dX11_shadow_85 ?_
            refine ev_iload_5 87 dX11_shadow_87 ?_
            refine ev_cSp_2 89 dX11_shadow_89 kmX11_spotOf lk_X11_207 (c_spotOf _ _ (by omega)) rfl rfl ?_
            try simp only [a0]
            refine ev_istore_6 92 dX11_shadow_92 rfl rfl ?_
            refine ev_aload_0 94 dX11_shadow_94 ?_
            refine ev_getA 95 6 dX11_shadow_95 fa_X11_50 (kd_0 hZ) (pr_0_6 hP) rfl ?_
            refine ev_iload_6 98 dX11_shadow_98 ?_
            refine ev_cVp_1 100 dX11_shadow_100 kmX7_isOpen lk_X11_211 (kd_101 hZ) (c_isOpen hZ hP _) rfl rfl ?_
            try simp only [a0]
            refine ev_ifb_eq 103 121 dX11_shadow_103 rfl (fun h103 => ?_) (fun h103 => ?_)
            · first
                | exact n121 _ _ (by rw [cs, b2_t ⟨⟨hg, hsh.mp (by omega)⟩, by omega⟩])
                | exact n121 _ _ (by rw [cs, b2_f (fun z => by have z1 := hsh.mpr z.1.2; have z2 := z.2; omega)]; omega)
            · refine ev_aload_2 106 dX11_shadow_106 ?_
              refine ev_iload_6 107 dX11_shadow_107 ?_
              refine ev_cVp_1 109 dX11_shadow_109 kmX5_beatsTo lk_X11_254 hr.1 (c_beatsTo hr _) rfl rfl ?_
              try simp only [a0]
              rw [if_pos (by omega), hd _ (by omega) (by omega)]
              refine ev_ldcw 112 dX11_shadow_112 kc_X11_260 ⟨by decide, by decide⟩ ?_
              refine ev_icmp_lt 115 121 dX11_shadow_115 rfl (fun h115 => ?_) (fun h115 => ?_)
              · first
                  | exact n121 _ _ (by rw [cs, b2_t ⟨⟨hg, hsh.mp (by omega)⟩, by omega⟩])
                  | exact n121 _ _ (by rw [cs, b2_f (fun z => by have z1 := hsh.mpr z.1.2; have z2 := z.2; omega)]; omega)
              · refine ev_iinc_3 118 dX11_shadow_118 ⟨by omega, by omega⟩ rfl rfl ?_
                first
                  | exact n121 _ _ (by rw [cs, b2_t ⟨⟨hg, hsh.mp (by omega)⟩, by omega⟩])
                  | exact n121 _ _ (by rw [cs, b2_f (fun z => by have z1 := hsh.mpr z.1.2; have z2 := z.2; omega)]; omega)
      refine ev_iload_4 52 dX11_shadow_52 ?_
      refine ev_aload_0 54 dX11_shadow_54 ?_
      refine ev_getA 55 1 dX11_shadow_55 fa_X11_19 (kd_0 hZ) (pr_0_1 hP) rfl ?_
      refine ev_getA 58 0 dX11_shadow_58 fa_X11_122 (kd_4 hZ) hT0 rfl ?_
      refine ev_gI 61 1 1 dX11_shadow_61 fa_X11_125 (kdT_0 hZ hT) rfl rfl rfl ?_
      try simp only [a1]
      refine ev_icmp_ge 64 133 dX11_shadow_64 rfl (fun h64 => ?_) (fun h64 => ?_)
      · exfalso; omega
      · refine ev_iconst 67 dX11_shadow_67 ⟨by decide, by decide⟩ ?_
        refine ev_istore_5 68 dX11_shadow_68 rfl rfl ?_
        exact inner (α 0 0).toNat 0 s _ (by omega) (by omega) (by rw [e, show 24 * L + 0 = 24 * L by omega])
  refine ev_aload_0 0 dX11_shadow_0 ?_
  refine ev_getA 1 1 dX11_shadow_1 fa_X11_19 (kd_0 hZ) (pr_0_1 hP) rfl ?_
  refine ev_iload_1 4 dX11_shadow_4 ?_
  refine ev_cVp_1 5 dX11_shadow_5 kmX6_isTown lk_X11_141 (kd_4 hZ) (c_isTown hZ hP hT0 hT _) rfl rfl ?_
  try simp only [aT, t1, t2, t3, t4, t5, t6, t7, t8, t9, t10, t11, t12, s0, s1, s2, s3, s4, s5, s6]
  refine ev_ifb_ne 8 13 dX11_shadow_8 rfl (fun h8 => ?_) (fun h8 => ?_)
  · refine ev_aload_0 13 dX11_shadow_13 ?_
    refine ev_getA 14 1 dX11_shadow_14 fa_X11_19 (kd_0 hZ) (pr_0_1 hP) rfl ?_
    refine ev_getA 17 1 dX11_shadow_17 fa_X11_147 (kd_4 hZ) (pr_4_1 hP) rfl ?_
    refine ev_getA 20 3 dX11_shadow_20 fa_X11_162 (kd_18 hZ) (pr_18_3 hP) rfl ?_
    refine ev_iload_1 23 dX11_shadow_23 ?_
    refine ev_zald 24 dX11_shadow_24 (kd_20 hZ) ⟨by omega, by have := (ln_20 hZ); omega⟩ ?_
    try simp only [aT, t1, t2, t3, t4, t5, t6, t7, t8, t9, t10, t11, t12, s0, s1, s2, s3, s4, s5, s6]
    refine ev_if_eq 25 31 dX11_shadow_25 rfl (fun h25 => ?_) (fun h25 => ?_)
    · have m1 := hW.2.2.2.2.2.2.1 t (by omega) (by omega)
      have m2 := hWS.2.2.1 t (by omega) (by omega)
      have hg := tsp_gr hW hWS (t := t) (by omega)
      refine ev_aload_0 31 dX11_shadow_31 ?_
      refine ev_getA 32 6 dX11_shadow_32 fa_X11_50 (kd_0 hZ) (pr_0_6 hP) rfl ?_
      refine ev_aload_0 35 dX11_shadow_35 ?_
      refine ev_getA 36 1 dX11_shadow_36 fa_X11_19 (kd_0 hZ) (pr_0_1 hP) rfl ?_
      refine ev_iload_1 39 dX11_shadow_39 ?_
      refine ev_cVp_1 40 dX11_shadow_40 kmX6_townSpot lk_X11_261 (kd_4 hZ) (c_townSpot hZ hP hT0 hT _ (by omega) (by rw [a4]; omega) (by rw [s1]; omega)) rfl rfl ?_
      try simp only [aT, t1, t2, t3, t4, t5, t6, t7, t8, t9, t10, t11, t12, s0, s1, s2, s3, s4, s5, s6]
      refine Ev.mono (bc' := 0 + 2 * nn P) (bs' := 0 + 194 * nn P) (by omega) (by omega) ?_
      refine ev_cVa_1 43 dX11_shadow_43 kmX7_rowFrom lk_X11_250 (kd_101 hZ) (c_rowFrom hsn hg) rfl rfl (fun x43 Z43 I43 P43 f43 _ _ => ?_)
      obtain ⟨hsn1, sx, hr, hlt, h3, hkn, hd⟩ := f43
      refine Ev.rows sx.2.2.2.2.2.1 sx.2.2.2.2.2.2 ?_
      have hZ := hsn1.1
      have hP := hsn1.2.1
      have hT0 := hsn1.2.2.1
      refine ev_astore_2 46 dX11_shadow_46 rfl rfl ?_
      refine ev_iconst 47 dX11_shadow_47 ⟨by decide, by decide⟩ ?_
      refine ev_istore_3 48 dX11_shadow_48 rfl rfl ?_
      refine ev_iconst 49 dX11_shadow_49 ⟨by decide, by decide⟩ ?_
      refine ev_istore_4 50 dX11_shadow_50 rfl rfl ?_
      exact outer ⟨by omega, by omega⟩ _ _ _ _ hsn1 sx hr hd (α 0 1).toNat 0 0 _ _ (by omega) (by omega) rfl
    · refine ev_bipush 28 dX11_shadow_28 ⟨by decide, by decide⟩ ?_
      refine ev_iret 30 dX11_shadow_30 ?_ rfl
      exact QG_of ⟨((if_pos (by omega)).trans (if_neg (by omega))).symm, hsn, SX.rf⟩
  · refine ev_iconst 11 dX11_shadow_11 ⟨by decide, by decide⟩ ?_
    refine ev_iret 12 dX11_shadow_12 ?_ rfl
    exact QG_of ⟨(if_neg (by omega)).symm, hsn, SX.rf⟩
theorem c_whence {l : Launch} {g : Gt} {d : Nat} {Z : Zt} {I : It} {P : Pt'} {T : Nat} {α σ : Nat → Int → Int} (hsn : SN T α Z I P) (hS : VS I σ) (hWS : WS α σ) (hn : 0 ≤ I 106 4 ∧ I 106 4 ≤ 6) (hτ : ∀ i, 0 ≤ i → i < I 106 4 → (0 ≤ I 107 i ∧ I 107 i < α 0 5) ∧ (0 ≤ I 108 i ∧ I 108 i ≤ 99)) (w : Int) : Mt l g mX11_whence (d + 5) (2 * nn P) (194 * nn P) [vA 0, vI w] Z I P (QG (fun r Z' I' P' => whA (fun v => op α v ∧ CS 1000000 α σ (I 106 4) (I 107) (I 108) v) w r ∧ SN T α Z' I' P' ∧ SY Z I P Z' I' P' ∧ ∀ j, j ≠ 5 → j ≠ 6 → I' 106 j = I 106 j)) := by
  have hZ := hsn.1
  have hP := hsn.2.1
  have hT0 := hsn.2.2.1
  have hT := hsn.2.2.2.1
  have hW := hsn.2.2.2.2.2.1
  have w0 := hW.1
  have w1 := hW.2.1
  have w5 := hW.2.2.1
  refine Mt.of kmX11_whence (ls := [vA 0, vI w]) (fun _ => rfl) (fun _ => rfl) (okf_k (okf_k (okf_n rfl))) (fun hok => ?_)
  refine ev_iload_1 0 dX11_whence_0 ?_
  refine ev_iconst 1 dX11_whence_1 ⟨by decide, by decide⟩ ?_
  refine ev_iconst 2 dX11_whence_2 ⟨by decide, by decide⟩ ?_
  refine ev_cSp_3 3 dX11_whence_3 kmX11_within lk_X11_111 (c_within _ _ _) rfl rfl ?_
  refine ev_ifb_ne 6 11 dX11_whence_6 rfl (fun h6 => ?_) (fun h6 => ?_)
  · refine ev_aload_0 11 dX11_whence_11 ?_
    refine ev_getA 12 7 dX11_whence_12 fa_X11_59 (kd_0 hZ) (pr_0_7 hP) rfl ?_
    refine Ev.mono (bc' := 0 + 2 * nn P) (bs' := 0 + 194 * nn P) (by omega) (by omega) ?_
    refine ev_cVw_0 15 dX11_whence_15 kmX2_seek lk_X11_274 (kd_106 hZ) (c_seek hsn hS hWS hn hτ) rfl rfl (fun Z15 I15 P15 f15 _ _ => ?_)
    obtain ⟨hsn1, sy1, sk, q4⟩ := f15
    refine Ev.rows sy1.2.2.2.2.2.1 sy1.2.2.2.2.2.2 ?_
    have hZ := hsn1.1
    have hP := hsn1.2.1
    refine ev_iload_1 18 dX11_whence_18 ?_
    refine ev_zne 19 32 dX11_whence_19 rfl (fun h19 => ?_) (fun h19 => ?_)
    · refine ev_aload_0 32 dX11_whence_32 ?_
      refine ev_getA 33 7 dX11_whence_33 fa_X11_59 (kd_0 hZ) (pr_0_7 hP) rfl ?_
      refine ev_gI 36 6 6 dX11_whence_36 fa_X11_280 (kd_106 hZ) rfl rfl rfl ?_
      refine ev_iret 39 dX11_whence_39 ?_ rfl
      first
        | exact QG_of ⟨Or.inl ⟨by omega, _, _, sk, (if_pos (by omega)).symm⟩, hsn1, sy1, q4⟩
        | exact QG_of ⟨Or.inl ⟨by omega, _, _, sk, (if_neg (by omega)).symm⟩, hsn1, sy1, q4⟩
    · refine ev_aload_0 22 dX11_whence_22 ?_
      refine ev_getA 23 7 dX11_whence_23 fa_X11_59 (kd_0 hZ) (pr_0_7 hP) rfl ?_
      refine ev_gI 26 5 5 dX11_whence_26 fa_X11_277 (kd_106 hZ) rfl rfl rfl ?_
      refine ev_goto 29 39 dX11_whence_29 rfl ?_
      refine ev_iret 39 dX11_whence_39 ?_ rfl
      first
        | exact QG_of ⟨Or.inl ⟨by omega, _, _, sk, (if_pos (by omega)).symm⟩, hsn1, sy1, q4⟩
        | exact QG_of ⟨Or.inl ⟨by omega, _, _, sk, (if_neg (by omega)).symm⟩, hsn1, sy1, q4⟩
  · refine ev_iconst 9 dX11_whence_9 ⟨by decide, by decide⟩ ?_
    refine ev_iret 10 dX11_whence_10 ?_ rfl
    exact QG_of ⟨Or.inr ⟨by omega, rfl⟩, hsn, SY.rf, fun _ _ _ => rfl⟩
theorem c_moved {l : Launch} {g : Gt} {d : Nat} {Z : Zt} {I : It} {P : Pt'} {T : Nat} {α σ : Nat → Int → Int} (hsn : SN T α Z I P) (hS : VS I σ) (hWS : WS α σ) (b w : Int) : Mt l g mX11_moved (d + 7) (2 * nn P) (194 * nn P) [vA 0, vI b, vI w] Z I P (QG (fun r Z' I' P' => mvA 1000000 α σ b w r ∧ SN T α Z' I' P' ∧ SY Z I P Z' I' P' ∧ I' 106 = I 106)) := by
  have hZ := hsn.1
  have hP := hsn.2.1
  have hT0 := hsn.2.2.1
  have hT := hsn.2.2.2.1
  have hW := hsn.2.2.2.2.2.1
  have w0 := hW.1
  have w1 := hW.2.1
  have w5 := hW.2.2.1
  refine Mt.of kmX11_moved (ls := [vA 0, vI b, vI w]) (fun _ => rfl) (fun _ => rfl) (okf_k (okf_k (okf_k (okf_n rfl)))) (fun hok => ?_)
  refine ev_iload_1 0 dX11_moved_0 ?_
  refine ev_iconst 1 dX11_moved_1 ⟨by decide, by decide⟩ ?_
  refine ev_bipush 2 dX11_moved_2 ⟨by decide, by decide⟩ ?_
  refine ev_cSp_3 4 dX11_moved_4 kmX11_within lk_X11_111 (c_within _ _ _) rfl rfl ?_
  refine ev_ifb_eq 7 19 dX11_moved_7 rfl (fun h7 => ?_) (fun h7 => ?_)
  · refine ev_iconst 19 dX11_moved_19 ⟨by decide, by decide⟩ ?_
    refine ev_iret 20 dX11_moved_20 ?_ rfl
    exact QG_of ⟨Or.inr ⟨by omega, rfl⟩, hsn, SY.rf, rfl⟩
  · refine ev_iload_2 10 dX11_moved_10 ?_
    refine ev_iconst 11 dX11_moved_11 ⟨by decide, by decide⟩ ?_
    refine ev_iconst 12 dX11_moved_12 ⟨by decide, by decide⟩ ?_
    refine ev_cSp_3 13 dX11_moved_13 kmX11_within lk_X11_111 (c_within _ _ _) rfl rfl ?_
    refine ev_ifb_ne 16 21 dX11_moved_16 rfl (fun h16 => ?_) (fun h16 => ?_)
    · refine ev_aload_0 21 dX11_moved_21 ?_
      refine ev_getA 22 8 dX11_moved_22 fa_X11_66 (kd_0 hZ) (pr_0_8 hP) rfl ?_
      refine ev_iload_1 25 dX11_moved_25 ?_
      refine Ev.mono (bc' := 0 + 2 * nn P) (bs' := 0 + 194 * nn P) (by omega) (by omega) ?_
      refine ev_cVw_1 26 dX11_moved_26 kmX3_seek lk_X11_283 (kd_109 hZ) (c_ms hsn hS hWS (by omega)) rfl rfl (fun Z26 I26 P26 f26 _ _ => ?_)
      obtain ⟨hsn1, sy1, q106, mv⟩ := f26
      refine Ev.rows sy1.2.2.2.2.2.1 sy1.2.2.2.2.2.2 ?_
      have hZ := hsn1.1
      have hP := hsn1.2.1
      refine ev_iload_2 29 dX11_moved_29 ?_
      refine ev_zne 30 41 dX11_moved_30 rfl (fun h30 => ?_) (fun h30 => ?_)
      · refine ev_iload_2 41 dX11_moved_41 ?_
        refine ev_iconst 42 dX11_moved_42 ⟨by decide, by decide⟩ ?_
        refine ev_jne 43 56 dX11_moved_43 rfl (fun h43 => ?_) (fun h43 => ?_)
        · refine ev_aload_0 56 dX11_moved_56 ?_
          refine ev_getA 57 8 dX11_moved_57 fa_X11_66 (kd_0 hZ) (pr_0_8 hP) rfl ?_
          refine ev_gI 60 7 7 dX11_moved_60 fa_X11_291 (kd_109 hZ) rfl rfl rfl ?_
          refine ev_iret 63 dX11_moved_63 ?_ rfl
          first
            | exact QG_of ⟨Or.inl ⟨by omega, _, _, _, mv, ((if_neg (by omega)).trans (if_pos (by omega))).symm⟩, hsn1, sy1, q106⟩
            | exact QG_of ⟨Or.inl ⟨by omega, _, _, _, mv, ((if_neg (by omega)).trans (if_neg (by omega))).symm⟩, hsn1, sy1, q106⟩
        · refine ev_aload_0 46 dX11_moved_46 ?_
          refine ev_getA 47 8 dX11_moved_47 fa_X11_66 (kd_0 hZ) (pr_0_8 hP) rfl ?_
          refine ev_gI 50 6 6 dX11_moved_50 fa_X11_288 (kd_109 hZ) rfl rfl rfl ?_
          refine ev_goto 53 63 dX11_moved_53 rfl ?_
          refine ev_iret 63 dX11_moved_63 ?_ rfl
          first
            | exact QG_of ⟨Or.inl ⟨by omega, _, _, _, mv, ((if_neg (by omega)).trans (if_pos (by omega))).symm⟩, hsn1, sy1, q106⟩
            | exact QG_of ⟨Or.inl ⟨by omega, _, _, _, mv, ((if_neg (by omega)).trans (if_neg (by omega))).symm⟩, hsn1, sy1, q106⟩
      · refine ev_aload_0 33 dX11_moved_33 ?_
        refine ev_getA 34 8 dX11_moved_34 fa_X11_66 (kd_0 hZ) (pr_0_8 hP) rfl ?_
        refine ev_gI 37 5 5 dX11_moved_37 fa_X11_285 (kd_109 hZ) rfl rfl rfl ?_
        refine ev_iret 40 dX11_moved_40 ?_ rfl
        exact QG_of ⟨Or.inl ⟨by omega, _, _, _, mv, (if_pos (by omega)).symm⟩, hsn1, sy1, q106⟩
    · refine ev_iconst 19 dX11_moved_19 ⟨by decide, by decide⟩ ?_
      refine ev_iret 20 dX11_moved_20 ?_ rfl
      exact QG_of ⟨Or.inr ⟨by omega, rfl⟩, hsn, SY.rf, rfl⟩
