/-! things ahead of time, towns that catch -/
def bhA (α σ : Nat → Int → Int) (n t w : Int) : Int := if (0 ≤ n ∧ n ≤ 60) ∧ (0 ≤ t ∧ t < σ 0 1) ∧ (0 ≤ w ∧ w ≤ 2) then (if w = 0 then (psn α σ (-1) n.toNat (σ 3 t, σ 4 t, σ 5 t, σ 6 t)).1 else if w = 1 then (psn α σ (-1) n.toNat (σ 3 t, σ 4 t, σ 5 t, σ 6 t)).2.1 else (psn α σ (-1) n.toNat (σ 3 t, σ 4 t, σ 5 t, σ 6 t)).2.2.2) else -1
def mtF (α σ : Nat → Int → Int) : Nat → Int → Dq → Dq → Int
  | 0, _, _, _ => -4
  | k + 1, n, p, q => if p.2.2.2 ≠ -4 ∨ q.2.2.2 ≠ -4 then -4 else if p.1 = q.1 ∧ p.2.1 = q.2.1 then n else mtF α σ k (n + 1) (ps α σ (-1) p) (ps α σ (-1) q)
def mtA (α σ : Nat → Int → Int) (a b : Int) : Int := if (0 ≤ a ∧ a < σ 0 1) ∧ (0 ≤ b ∧ b < σ 0 1) ∧ a ≠ b then mtF α σ 61 0 (σ 3 a, σ 4 a, σ 5 a, σ 6 a) (σ 3 b, σ 4 b, σ 5 b, σ 6 b) else -1
def flq (α : Nat → Int → Int) (q : Dq) : Dq := (fL α q.1 q.2.2.1, fX α q.1 q.2.1, q.2.2.1, q.2.2.2)
def flN (α : Nat → Int → Int) : Nat → Dq → Dq
  | 0, q => q
  | k + 1, q => flN α k (flq α q)
def rnF (α : Nat → Int → Int) (l x : Int) : Nat → Int → Dq → Int
  | 0, _, _ => -4
  | k + 1, n, q => if (flq α q).1 = l ∧ (flq α q).2.1 = x then n else rnF α l x k (n + 1) (flq α q)
def rnA (α σ : Nat → Int → Int) (t : Int) : Int := if 0 ≤ t ∧ t < σ 0 1 then rnF α (flN α 200 (σ 3 t, σ 4 t, σ 5 t, σ 6 t)).1 (flN α 200 (σ 3 t, σ 4 t, σ 5 t, σ 6 t)).2.1 200 1 (flN α 200 (σ 3 t, σ 4 t, σ 5 t, σ 6 t)) else -1
def seF (α σ : Nat → Int → Int) (a b : Int) : Nat → Int × Int
  | 0 => (-4, 61)
  | w + 1 => if (pu α σ a 60 1 (α 4 a, σ 1 a, (w : Int), -4)).2.2.2.2 = b ∧ (pu α σ a 60 1 (α 4 a, σ 1 a, (w : Int), -4)).1 < (seF α σ a b w).2 then ((w : Int), (pu α σ a 60 1 (α 4 a, σ 1 a, (w : Int), -4)).1) else seF α σ a b w
def seA (α σ : Nat → Int → Int) (a b w : Int) : Int := if (0 ≤ a ∧ a < α 0 5) ∧ (0 ≤ b ∧ b < α 0 5) ∧ a ≠ b ∧ (0 ≤ w ∧ w ≤ 1) then (if σ 2 a = 0 ∧ σ 2 b = 0 then (if (seF α σ a b 10).1 = -4 then -4 else if w = 0 then (seF α σ a b 10).1 else (seF α σ a b 10).2) else -2) else -1
def faA (α σ : Nat → Int → Int) (t w : Int) : Int := if (0 ≤ t ∧ t < α 0 5) ∧ (0 ≤ w ∧ w ≤ 1) then (if σ 2 t = 0 then (if w = 0 then (pu α σ t 60 1 (α 4 t, σ 1 t, 9, -4)).2.2.2.2 else (pu α σ t 60 1 (α 4 t, σ 1 t, 9, -4)).1) else -2) else -1
theorem flq_in {α : Nat → Int → Int} {q : Dq} (hW : WF α) (h : inD α q) : inD α (flq α q) := ⟨fL_r h.1, fX_r hW.1.1, h.2.2⟩
theorem c_behind {l : Launch} {g : Gt} {d : Nat} {Z : Zt} {I : It} {P : Pt'} {T : Nat} {α σ : Nat → Int → Int} (hsn : SN T α Z I P) (hS : VS I σ) (hWS : WS α σ) (n t w : Int) : Mt l g mX11_behind (d + 6) 0 0 [vA 0, vI n, vI t, vI w] Z I P (QM (fun r I' => r = bhA α σ n t w ∧ (∀ a, a ≠ 99 → a ≠ 100 → I' a = I a)) Z P) := by
  have hZ := hsn.1
  have hP := hsn.2.1
  have hT0 := hsn.2.2.1
  have hT := hsn.2.2.2.1
  have hW := hsn.2.2.2.2.2.1
  have w0 := hW.1
  have w1 := hW.2.1
  have w5 := hW.2.2.1
  have a0 : I T 0 = α 0 0 := hsn.2.2.2.2.1.at 0
  have a1 : I T 1 = α 0 1 := hsn.2.2.2.2.1.at 1
  have a5 : I T 5 = α 0 5 := hsn.2.2.2.2.1.at 5
  have a4 : I (T + 4) = α 4 := hsn.2.2.2.2.1 4 (by omega)
  have s1 : I 19 = σ 1 := hS 1 (by omega)
  have s2 : I 20 = σ 2 := hS 2 (by omega)
  clear s1 s2
  have aT : I T = α 0 := hsn.2.2.2.2.1 0 (by omega)
  have t1 : I (T + 1) = α 1 := hsn.2.2.2.2.1 1 (by omega)
  have t2 : I (T + 2) = α 2 := hsn.2.2.2.2.1 2 (by omega)
  have t3 : I (T + 3) = α 3 := hsn.2.2.2.2.1 3 (by omega)
  have t4 : I (T + 4) = α 4 := hsn.2.2.2.2.1 4 (by omega)
  have t5 : I (T + 5) = α 5 := hsn.2.2.2.2.1 5 (by omega)
  have t6 : I (T + 6) = α 6 := hsn.2.2.2.2.1 6 (by omega)
  have t7 : I (T + 7) = α 7 := hsn.2.2.2.2.1 7 (by omega)
  have t8 : I (T + 8) = α 8 := hsn.2.2.2.2.1 8 (by omega)
  have t9 : I (T + 9) = α 9 := hsn.2.2.2.2.1 9 (by omega)
  have t10 : I (T + 10) = α 10 := hsn.2.2.2.2.1 10 (by omega)
  have t11 : I (T + 11) = α 11 := hsn.2.2.2.2.1 11 (by omega)
  have t12 : I (T + 12) = α 12 := hsn.2.2.2.2.1 12 (by omega)
  have s0 : I 18 = σ 0 := hS 0 (by omega)
  have s1 : I 19 = σ 1 := hS 1 (by omega)
  have s2 : I 20 = σ 2 := hS 2 (by omega)
  have s3 : I 21 = σ 3 := hS 3 (by omega)
  have s4 : I 22 = σ 4 := hS 4 (by omega)
  have s5 : I 23 = σ 5 := hS 5 (by omega)
  have s6 : I 24 = σ 6 := hS 6 (by omega)
  have w18 := hWS.2.1
  have hA := hsn.2.2.2.2.1
  refine Mt.of kmX11_behind (ls := [vA 0, vI n, vI t, vI w]) (fun _ => rfl) (fun _ => rfl) (okf_k (okf_k (okf_k (okf_k (okf_n rfl))))) (fun hok => ?_)
  refine ev_iload_1 0 dX11_behind_0 ?_
  refine ev_iconst 1 dX11_behind_1 ⟨by decide, by decide⟩ ?_
  refine ev_bipush 2 dX11_behind_2 ⟨by decide, by decide⟩ ?_
  refine ev_cSp_3 4 dX11_behind_4 kmX11_within lk_X11_111 (c_within _ _ _) rfl rfl ?_
  try simp only [aT, t1, t2, t3, t4, t5, t6, t7, t8, t9, t10, t11, t12, s0, s1, s2, s3, s4, s5, s6]
  refine ev_ifb_eq 7 30 dX11_behind_7 rfl (fun h7 => ?_) (fun h7 => ?_)
  · refine ev_iconst 30 dX11_behind_30 ⟨by decide, by decide⟩ ?_
    refine ev_iret 31 dX11_behind_31 ?_ rfl
    exact QM_of ⟨(if_neg (by omega)).symm, fun _ _ _ => rfl⟩
  · refine ev_aload_0 10 dX11_behind_10 ?_
    refine ev_getA 11 1 dX11_behind_11 fa_X11_19 (kd_0 hZ) (pr_0_1 hP) rfl ?_
    refine ev_iload_2 14 dX11_behind_14 ?_
    refine ev_cVp_1 15 dX11_behind_15 kmX6_isThing lk_X11_166 (kd_4 hZ) (c_isThing hZ hP _) rfl rfl ?_
    try simp only [aT, t1, t2, t3, t4, t5, t6, t7, t8, t9, t10, t11, t12, s0, s1, s2, s3, s4, s5, s6]
    refine ev_ifb_eq 18 30 dX11_behind_18 rfl (fun h18 => ?_) (fun h18 => ?_)
    · refine ev_iconst 30 dX11_behind_30 ⟨by decide, by decide⟩ ?_
      refine ev_iret 31 dX11_behind_31 ?_ rfl
      exact QM_of ⟨(if_neg (by omega)).symm, fun _ _ _ => rfl⟩
    · refine ev_iload_3 21 dX11_behind_21 ?_
      refine ev_iconst 22 dX11_behind_22 ⟨by decide, by decide⟩ ?_
      refine ev_iconst 23 dX11_behind_23 ⟨by decide, by decide⟩ ?_
      refine ev_cSp_3 24 dX11_behind_24 kmX11_within lk_X11_111 (c_within _ _ _) rfl rfl ?_
      try simp only [aT, t1, t2, t3, t4, t5, t6, t7, t8, t9, t10, t11, t12, s0, s1, s2, s3, s4, s5, s6]
      refine ev_ifb_ne 27 32 dX11_behind_27 rfl (fun h27 => ?_) (fun h27 => ?_)
      · refine ev_aload_0 32 dX11_behind_32 ?_
        refine ev_getA 33 4 dX11_behind_33 fa_X11_40 (kd_0 hZ) (pr_0_4 hP) rfl ?_
        refine ev_iload_2 36 dX11_behind_36 ?_
        refine ev_cVv_1 37 dX11_behind_37 kmX0_take lk_X11_191 (kd_99 hZ) (c_take hZ hP (Or.inl rfl) (by omega)) rfl rfl (fun I37 f37 => ?_)
        obtain ⟨d1, o1⟩ := f37
        have hA1 := hA.od hT (Or.inl rfl) o1
        have hS1 := hS.od (Or.inl rfl) o1
        rw [s3, s4, s5, s6] at d1
        have hi1 : inD α (dq 99 I37) := by rw [d1]; exact (hWS.2.2.2.2 t (by omega) (by omega)).1
        refine ev_aload_0 40 dX11_behind_40 ?_
        refine ev_getA 41 4 dX11_behind_41 fa_X11_40 (kd_0 hZ) (pr_0_4 hP) rfl ?_
        refine ev_iload_1 44 dX11_behind_44 ?_
        refine ev_cVv_1 45 dX11_behind_45 kmX0_passMany lk_X11_194 (kd_99 hZ) (c_passMany hZ hP hT0 hT (Or.inl rfl) hA1 hS1 hW hi1 (by omega)) rfl rfl (fun I45 f45 => ?_)
        obtain ⟨d2, o2⟩ := f45
        rw [d1] at d2
        refine ev_iload_3 48 dX11_behind_48 ?_
        refine ev_zne 49 60 dX11_behind_49 rfl (fun h49 => ?_) (fun h49 => ?_)
        · refine ev_iload_3 60 dX11_behind_60 ?_
          refine ev_iconst 61 dX11_behind_61 ⟨by decide, by decide⟩ ?_
          refine ev_jne 62 75 dX11_behind_62 rfl (fun h62 => ?_) (fun h62 => ?_)
          · refine ev_aload_0 75 dX11_behind_75 ?_
            refine ev_getA 76 4 dX11_behind_76 fa_X11_40 (kd_0 hZ) (pr_0_4 hP) rfl ?_
            refine ev_gI 79 4 4 dX11_behind_79 fa_X11_237 (kd_99 hZ) rfl rfl rfl ?_
            try simp only [aT, t1, t2, t3, t4, t5, t6, t7, t8, t9, t10, t11, t12, s0, s1, s2, s3, s4, s5, s6]
            refine ev_iret 82 dX11_behind_82 ?_ rfl
            refine QM_of ⟨?_, fun a z1 z2 => by rw [o2 a z1, o1 a z1]⟩
            unfold bhA
            rw [if_pos (by omega), ← d2]
            first
              | (rw [if_pos (by omega)]; rfl)
              | (rw [if_neg (by omega), if_pos (by omega)]; rfl)
              | (rw [if_neg (by omega), if_neg (by omega)]; rfl)
          · refine ev_aload_0 65 dX11_behind_65 ?_
            refine ev_getA 66 4 dX11_behind_66 fa_X11_40 (kd_0 hZ) (pr_0_4 hP) rfl ?_
            refine ev_gI 69 2 2 dX11_behind_69 fa_X11_234 (kd_99 hZ) rfl rfl rfl ?_
            try simp only [aT, t1, t2, t3, t4, t5, t6, t7, t8, t9, t10, t11, t12, s0, s1, s2, s3, s4, s5, s6]
            refine ev_goto 72 82 dX11_behind_72 rfl ?_
            refine ev_iret 82 dX11_behind_82 ?_ rfl
            refine QM_of ⟨?_, fun a z1 z2 => by rw [o2 a z1, o1 a z1]⟩
            unfold bhA
            rw [if_pos (by omega), ← d2]
            first
              | (rw [if_pos (by omega)]; rfl)
              | (rw [if_neg (by omega), if_pos (by omega)]; rfl)
              | (rw [if_neg (by omega), if_neg (by omega)]; rfl)
        · refine ev_aload_0 52 dX11_behind_52 ?_
          refine ev_getA 53 4 dX11_behind_53 fa_X11_40 (kd_0 hZ) (pr_0_4 hP) rfl ?_
          refine ev_gI 56 1 1 dX11_behind_56 fa_X11_231 (kd_99 hZ) rfl rfl rfl ?_
          try simp only [aT, t1, t2, t3, t4, t5, t6, t7, t8, t9, t10, t11, t12, s0, s1, s2, s3, s4, s5, s6]
          refine ev_iret 59 dX11_behind_59 ?_ rfl
          refine QM_of ⟨?_, fun a z1 z2 => by rw [o2 a z1, o1 a z1]⟩
          unfold bhA
          rw [if_pos (by omega), ← d2]
          first
            | (rw [if_pos (by omega)]; rfl)
            | (rw [if_neg (by omega), if_pos (by omega)]; rfl)
            | (rw [if_neg (by omega), if_neg (by omega)]; rfl)
      · refine ev_iconst 30 dX11_behind_30 ⟨by decide, by decide⟩ ?_
        refine ev_iret 31 dX11_behind_31 ?_ rfl
        exact QM_of ⟨(if_neg (by omega)).symm, fun _ _ _ => rfl⟩
theorem c_meet {l : Launch} {g : Gt} {d : Nat} {Z : Zt} {I : It} {P : Pt'} {T : Nat} {α σ : Nat → Int → Int} (hsn : SN T α Z I P) (hS : VS I σ) (hWS : WS α σ) (x y : Int) : Mt l g mX11_meet (d + 5) 0 0 [vA 0, vI x, vI y] Z I P (QM (fun r I' => r = mtA α σ x y ∧ (∀ a, a ≠ 99 → a ≠ 100 → I' a = I a)) Z P) := by
  have hZ := hsn.1
  have hP := hsn.2.1
  have hT0 := hsn.2.2.1
  have hT := hsn.2.2.2.1
  have hW := hsn.2.2.2.2.2.1
  have w0 := hW.1
  have w1 := hW.2.1
  have w5 := hW.2.2.1
  have a0 : I T 0 = α 0 0 := hsn.2.2.2.2.1.at 0
  have a1 : I T 1 = α 0 1 := hsn.2.2.2.2.1.at 1
  have a5 : I T 5 = α 0 5 := hsn.2.2.2.2.1.at 5
  have a4 : I (T + 4) = α 4 := hsn.2.2.2.2.1 4 (by omega)
  have s1 : I 19 = σ 1 := hS 1 (by omega)
  have s2 : I 20 = σ 2 := hS 2 (by omega)
  clear s1 s2
  have aT : I T = α 0 := hsn.2.2.2.2.1 0 (by omega)
  have t1 : I (T + 1) = α 1 := hsn.2.2.2.2.1 1 (by omega)
  have t2 : I (T + 2) = α 2 := hsn.2.2.2.2.1 2 (by omega)
  have t3 : I (T + 3) = α 3 := hsn.2.2.2.2.1 3 (by omega)
  have t4 : I (T + 4) = α 4 := hsn.2.2.2.2.1 4 (by omega)
  have t5 : I (T + 5) = α 5 := hsn.2.2.2.2.1 5 (by omega)
  have t6 : I (T + 6) = α 6 := hsn.2.2.2.2.1 6 (by omega)
  have t7 : I (T + 7) = α 7 := hsn.2.2.2.2.1 7 (by omega)
  have t8 : I (T + 8) = α 8 := hsn.2.2.2.2.1 8 (by omega)
  have t9 : I (T + 9) = α 9 := hsn.2.2.2.2.1 9 (by omega)
  have t10 : I (T + 10) = α 10 := hsn.2.2.2.2.1 10 (by omega)
  have t11 : I (T + 11) = α 11 := hsn.2.2.2.2.1 11 (by omega)
  have t12 : I (T + 12) = α 12 := hsn.2.2.2.2.1 12 (by omega)
  have s0 : I 18 = σ 0 := hS 0 (by omega)
  have s1 : I 19 = σ 1 := hS 1 (by omega)
  have s2 : I 20 = σ 2 := hS 2 (by omega)
  have s3 : I 21 = σ 3 := hS 3 (by omega)
  have s4 : I 22 = σ 4 := hS 4 (by omega)
  have s5 : I 23 = σ 5 := hS 5 (by omega)
  have s6 : I 24 = σ 6 := hS 6 (by omega)
  have w18 := hWS.2.1
  have hA := hsn.2.2.2.2.1
  have ht : T = 5 ∨ T = 118 := hT
  refine Mt.of kmX11_meet (ls := [vA 0, vI x, vI y, vX]) (fun _ => rfl) (fun _ => rfl) (okf_k (okf_k (okf_k (okf_n rfl)))) (fun hok => ?_)
  have loop : ((0 ≤ x ∧ x < σ 0 1) ∧ (0 ≤ y ∧ y < σ 0 1) ∧ x ≠ y) → ∀ (k : Nat) (n : Int) (p q : Dq) (I1 : It), 0 ≤ n → n + k = 61 → dq 99 I1 = p → dq 100 I1 = q → (∀ a, a ≠ 99 → a ≠ 100 → I1 a = I a) → inD α p → inD α q → mtA α σ x y = mtF α σ k n p q → Ev l g mX11_meet (d + 5) 0 0 Z I1 P 47 [vA 0, vI x, vI y, vI n] [] (QM (fun r I' => r = mtA α σ x y ∧ (∀ a, a ≠ 99 → a ≠ 100 → I' a = I a)) Z P) := by
    intro hgd k
    induction k with
    | zero =>
      intro n p q I1 h0 h1 dp1 dq1 fr ip iq e
      refine ev_iload_3 47 dX11_meet_47 ?_
      refine ev_bipush 48 dX11_meet_48 ⟨by decide, by decide⟩ ?_
      refine ev_icmp_gt 50 128 dX11_meet_50 rfl (fun h50 => ?_) (fun h50 => ?_)
      · refine ev_bipush 128 dX11_meet_128 ⟨by decide, by decide⟩ ?_
        refine ev_iret 130 dX11_meet_130 ?_ rfl
        exact QM_of ⟨e.symm, fr⟩
      · exfalso; omega
    | succ k ih =>
      intro n p q I1 h0 h1 dp1 dq1 fr ip iq e
      have hA1 : VT T I1 α := fun c hc => by rw [fr (T + c) (by omega) (by omega)]; exact hA c hc
      have hS1 : VS I1 σ := fun c hc => by rw [fr (18 + c) (by omega) (by omega)]; exact hS c hc
      have b1 : I1 99 4 = p.2.2.2 := by rw [← dp1]; rfl
      have b2 : I1 100 4 = q.2.2.2 := by rw [← dq1]; rfl
      have l1 : I1 99 1 = p.1 := by rw [← dp1]; rfl
      have l2 : I1 100 1 = q.1 := by rw [← dq1]; rfl
      have x1 : I1 99 2 = p.2.1 := by rw [← dp1]; rfl
      have x2 : I1 100 2 = q.2.1 := by rw [← dq1]; rfl
      refine ev_iload_3 47 dX11_meet_47 ?_
      refine ev_bipush 48 dX11_meet_48 ⟨by decide, by decide⟩ ?_
      refine ev_icmp_gt 50 128 dX11_meet_50 rfl (fun h50 => ?_) (fun h50 => ?_)
      · exfalso; omega
      · refine ev_aload_0 53 dX11_meet_53 ?_
        refine ev_getA 54 4 dX11_meet_54 fa_X11_40 (kd_0 hZ) (pr_0_4 hP) rfl ?_
        refine ev_gI 57 4 4 dX11_meet_57 fa_X11_237 (kd_99 hZ) rfl rfl rfl ?_
        try simp only [b1, b2, l1, l2, x1, x2]
        refine ev_bipush 60 dX11_meet_60 ⟨by decide, by decide⟩ ?_
        refine ev_jne 62 77 dX11_meet_62 rfl (fun h62 => ?_) (fun h62 => ?_)
        · refine ev_bipush 77 dX11_meet_77 ⟨by decide, by decide⟩ ?_
          refine ev_iret 79 dX11_meet_79 ?_ rfl
          refine QM_of ⟨?_, fr⟩
          rw [e]
          exact (if_pos (by omega)).symm
        · refine ev_aload_0 65 dX11_meet_65 ?_
          refine ev_getA 66 5 dX11_meet_66 fa_X11_44 (kd_0 hZ) (pr_0_5 hP) rfl ?_
          refine ev_gI 69 4 4 dX11_meet_69 fa_X11_237 (kd_100 hZ) rfl rfl rfl ?_
          try simp only [b1, b2, l1, l2, x1, x2]
          refine ev_bipush 72 dX11_meet_72 ⟨by decide, by decide⟩ ?_
          refine ev_icmp_eq 74 80 dX11_meet_74 rfl (fun h74 => ?_) (fun h74 => ?_)
          · refine ev_aload_0 80 dX11_meet_80 ?_
            refine ev_getA 81 4 dX11_meet_81 fa_X11_40 (kd_0 hZ) (pr_0_4 hP) rfl ?_
            refine ev_aload_0 84 dX11_meet_84 ?_
            refine ev_getA 85 5 dX11_meet_85 fa_X11_44 (kd_0 hZ) (pr_0_5 hP) rfl ?_
            refine ev_gI 88 1 1 dX11_meet_88 fa_X11_231 (kd_100 hZ) rfl rfl rfl ?_
            try simp only [b1, b2, l1, l2, x1, x2]
            refine ev_aload_0 91 dX11_meet_91 ?_
            refine ev_getA 92 5 dX11_meet_92 fa_X11_44 (kd_0 hZ) (pr_0_5 hP) rfl ?_
            refine ev_gI 95 2 2 dX11_meet_95 fa_X11_234 (kd_100 hZ) rfl rfl rfl ?_
            try simp only [b1, b2, l1, l2, x1, x2]
            refine ev_cVp_2 98 dX11_meet_98 kmX0_isWhere lk_X11_240 (kd_99 hZ) (c_isWhere hZ (Or.inl rfl) _ _) rfl rfl ?_
            try simp only [b1, b2, l1, l2, x1, x2]
            refine ev_ifb_eq 101 106 dX11_meet_101 rfl (fun h101 => ?_) (fun h101 => ?_)
            · refine ev_aload_0 106 dX11_meet_106 ?_
              refine ev_getA 107 4 dX11_meet_107 fa_X11_40 (kd_0 hZ) (pr_0_4 hP) rfl ?_
              refine ev_iconst 110 dX11_meet_110 ⟨by decide, by decide⟩ ?_
              refine ev_cVv_1 111 dX11_meet_111 kmX0_pass lk_X11_244 (kd_99 hZ) (c_pass hZ hP hT0 hT (Or.inl rfl) hA1 hS1 hW (by rw [dp1]; exact ip) _) rfl rfl (fun I111 f111 => ?_)
              obtain ⟨d2, o2⟩ := f111
              have hA2 := hA1.od hT (Or.inl rfl) o2
              have hS2 := hS1.od (Or.inl rfl) o2
              have hq2 : dq 100 I111 = q := by rw [← dq1]; unfold dq; rw [o2 100 (by omega)]
              refine ev_aload_0 114 dX11_meet_114 ?_
              refine ev_getA 115 5 dX11_meet_115 fa_X11_44 (kd_0 hZ) (pr_0_5 hP) rfl ?_
              refine ev_iconst 118 dX11_meet_118 ⟨by decide, by decide⟩ ?_
              refine ev_cVv_1 119 dX11_meet_119 kmX0_pass lk_X11_244 (kd_100 hZ) (c_pass hZ hP hT0 hT (Or.inr rfl) hA2 hS2 hW (by rw [hq2]; exact iq) _) rfl rfl (fun I119 f119 => ?_)
              obtain ⟨d3, o3⟩ := f119
              have hp3 : dq 99 I119 = ps α σ (-1) p := by rw [← dp1, ← d2]; unfold dq; rw [o3 99 (by omega)]
              refine ev_iinc_3 122 dX11_meet_122 ⟨by omega, by omega⟩ rfl rfl ?_
              refine ev_goto 125 47 dX11_meet_125 rfl ?_
              refine ih _ _ _ _ (by omega) (by omega) hp3 d3 (fun a z1 z2 => by rw [o3 a z2, o2 a z1]; exact fr a z1 z2) (ps_in hW ip) (by rw [hq2]; exact ps_in hW iq) ?_
              rw [e, hq2]
              refine (if_neg ?_).trans (if_neg ?_)
              · omega
              · omega
            · refine ev_iload_3 104 dX11_meet_104 ?_
              refine ev_iret 105 dX11_meet_105 ?_ rfl
              refine QM_of ⟨?_, fr⟩
              rw [e]
              exact ((if_neg (by omega)).trans (if_pos (by omega))).symm
          · refine ev_bipush 77 dX11_meet_77 ⟨by decide, by decide⟩ ?_
            refine ev_iret 79 dX11_meet_79 ?_ rfl
            refine QM_of ⟨?_, fr⟩
            rw [e]
            exact (if_pos (by omega)).symm
  refine ev_aload_0 0 dX11_meet_0 ?_
  refine ev_getA 1 1 dX11_meet_1 fa_X11_19 (kd_0 hZ) (pr_0_1 hP) rfl ?_
  refine ev_iload_1 4 dX11_meet_4 ?_
  refine ev_cVp_1 5 dX11_meet_5 kmX6_isThing lk_X11_166 (kd_4 hZ) (c_isThing hZ hP _) rfl rfl ?_
  try simp only [aT, t1, t2, t3, t4, t5, t6, t7, t8, t9, t10, t11, t12, s0, s1, s2, s3, s4, s5, s6]
  refine ev_ifb_eq 8 27 dX11_meet_8 rfl (fun h8 => ?_) (fun h8 => ?_)
  · refine ev_iconst 27 dX11_meet_27 ⟨by decide, by decide⟩ ?_
    refine ev_iret 28 dX11_meet_28 ?_ rfl
    exact QM_of ⟨(if_neg (by omega)).symm, fun _ _ _ => rfl⟩
  · refine ev_aload_0 11 dX11_meet_11 ?_
    refine ev_getA 12 1 dX11_meet_12 fa_X11_19 (kd_0 hZ) (pr_0_1 hP) rfl ?_
    refine ev_iload_2 15 dX11_meet_15 ?_
    refine ev_cVp_1 16 dX11_meet_16 kmX6_isThing lk_X11_166 (kd_4 hZ) (c_isThing hZ hP _) rfl rfl ?_
    try simp only [aT, t1, t2, t3, t4, t5, t6, t7, t8, t9, t10, t11, t12, s0, s1, s2, s3, s4, s5, s6]
    refine ev_ifb_eq 19 27 dX11_meet_19 rfl (fun h19 => ?_) (fun h19 => ?_)
    · refine ev_iconst 27 dX11_meet_27 ⟨by decide, by decide⟩ ?_
      refine ev_iret 28 dX11_meet_28 ?_ rfl
      exact QM_of ⟨(if_neg (by omega)).symm, fun _ _ _ => rfl⟩
    · refine ev_iload_1 22 dX11_meet_22 ?_
      refine ev_iload_2 23 dX11_meet_23 ?_
      refine ev_jne 24 29 dX11_meet_24 rfl (fun h24 => ?_) (fun h24 => ?_)
      · refine ev_aload_0 29 dX11_meet_29 ?_
        refine ev_getA 30 4 dX11_meet_30 fa_X11_40 (kd_0 hZ) (pr_0_4 hP) rfl ?_
        refine ev_iload_1 33 dX11_meet_33 ?_
        refine ev_cVv_1 34 dX11_meet_34 kmX0_take lk_X11_191 (kd_99 hZ) (c_take hZ hP (Or.inl rfl) (by omega)) rfl rfl (fun I34 f34 => ?_)
        obtain ⟨d1, o1⟩ := f34
        have e24 : ∀ c, 21 ≤ c → c ≤ 24 → I34 c = I c := fun c _ _ => o1 c (by omega)
        refine ev_aload_0 37 dX11_meet_37 ?_
        refine ev_getA 38 5 dX11_meet_38 fa_X11_44 (kd_0 hZ) (pr_0_5 hP) rfl ?_
        refine ev_iload_2 41 dX11_meet_41 ?_
        refine ev_cVv_1 42 dX11_meet_42 kmX0_take lk_X11_191 (kd_100 hZ) (c_take hZ hP (Or.inr rfl) (by omega)) rfl rfl (fun I42 f42 => ?_)
        obtain ⟨d2, o2⟩ := f42
        rw [e24 21 (by omega) (by omega), e24 22 (by omega) (by omega), e24 23 (by omega) (by omega), e24 24 (by omega) (by omega), s3, s4, s5, s6] at d2
        rw [s3, s4, s5, s6] at d1
        have d1' : dq 99 I42 = dq 99 I34 := by unfold dq; rw [o2 99 (by omega)]
        refine ev_iconst 45 dX11_meet_45 ⟨by decide, by decide⟩ ?_
        refine ev_istore_3 46 dX11_meet_46 rfl rfl ?_
        exact loop (by omega) 61 0 _ _ I42 (by omega) (by omega) (d1'.trans d1) d2 (fun a z1 z2 => by rw [o2 a z2, o1 a z1]) (hWS.2.2.2.2 x (by omega) (by omega)).1 (hWS.2.2.2.2 y (by omega) (by omega)).1 (if_pos (by omega))
      · refine ev_iconst 27 dX11_meet_27 ⟨by decide, by decide⟩ ?_
        refine ev_iret 28 dX11_meet_28 ?_ rfl
        exact QM_of ⟨(if_neg (by omega)).symm, fun _ _ _ => rfl⟩
theorem c_round {l : Launch} {g : Gt} {d : Nat} {Z : Zt} {I : It} {P : Pt'} {T : Nat} {α σ : Nat → Int → Int} (hsn : SN T α Z I P) (hS : VS I σ) (hWS : WS α σ) (t : Int) : Mt l g mX11_round (d + 4) 0 0 [vA 0, vI t] Z I P (QM (fun r I' => r = rnA α σ t ∧ (∀ a, a ≠ 99 → a ≠ 100 → I' a = I a)) Z P) := by
  have hZ := hsn.1
  have hP := hsn.2.1
  have hT0 := hsn.2.2.1
  have hT := hsn.2.2.2.1
  have hW := hsn.2.2.2.2.2.1
  have w0 := hW.1
  have w1 := hW.2.1
  have w5 := hW.2.2.1
  have a0 : I T 0 = α 0 0 := hsn.2.2.2.2.1.at 0
  have a1 : I T 1 = α 0 1 := hsn.2.2.2.2.1.at 1
  have a5 : I T 5 = α 0 5 := hsn.2.2.2.2.1.at 5
  have a4 : I (T + 4) = α 4 := hsn.2.2.2.2.1 4 (by omega)
  have s1 : I 19 = σ 1 := hS 1 (by omega)
  have s2 : I 20 = σ 2 := hS 2 (by omega)
  clear s1 s2
  have aT : I T = α 0 := hsn.2.2.2.2.1 0 (by omega)
  have t1 : I (T + 1) = α 1 := hsn.2.2.2.2.1 1 (by omega)
  have t2 : I (T + 2) = α 2 := hsn.2.2.2.2.1 2 (by omega)
  have t3 : I (T + 3) = α 3 := hsn.2.2.2.2.1 3 (by omega)
  have t4 : I (T + 4) = α 4 := hsn.2.2.2.2.1 4 (by omega)
  have t5 : I (T + 5) = α 5 := hsn.2.2.2.2.1 5 (by omega)
  have t6 : I (T + 6) = α 6 := hsn.2.2.2.2.1 6 (by omega)
  have t7 : I (T + 7) = α 7 := hsn.2.2.2.2.1 7 (by omega)
  have t8 : I (T + 8) = α 8 := hsn.2.2.2.2.1 8 (by omega)
  have t9 : I (T + 9) = α 9 := hsn.2.2.2.2.1 9 (by omega)
  have t10 : I (T + 10) = α 10 := hsn.2.2.2.2.1 10 (by omega)
  have t11 : I (T + 11) = α 11 := hsn.2.2.2.2.1 11 (by omega)
  have t12 : I (T + 12) = α 12 := hsn.2.2.2.2.1 12 (by omega)
  have s0 : I 18 = σ 0 := hS 0 (by omega)
  have s1 : I 19 = σ 1 := hS 1 (by omega)
  have s2 : I 20 = σ 2 := hS 2 (by omega)
  have s3 : I 21 = σ 3 := hS 3 (by omega)
  have s4 : I 22 = σ 4 := hS 4 (by omega)
  have s5 : I 23 = σ 5 := hS 5 (by omega)
  have s6 : I 24 = σ 6 := hS 6 (by omega)
  have w18 := hWS.2.1
  have hA := hsn.2.2.2.2.1
  have ht : T = 5 ∨ T = 118 := hT
  refine Mt.of kmX11_round (ls := [vA 0, vI t, vX, vX, vX]) (fun _ => rfl) (fun _ => rfl) (okf_k (okf_k (okf_n rfl))) (fun hok => ?_)
  have loop2 : (0 ≤ t ∧ t < σ 0 1) → ∀ (L X : Int) (k : Nat) (n : Int) (q : Dq) (I1 : It), 0 ≤ n → n + k = 201 → dq 99 I1 = q → (∀ a, a ≠ 99 → I1 a = I a) → inD α q → rnA α σ t = rnF α L X k n q → Ev l g mX11_round (d + 4) 0 0 Z I1 P 62 [vA 0, vI t, vI L, vI X, vI n] [] (QM (fun r I' => r = rnA α σ t ∧ (∀ a, a ≠ 99 → a ≠ 100 → I' a = I a)) Z P) := by
    intro hgd L X k
    induction k with
    | zero =>
      intro n q I1 h0 h1 dp1 fr ip e
      refine ev_iload_4 62 dX11_round_62 ?_
      refine ev_sipush 64 dX11_round_64 ⟨by decide, by decide⟩ ?_
      refine ev_icmp_gt 67 98 dX11_round_67 rfl (fun h67 => ?_) (fun h67 => ?_)
      · refine ev_bipush 98 dX11_round_98 ⟨by decide, by decide⟩ ?_
        refine ev_iret 100 dX11_round_100 ?_ rfl
        exact QM_of ⟨e.symm, fun a z1 _ => fr a z1⟩
      · exfalso; omega
    | succ k ih =>
      intro n q I1 h0 h1 dp1 fr ip e
      have hA1 := hA.od hT (Or.inl rfl) fr
      refine ev_iload_4 62 dX11_round_62 ?_
      refine ev_sipush 64 dX11_round_64 ⟨by decide, by decide⟩ ?_
      refine ev_icmp_gt 67 98 dX11_round_67 rfl (fun h67 => ?_) (fun h67 => ?_)
      · exfalso; omega
      · refine ev_aload_0 70 dX11_round_70 ?_
        refine ev_getA 71 4 dX11_round_71 fa_X11_40 (kd_0 hZ) (pr_0_4 hP) rfl ?_
        refine ev_cVv_0 74 dX11_round_74 kmX0_flow lk_X11_247 (kd_99 hZ) (c_flow hZ hP hT0 hT (Or.inl rfl) hA1 hW (by rw [dp1]; exact ip)) rfl rfl (fun I74 f74 => ?_)
        obtain ⟨d2, o2⟩ := f74
        have d2' : dq 99 I74 = flq α q := by rw [d2, ← dp1]; rfl
        have l2 : I74 99 1 = (flq α q).1 := by rw [← d2']; rfl
        have x2 : I74 99 2 = (flq α q).2.1 := by rw [← d2']; rfl
        refine ev_aload_0 77 dX11_round_77 ?_
        refine ev_getA 78 4 dX11_round_78 fa_X11_40 (kd_0 hZ) (pr_0_4 hP) rfl ?_
        refine ev_iload_2 81 dX11_round_81 ?_
        refine ev_iload_3 82 dX11_round_82 ?_
        refine ev_cVp_2 83 dX11_round_83 kmX0_isWhere lk_X11_240 (kd_99 hZ) (c_isWhere hZ (Or.inl rfl) _ _) rfl rfl ?_
        try simp only [l2, x2]
        refine ev_ifb_eq 86 92 dX11_round_86 rfl (fun h86 => ?_) (fun h86 => ?_)
        · refine ev_iinc_4 92 dX11_round_92 ⟨by omega, by omega⟩ rfl rfl ?_
          refine ev_goto 95 62 dX11_round_95 rfl ?_
          exact ih _ _ _ (by omega) (by omega) d2' (fun a z1 => by rw [o2 a z1]; exact fr a z1) (flq_in hW ip) (e.trans (if_neg (by omega)))
        · refine ev_iload_4 89 dX11_round_89 ?_
          refine ev_iret 91 dX11_round_91 ?_ rfl
          exact QM_of ⟨(e.trans (if_pos (by omega))).symm, fun a z1 _ => by rw [o2 a z1]; exact fr a z1⟩
  have loop : (0 ≤ t ∧ t < σ 0 1) → ∀ (k : Nat) (n : Int) (q : Dq) (I1 : It), 0 ≤ n → n + k = 200 → dq 99 I1 = q → (∀ a, a ≠ 99 → I1 a = I a) → inD α q → flN α 200 (σ 3 t, σ 4 t, σ 5 t, σ 6 t) = flN α k q → Ev l g mX11_round (d + 4) 0 0 Z I1 P 23 [vA 0, vI t, vI n, vX, vX] [] (QM (fun r I' => r = rnA α σ t ∧ (∀ a, a ≠ 99 → a ≠ 100 → I' a = I a)) Z P) := by
    intro hgd k
    induction k with
    | zero =>
      intro n q I1 h0 h1 dp1 fr ip e
      have l1 : I1 99 1 = q.1 := by rw [← dp1]; rfl
      have x1 : I1 99 2 = q.2.1 := by rw [← dp1]; rfl
      refine ev_iload_2 23 dX11_round_23 ?_
      refine ev_sipush 24 dX11_round_24 ⟨by decide, by decide⟩ ?_
      refine ev_icmp_ge 27 43 dX11_round_27 rfl (fun h27 => ?_) (fun h27 => ?_)
      · refine ev_aload_0 43 dX11_round_43 ?_
        refine ev_getA 44 4 dX11_round_44 fa_X11_40 (kd_0 hZ) (pr_0_4 hP) rfl ?_
        refine ev_gI 47 1 1 dX11_round_47 fa_X11_231 (kd_99 hZ) rfl rfl rfl ?_
        try simp only [l1, x1]
        refine ev_istore_2 50 dX11_round_50 rfl rfl ?_
        refine ev_aload_0 51 dX11_round_51 ?_
        refine ev_getA 52 4 dX11_round_52 fa_X11_40 (kd_0 hZ) (pr_0_4 hP) rfl ?_
        refine ev_gI 55 2 2 dX11_round_55 fa_X11_234 (kd_99 hZ) rfl rfl rfl ?_
        try simp only [l1, x1]
        refine ev_istore_3 58 dX11_round_58 rfl rfl ?_
        refine ev_iconst 59 dX11_round_59 ⟨by decide, by decide⟩ ?_
        refine ev_istore_4 60 dX11_round_60 rfl rfl ?_
        exact loop2 hgd _ _ 200 1 q I1 (by omega) (by omega) dp1 fr ip (by unfold rnA; rw [if_pos hgd, e]; rfl)
      · exfalso; omega
    | succ k ih =>
      intro n q I1 h0 h1 dp1 fr ip e
      have hA1 := hA.od hT (Or.inl rfl) fr
      refine ev_iload_2 23 dX11_round_23 ?_
      refine ev_sipush 24 dX11_round_24 ⟨by decide, by decide⟩ ?_
      refine ev_icmp_ge 27 43 dX11_round_27 rfl (fun h27 => ?_) (fun h27 => ?_)
      · exfalso; omega
      · refine ev_aload_0 30 dX11_round_30 ?_
        refine ev_getA 31 4 dX11_round_31 fa_X11_40 (kd_0 hZ) (pr_0_4 hP) rfl ?_
        refine ev_cVv_0 34 dX11_round_34 kmX0_flow lk_X11_247 (kd_99 hZ) (c_flow hZ hP hT0 hT (Or.inl rfl) hA1 hW (by rw [dp1]; exact ip)) rfl rfl (fun I34 f34 => ?_)
        obtain ⟨d2, o2⟩ := f34
        have d2' : dq 99 I34 = flq α q := by rw [d2, ← dp1]; rfl
        refine ev_iinc_2 37 dX11_round_37 ⟨by omega, by omega⟩ rfl rfl ?_
        refine ev_goto 40 23 dX11_round_40 rfl ?_
        exact ih _ _ _ (by omega) (by omega) d2' (fun a z1 => by rw [o2 a z1]; exact fr a z1) (flq_in hW ip) e
  refine ev_aload_0 0 dX11_round_0 ?_
  refine ev_getA 1 1 dX11_round_1 fa_X11_19 (kd_0 hZ) (pr_0_1 hP) rfl ?_
  refine ev_iload_1 4 dX11_round_4 ?_
  refine ev_cVp_1 5 dX11_round_5 kmX6_isThing lk_X11_166 (kd_4 hZ) (c_isThing hZ hP _) rfl rfl ?_
  try simp only [aT, t1, t2, t3, t4, t5, t6, t7, t8, t9, t10, t11, t12, s0, s1, s2, s3, s4, s5, s6]
  refine ev_ifb_ne 8 13 dX11_round_8 rfl (fun h8 => ?_) (fun h8 => ?_)
  · refine ev_aload_0 13 dX11_round_13 ?_
    refine ev_getA 14 4 dX11_round_14 fa_X11_40 (kd_0 hZ) (pr_0_4 hP) rfl ?_
    refine ev_iload_1 17 dX11_round_17 ?_
    refine ev_cVv_1 18 dX11_round_18 kmX0_take lk_X11_191 (kd_99 hZ) (c_take hZ hP (Or.inl rfl) (by omega)) rfl rfl (fun I18 f18 => ?_)
    obtain ⟨d1, o1⟩ := f18
    rw [s3, s4, s5, s6] at d1
    refine ev_iconst 21 dX11_round_21 ⟨by decide, by decide⟩ ?_
    refine ev_istore_2 22 dX11_round_22 rfl rfl ?_
    exact loop (by omega) 200 0 _ I18 (by omega) (by omega) d1 o1 (hWS.2.2.2.2 t (by omega) (by omega)).1 rfl
  · refine ev_iconst 11 dX11_round_11 ⟨by decide, by decide⟩ ?_
    refine ev_iret 12 dX11_round_12 ?_ rfl
    exact QM_of ⟨(if_neg (by omega)).symm, fun _ _ _ => rfl⟩
theorem c_fall {l : Launch} {g : Gt} {d : Nat} {Z : Zt} {I : It} {P : Pt'} {T : Nat} {α σ : Nat → Int → Int} (hsn : SN T α Z I P) (hS : VS I σ) (hWS : WS α σ) (t w : Int) : Mt l g mX11_fall (d + 6) 0 0 [vA 0, vI t, vI w] Z I P (QM (fun r I' => r = faA α σ t w ∧ (∀ a, a ≠ 99 → a ≠ 100 → I' a = I a)) Z P) := by
  have hZ := hsn.1
  have hP := hsn.2.1
  have hT0 := hsn.2.2.1
  have hT := hsn.2.2.2.1
  have hW := hsn.2.2.2.2.2.1
  have w0 := hW.1
  have w1 := hW.2.1
  have w5 := hW.2.2.1
  have a0 : I T 0 = α 0 0 := hsn.2.2.2.2.1.at 0
  have a1 : I T 1 = α 0 1 := hsn.2.2.2.2.1.at 1
  have a5 : I T 5 = α 0 5 := hsn.2.2.2.2.1.at 5
  have a4 : I (T + 4) = α 4 := hsn.2.2.2.2.1 4 (by omega)
  have s1 : I 19 = σ 1 := hS 1 (by omega)
  have s2 : I 20 = σ 2 := hS 2 (by omega)
  clear s1 s2
  have aT : I T = α 0 := hsn.2.2.2.2.1 0 (by omega)
  have t1 : I (T + 1) = α 1 := hsn.2.2.2.2.1 1 (by omega)
  have t2 : I (T + 2) = α 2 := hsn.2.2.2.2.1 2 (by omega)
  have t3 : I (T + 3) = α 3 := hsn.2.2.2.2.1 3 (by omega)
  have t4 : I (T + 4) = α 4 := hsn.2.2.2.2.1 4 (by omega)
  have t5 : I (T + 5) = α 5 := hsn.2.2.2.2.1 5 (by omega)
  have t6 : I (T + 6) = α 6 := hsn.2.2.2.2.1 6 (by omega)
  have t7 : I (T + 7) = α 7 := hsn.2.2.2.2.1 7 (by omega)
  have t8 : I (T + 8) = α 8 := hsn.2.2.2.2.1 8 (by omega)
  have t9 : I (T + 9) = α 9 := hsn.2.2.2.2.1 9 (by omega)
  have t10 : I (T + 10) = α 10 := hsn.2.2.2.2.1 10 (by omega)
  have t11 : I (T + 11) = α 11 := hsn.2.2.2.2.1 11 (by omega)
  have t12 : I (T + 12) = α 12 := hsn.2.2.2.2.1 12 (by omega)
  have s0 : I 18 = σ 0 := hS 0 (by omega)
  have s1 : I 19 = σ 1 := hS 1 (by omega)
  have s2 : I 20 = σ 2 := hS 2 (by omega)
  have s3 : I 21 = σ 3 := hS 3 (by omega)
  have s4 : I 22 = σ 4 := hS 4 (by omega)
  have s5 : I 23 = σ 5 := hS 5 (by omega)
  have s6 : I 24 = σ 6 := hS 6 (by omega)
  have w18 := hWS.2.1
  have hA := hsn.2.2.2.2.1
  refine Mt.of kmX11_fall (ls := [vA 0, vI t, vI w, vX]) (fun _ => rfl) (fun _ => rfl) (okf_k (okf_k (okf_k (okf_n rfl)))) (fun hok => ?_)
  refine ev_aload_0 0 dX11_fall_0 ?_
  refine ev_getA 1 1 dX11_fall_1 fa_X11_19 (kd_0 hZ) (pr_0_1 hP) rfl ?_
  refine ev_iload_1 4 dX11_fall_4 ?_
  refine ev_cVp_1 5 dX11_fall_5 kmX6_isTown lk_X11_141 (kd_4 hZ) (c_isTown hZ hP hT0 hT _) rfl rfl ?_
  try simp only [aT, t1, t2, t3, t4, t5, t6, t7, t8, t9, t10, t11, t12, s0, s1, s2, s3, s4, s5, s6]
  refine ev_ifb_eq 8 20 dX11_fall_8 rfl (fun h8 => ?_) (fun h8 => ?_)
  · refine ev_iconst 20 dX11_fall_20 ⟨by decide, by decide⟩ ?_
    refine ev_iret 21 dX11_fall_21 ?_ rfl
    exact QM_of ⟨(if_neg (by omega)).symm, fun _ _ _ => rfl⟩
  · refine ev_iload_2 11 dX11_fall_11 ?_
    refine ev_iconst 12 dX11_fall_12 ⟨by decide, by decide⟩ ?_
    refine ev_iconst 13 dX11_fall_13 ⟨by decide, by decide⟩ ?_
    refine ev_cSp_3 14 dX11_fall_14 kmX11_within lk_X11_111 (c_within _ _ _) rfl rfl ?_
    try simp only [aT, t1, t2, t3, t4, t5, t6, t7, t8, t9, t10, t11, t12, s0, s1, s2, s3, s4, s5, s6]
    refine ev_ifb_ne 17 22 dX11_fall_17 rfl (fun h17 => ?_) (fun h17 => ?_)
    · refine ev_aload_0 22 dX11_fall_22 ?_
      refine ev_getA 23 1 dX11_fall_23 fa_X11_19 (kd_0 hZ) (pr_0_1 hP) rfl ?_
      refine ev_getA 26 1 dX11_fall_26 fa_X11_147 (kd_4 hZ) (pr_4_1 hP) rfl ?_
      refine ev_getA 29 3 dX11_fall_29 fa_X11_162 (kd_18 hZ) (pr_18_3 hP) rfl ?_
      refine ev_iload_1 32 dX11_fall_32 ?_
      refine ev_zald 33 dX11_fall_33 (kd_20 hZ) ⟨by omega, by have := (ln_20 hZ); omega⟩ ?_
      try simp only [aT, t1, t2, t3, t4, t5, t6, t7, t8, t9, t10, t11, t12, s0, s1, s2, s3, s4, s5, s6]
      refine ev_if_eq 34 40 dX11_fall_34 rfl (fun h34 => ?_) (fun h34 => ?_)
      · have m1 := hW.2.2.2.2.2.2.1 t (by omega) (by omega)
        have m2 := hWS.2.2.1 t (by omega) (by omega)
        refine ev_aload_0 40 dX11_fall_40 ?_
        refine ev_getA 41 4 dX11_fall_41 fa_X11_40 (kd_0 hZ) (pr_0_4 hP) rfl ?_
        refine ev_aload_0 44 dX11_fall_44 ?_
        refine ev_getA 45 1 dX11_fall_45 fa_X11_19 (kd_0 hZ) (pr_0_1 hP) rfl ?_
        refine ev_getA 48 0 dX11_fall_48 fa_X11_122 (kd_4 hZ) hT0 rfl ?_
        refine ev_getA 51 6 dX11_fall_51 fa_X11_144 (kdT_0 hZ hT) (prT_6 hP hT) rfl ?_
        refine ev_iload_1 54 dX11_fall_54 ?_
        refine ev_iald 55 dX11_fall_55 (kdT_4 hZ hT) ⟨by omega, by have := (lnT_4 hZ hT); omega⟩ ?_
        try simp only [aT, t1, t2, t3, t4, t5, t6, t7, t8, t9, t10, t11, t12, s0, s1, s2, s3, s4, s5, s6]
        refine ev_aload_0 56 dX11_fall_56 ?_
        refine ev_getA 57 1 dX11_fall_57 fa_X11_19 (kd_0 hZ) (pr_0_1 hP) rfl ?_
        refine ev_getA 60 1 dX11_fall_60 fa_X11_147 (kd_4 hZ) (pr_4_1 hP) rfl ?_
        refine ev_getA 63 2 dX11_fall_63 fa_X11_151 (kd_18 hZ) (pr_18_2 hP) rfl ?_
        refine ev_iload_1 66 dX11_fall_66 ?_
        refine ev_iald 67 dX11_fall_67 (kd_19 hZ) ⟨by omega, by have := (ln_19 hZ); omega⟩ ?_
        try simp only [aT, t1, t2, t3, t4, t5, t6, t7, t8, t9, t10, t11, t12, s0, s1, s2, s3, s4, s5, s6]
        refine ev_bipush 68 dX11_fall_68 ⟨by decide, by decide⟩ ?_
        refine ev_cVv_3 70 dX11_fall_70 kmX0_put lk_X11_294 (kd_99 hZ) (c_put hZ (Or.inl rfl) _ _ _) rfl rfl (fun I70 f70 => ?_)
        obtain ⟨d1, o1⟩ := f70
        have hA1 := hA.od hT (Or.inl rfl) o1
        have hS1 := hS.od (Or.inl rfl) o1
        have hi1 : inD α (dq 99 I70) := by rw [d1]; exact ⟨m1.1, m2, by dsimp only; omega⟩
        refine ev_aload_0 73 dX11_fall_73 ?_
        refine ev_getA 74 4 dX11_fall_74 fa_X11_40 (kd_0 hZ) (pr_0_4 hP) rfl ?_
        refine ev_iload_1 77 dX11_fall_77 ?_
        refine ev_cVm_1 78 dX11_fall_78 kmX0_passUntilCaught lk_X11_298 (kd_99 hZ) (c_pUC hZ hP hT0 hT (Or.inl rfl) hA1 hS1 hW hi1 _) rfl rfl (fun x78 I78 f78 => ?_)
        obtain ⟨r2, d2, o2⟩ := f78
        rw [d1] at r2 d2
        refine ev_istore_3 81 dX11_fall_81 rfl rfl ?_
        refine ev_iload_2 82 dX11_fall_82 ?_
        refine ev_zne 83 96 dX11_fall_83 rfl (fun h83 => ?_) (fun h83 => ?_)
        · refine ev_iload_3 96 dX11_fall_96 ?_
          refine ev_iret 97 dX11_fall_97 ?_ rfl
          refine QM_of ⟨?_, fun a z1 z2 => by rw [o2 a z1, o1 a z1]⟩
          unfold faA
          rw [if_pos (by omega), if_pos (by omega)]
          first
            | (rw [if_pos (by omega), ← d2]; rfl)
            | (rw [if_neg (by omega)]; exact r2)
        · refine ev_aload_0 86 dX11_fall_86 ?_
          refine ev_getA 87 4 dX11_fall_87 fa_X11_40 (kd_0 hZ) (pr_0_4 hP) rfl ?_
          refine ev_gI 90 4 4 dX11_fall_90 fa_X11_237 (kd_99 hZ) rfl rfl rfl ?_
          try simp only [aT, t1, t2, t3, t4, t5, t6, t7, t8, t9, t10, t11, t12, s0, s1, s2, s3, s4, s5, s6]
          refine ev_goto 93 97 dX11_fall_93 rfl ?_
          refine ev_iret 97 dX11_fall_97 ?_ rfl
          refine QM_of ⟨?_, fun a z1 z2 => by rw [o2 a z1, o1 a z1]⟩
          unfold faA
          rw [if_pos (by omega), if_pos (by omega)]
          first
            | (rw [if_pos (by omega), ← d2]; rfl)
            | (rw [if_neg (by omega)]; exact r2)
      · refine ev_bipush 37 dX11_fall_37 ⟨by decide, by decide⟩ ?_
        refine ev_iret 39 dX11_fall_39 ?_ rfl
        exact QM_of ⟨((if_pos (by omega)).trans (if_neg (by omega))).symm, fun _ _ _ => rfl⟩
    · refine ev_iconst 20 dX11_fall_20 ⟨by decide, by decide⟩ ?_
      refine ev_iret 21 dX11_fall_21 ?_ rfl
      exact QM_of ⟨(if_neg (by omega)).symm, fun _ _ _ => rfl⟩
theorem c_sent {l : Launch} {g : Gt} {d : Nat} {Z : Zt} {I : It} {P : Pt'} {T : Nat} {α σ : Nat → Int → Int} (hsn : SN T α Z I P) (hS : VS I σ) (hWS : WS α σ) (a b w : Int) : Mt l g mX11_sent (d + 6) 0 0 [vA 0, vI a, vI b, vI w] Z I P (QM (fun r I' => r = seA α σ a b w ∧ (∀ a, a ≠ 99 → a ≠ 100 → I' a = I a)) Z P) := by
  have hZ := hsn.1
  have hP := hsn.2.1
  have hT0 := hsn.2.2.1
  have hT := hsn.2.2.2.1
  have hW := hsn.2.2.2.2.2.1
  have w0 := hW.1
  have w1 := hW.2.1
  have w5 := hW.2.2.1
  have a0 : I T 0 = α 0 0 := hsn.2.2.2.2.1.at 0
  have a1 : I T 1 = α 0 1 := hsn.2.2.2.2.1.at 1
  have a5 : I T 5 = α 0 5 := hsn.2.2.2.2.1.at 5
  have a4 : I (T + 4) = α 4 := hsn.2.2.2.2.1 4 (by omega)
  have s1 : I 19 = σ 1 := hS 1 (by omega)
  have s2 : I 20 = σ 2 := hS 2 (by omega)
  clear s1 s2
  have aT : I T = α 0 := hsn.2.2.2.2.1 0 (by omega)
  have t1 : I (T + 1) = α 1 := hsn.2.2.2.2.1 1 (by omega)
  have t2 : I (T + 2) = α 2 := hsn.2.2.2.2.1 2 (by omega)
  have t3 : I (T + 3) = α 3 := hsn.2.2.2.2.1 3 (by omega)
  have t4 : I (T + 4) = α 4 := hsn.2.2.2.2.1 4 (by omega)
  have t5 : I (T + 5) = α 5 := hsn.2.2.2.2.1 5 (by omega)
  have t6 : I (T + 6) = α 6 := hsn.2.2.2.2.1 6 (by omega)
  have t7 : I (T + 7) = α 7 := hsn.2.2.2.2.1 7 (by omega)
  have t8 : I (T + 8) = α 8 := hsn.2.2.2.2.1 8 (by omega)
  have t9 : I (T + 9) = α 9 := hsn.2.2.2.2.1 9 (by omega)
  have t10 : I (T + 10) = α 10 := hsn.2.2.2.2.1 10 (by omega)
  have t11 : I (T + 11) = α 11 := hsn.2.2.2.2.1 11 (by omega)
  have t12 : I (T + 12) = α 12 := hsn.2.2.2.2.1 12 (by omega)
  have s0 : I 18 = σ 0 := hS 0 (by omega)
  have s1 : I 19 = σ 1 := hS 1 (by omega)
  have s2 : I 20 = σ 2 := hS 2 (by omega)
  have s3 : I 21 = σ 3 := hS 3 (by omega)
  have s4 : I 22 = σ 4 := hS 4 (by omega)
  have s5 : I 23 = σ 5 := hS 5 (by omega)
  have s6 : I 24 = σ 6 := hS 6 (by omega)
  have w18 := hWS.2.1
  have hA := hsn.2.2.2.2.1
  have ht : T = 5 ∨ T = 118 := hT
  refine Mt.of kmX11_sent (ls := [vA 0, vI a, vI b, vI w, vX, vX, vX, vX]) (fun _ => rfl) (fun _ => rfl) (okf_k (okf_k (okf_k (okf_k (okf_n rfl))))) (fun hok => ?_)
  have loop : ((0 ≤ a ∧ a < α 0 5) ∧ (0 ≤ b ∧ b < α 0 5) ∧ a ≠ b ∧ (0 ≤ w ∧ w ≤ 1)) → σ 2 a = 0 → σ 2 b = 0 → ∀ (k n : Nat) (I1 : It) (vx : Vv), n + k = 10 → (∀ c, c ≠ 99 → I1 c = I c) → Ev l g mX11_sent (d + 6) 0 0 Z I1 P 82 [vA 0, vI a, vI b, vI w, vI (seF α σ a b n).1, vI (seF α σ a b n).2, vI n, vx] [] (QM (fun r I' => r = seA α σ a b w ∧ (∀ a, a ≠ 99 → a ≠ 100 → I' a = I a)) Z P) := by
    intro hgd hc1 hc2 k
    have m1 := hW.2.2.2.2.2.2.1 a (by omega) (by omega)
    have m2 := hWS.2.2.1 a (by omega) (by omega)
    induction k with
    | zero =>
      intro n I1 vx h1 fr
      obtain rfl : n = 10 := by omega
      refine ev_iload_6 82 dX11_sent_82 ?_
      refine ev_bipush 84 dX11_sent_84 ⟨by decide, by decide⟩ ?_
      refine ev_icmp_gt 86 164 dX11_sent_86 rfl (fun h86 => ?_) (fun h86 => ?_)
      · refine ev_iload_4 164 dX11_sent_164 ?_
        refine ev_bipush 166 dX11_sent_166 ⟨by decide, by decide⟩ ?_
        refine ev_jne 168 174 dX11_sent_168 rfl (fun h168 => ?_) (fun h168 => ?_)
        · refine ev_iload_3 174 dX11_sent_174 ?_
          refine ev_zne 175 183 dX11_sent_175 rfl (fun h175 => ?_) (fun h175 => ?_)
          · refine ev_iload_5 183 dX11_sent_183 ?_
            refine ev_iret 185 dX11_sent_185 ?_ rfl
            refine QM_of ⟨?_, fun c z1 _ => fr c z1⟩
            unfold seA
            rw [if_pos hgd, if_pos ⟨hc1, hc2⟩]
            first
              | exact (if_pos (by assumption)).symm
              | exact ((if_neg (by assumption)).trans (if_pos (by omega))).symm
              | exact ((if_neg (by assumption)).trans (if_neg (by omega))).symm
          · refine ev_iload_4 178 dX11_sent_178 ?_
            refine ev_goto 180 185 dX11_sent_180 rfl ?_
            refine ev_iret 185 dX11_sent_185 ?_ rfl
            refine QM_of ⟨?_, fun c z1 _ => fr c z1⟩
            unfold seA
            rw [if_pos hgd, if_pos ⟨hc1, hc2⟩]
            first
              | exact (if_pos (by assumption)).symm
              | exact ((if_neg (by assumption)).trans (if_pos (by omega))).symm
              | exact ((if_neg (by assumption)).trans (if_neg (by omega))).symm
        · refine ev_bipush 171 dX11_sent_171 ⟨by decide, by decide⟩ ?_
          refine ev_iret 173 dX11_sent_173 ?_ rfl
          refine QM_of ⟨?_, fun c z1 _ => fr c z1⟩
          unfold seA
          rw [if_pos hgd, if_pos ⟨hc1, hc2⟩]
          first
            | exact (if_pos (by assumption)).symm
            | exact ((if_neg (by assumption)).trans (if_pos (by omega))).symm
            | exact ((if_neg (by assumption)).trans (if_neg (by omega))).symm
      · exfalso; omega
    | succ k ih =>
      intro n I1 vx h1 fr
      have hA0 := hA.od hT (Or.inl rfl) fr
      have hS0 := hS.od (Or.inl rfl) fr
      have t4 : I1 (T + 4) = α 4 := hA0 4 (by omega)
      have s1 : I1 19 = σ 1 := hS0 1 (by omega)
      have n158 : ∀ (y z : Int) (I2 : It) (vx : Vv), (y, z) = seF α σ a b (n + 1) → (∀ c, c ≠ 99 → I2 c = I c) → Ev l g mX11_sent (d + 6) 0 0 Z I2 P 158 [vA 0, vI a, vI b, vI w, vI y, vI z, vI n, vx] [] (QM (fun r I' => r = seA α σ a b w ∧ (∀ a, a ≠ 99 → a ≠ 100 → I' a = I a)) Z P) := by
        intro y z I2 vx e fr2
        have e1 : y = (seF α σ a b (n + 1)).1 := by rw [← e]
        have e2 : z = (seF α σ a b (n + 1)).2 := by rw [← e]
        subst e1 e2
        refine ev_iinc_6 158 dX11_sent_158 ⟨by omega, by omega⟩ rfl rfl ?_
        refine ev_goto 161 82 dX11_sent_161 rfl ?_
        rw [show (n : Int) + 1 = ((n + 1 : Nat) : Int) by omega]
        exact ih (n + 1) I2 vx (by omega) fr2
      refine ev_iload_6 82 dX11_sent_82 ?_
      refine ev_bipush 84 dX11_sent_84 ⟨by decide, by decide⟩ ?_
      refine ev_icmp_gt 86 164 dX11_sent_86 rfl (fun h86 => ?_) (fun h86 => ?_)
      · exfalso; omega
      · refine ev_aload_0 89 dX11_sent_89 ?_
        refine ev_getA 90 4 dX11_sent_90 fa_X11_40 (kd_0 hZ) (pr_0_4 hP) rfl ?_
        refine ev_aload_0 93 dX11_sent_93 ?_
        refine ev_getA 94 1 dX11_sent_94 fa_X11_19 (kd_0 hZ) (pr_0_1 hP) rfl ?_
        refine ev_getA 97 0 dX11_sent_97 fa_X11_122 (kd_4 hZ) hT0 rfl ?_
        refine ev_getA 100 6 dX11_sent_100 fa_X11_144 (kdT_0 hZ hT) (prT_6 hP hT) rfl ?_
        refine ev_iload_1 103 dX11_sent_103 ?_
        refine ev_iald 104 dX11_sent_104 (kdT_4 hZ hT) ⟨by omega, by have := (lnT_4 hZ hT); omega⟩ ?_
        try simp only [t4, s1]
        try simp only [b2]
        refine ev_aload_0 105 dX11_sent_105 ?_
        refine ev_getA 106 1 dX11_sent_106 fa_X11_19 (kd_0 hZ) (pr_0_1 hP) rfl ?_
        refine ev_getA 109 1 dX11_sent_109 fa_X11_147 (kd_4 hZ) (pr_4_1 hP) rfl ?_
        refine ev_getA 112 2 dX11_sent_112 fa_X11_151 (kd_18 hZ) (pr_18_2 hP) rfl ?_
        refine ev_iload_1 115 dX11_sent_115 ?_
        refine ev_iald 116 dX11_sent_116 (kd_19 hZ) ⟨by omega, by have := (ln_19 hZ); omega⟩ ?_
        try simp only [t4, s1]
        try simp only [b2]
        refine ev_iload_6 117 dX11_sent_117 ?_
        refine ev_cVv_3 119 dX11_sent_119 kmX0_put lk_X11_294 (kd_99 hZ) (c_put hZ (Or.inl rfl) _ _ _) rfl rfl (fun I119 f119 => ?_)
        obtain ⟨d1, o1⟩ := f119
        have hA1 := hA0.od hT (Or.inl rfl) o1
        have hS1 := hS0.od (Or.inl rfl) o1
        have hi1 : inD α (dq 99 I119) := by rw [d1]; exact ⟨m1.1, m2, by dsimp only; omega⟩
        refine ev_aload_0 122 dX11_sent_122 ?_
        refine ev_getA 123 4 dX11_sent_123 fa_X11_40 (kd_0 hZ) (pr_0_4 hP) rfl ?_
        refine ev_iload_1 126 dX11_sent_126 ?_
        refine ev_cVm_1 127 dX11_sent_127 kmX0_passUntilCaught lk_X11_298 (kd_99 hZ) (c_pUC hZ hP hT0 hT (Or.inl rfl) hA1 hS1 hW hi1 _) rfl rfl (fun x127 I127 f127 => ?_)
        obtain ⟨r2, d2, o2⟩ := f127
        rw [d1] at r2 d2
        have b2 : I127 99 4 = (pu α σ a 60 1 (α 4 a, σ 1 a, (n : Int), -4)).2.2.2.2 := by rw [← d2]; rfl
        rw [r2]
        refine ev_istore_7 130 dX11_sent_130 rfl rfl ?_
        refine ev_aload_0 132 dX11_sent_132 ?_
        refine ev_getA 133 4 dX11_sent_133 fa_X11_40 (kd_0 hZ) (pr_0_4 hP) rfl ?_
        refine ev_gI 136 4 4 dX11_sent_136 fa_X11_237 (kd_99 hZ) rfl rfl rfl ?_
        try simp only [t4, s1]
        try simp only [b2]
        refine ev_iload_2 139 dX11_sent_139 ?_
        refine ev_jne 140 158 dX11_sent_140 rfl (fun h140 => ?_) (fun h140 => ?_)
        · first
            | exact n158 _ _ _ _ (if_pos ⟨by omega, by omega⟩).symm (fun c z => by rw [o2 c z, o1 c z]; exact fr c z)
            | exact n158 _ _ _ _ (if_neg (by omega)).symm (fun c z => by rw [o2 c z, o1 c z]; exact fr c z)
        · refine ev_iload_7 143 dX11_sent_143 ?_
          refine ev_iload_5 145 dX11_sent_145 ?_
          refine ev_icmp_ge 147 158 dX11_sent_147 rfl (fun h147 => ?_) (fun h147 => ?_)
          · first
              | exact n158 _ _ _ _ (if_pos ⟨by omega, by omega⟩).symm (fun c z => by rw [o2 c z, o1 c z]; exact fr c z)
              | exact n158 _ _ _ _ (if_neg (by omega)).symm (fun c z => by rw [o2 c z, o1 c z]; exact fr c z)
          · refine ev_iload_6 150 dX11_sent_150 ?_
            refine ev_istore_4 152 dX11_sent_152 rfl rfl ?_
            refine ev_iload_7 154 dX11_sent_154 ?_
            refine ev_istore_5 156 dX11_sent_156 rfl rfl ?_
            first
              | exact n158 _ _ _ _ (if_pos ⟨by omega, by omega⟩).symm (fun c z => by rw [o2 c z, o1 c z]; exact fr c z)
              | exact n158 _ _ _ _ (if_neg (by omega)).symm (fun c z => by rw [o2 c z, o1 c z]; exact fr c z)
  refine ev_aload_0 0 dX11_sent_0 ?_
  refine ev_getA 1 1 dX11_sent_1 fa_X11_19 (kd_0 hZ) (pr_0_1 hP) rfl ?_
  refine ev_iload_1 4 dX11_sent_4 ?_
  refine ev_cVp_1 5 dX11_sent_5 kmX6_isTown lk_X11_141 (kd_4 hZ) (c_isTown hZ hP hT0 hT _) rfl rfl ?_
  try simp only [aT, t1, t2, t3, t4, t5, t6, t7, t8, t9, t10, t11, t12, s0, s1, s2, s3, s4, s5, s6]
  refine ev_ifb_eq 8 36 dX11_sent_8 rfl (fun h8 => ?_) (fun h8 => ?_)
  · refine ev_iconst 36 dX11_sent_36 ⟨by decide, by decide⟩ ?_
    refine ev_iret 37 dX11_sent_37 ?_ rfl
    exact QM_of ⟨(if_neg (by omega)).symm, fun _ _ _ => rfl⟩
  · refine ev_aload_0 11 dX11_sent_11 ?_
    refine ev_getA 12 1 dX11_sent_12 fa_X11_19 (kd_0 hZ) (pr_0_1 hP) rfl ?_
    refine ev_iload_2 15 dX11_sent_15 ?_
    refine ev_cVp_1 16 dX11_sent_16 kmX6_isTown lk_X11_141 (kd_4 hZ) (c_isTown hZ hP hT0 hT _) rfl rfl ?_
    try simp only [aT, t1, t2, t3, t4, t5, t6, t7, t8, t9, t10, t11, t12, s0, s1, s2, s3, s4, s5, s6]
    refine ev_ifb_eq 19 36 dX11_sent_19 rfl (fun h19 => ?_) (fun h19 => ?_)
    · refine ev_iconst 36 dX11_sent_36 ⟨by decide, by decide⟩ ?_
      refine ev_iret 37 dX11_sent_37 ?_ rfl
      exact QM_of ⟨(if_neg (by omega)).symm, fun _ _ _ => rfl⟩
    · refine ev_iload_1 22 dX11_sent_22 ?_
      refine ev_iload_2 23 dX11_sent_23 ?_
      refine ev_icmp_eq 24 36 dX11_sent_24 rfl (fun h24 => ?_) (fun h24 => ?_)
      · refine ev_iconst 36 dX11_sent_36 ⟨by decide, by decide⟩ ?_
        refine ev_iret 37 dX11_sent_37 ?_ rfl
        exact QM_of ⟨(if_neg (by omega)).symm, fun _ _ _ => rfl⟩
      · refine ev_iload_3 27 dX11_sent_27 ?_
        refine ev_iconst 28 dX11_sent_28 ⟨by decide, by decide⟩ ?_
        refine ev_iconst 29 dX11_sent_29 ⟨by decide, by decide⟩ ?_
        refine ev_cSp_3 30 dX11_sent_30 kmX11_within lk_X11_111 (c_within _ _ _) rfl rfl ?_
        try simp only [aT, t1, t2, t3, t4, t5, t6, t7, t8, t9, t10, t11, t12, s0, s1, s2, s3, s4, s5, s6]
        refine ev_ifb_ne 33 38 dX11_sent_33 rfl (fun h33 => ?_) (fun h33 => ?_)
        · refine ev_aload_0 38 dX11_sent_38 ?_
          refine ev_getA 39 1 dX11_sent_39 fa_X11_19 (kd_0 hZ) (pr_0_1 hP) rfl ?_
          refine ev_getA 42 1 dX11_sent_42 fa_X11_147 (kd_4 hZ) (pr_4_1 hP) rfl ?_
          refine ev_getA 45 3 dX11_sent_45 fa_X11_162 (kd_18 hZ) (pr_18_3 hP) rfl ?_
          refine ev_iload_1 48 dX11_sent_48 ?_
          refine ev_zald 49 dX11_sent_49 (kd_20 hZ) ⟨by omega, by have := (ln_20 hZ); omega⟩ ?_
          try simp only [aT, t1, t2, t3, t4, t5, t6, t7, t8, t9, t10, t11, t12, s0, s1, s2, s3, s4, s5, s6]
          refine ev_zne 50 68 dX11_sent_50 rfl (fun h50 => ?_) (fun h50 => ?_)
          · refine ev_bipush 68 dX11_sent_68 ⟨by decide, by decide⟩ ?_
            refine ev_iret 70 dX11_sent_70 ?_ rfl
            exact QM_of ⟨((if_pos (by omega)).trans (if_neg (by omega))).symm, fun _ _ _ => rfl⟩
          · refine ev_aload_0 53 dX11_sent_53 ?_
            refine ev_getA 54 1 dX11_sent_54 fa_X11_19 (kd_0 hZ) (pr_0_1 hP) rfl ?_
            refine ev_getA 57 1 dX11_sent_57 fa_X11_147 (kd_4 hZ) (pr_4_1 hP) rfl ?_
            refine ev_getA 60 3 dX11_sent_60 fa_X11_162 (kd_18 hZ) (pr_18_3 hP) rfl ?_
            refine ev_iload_2 63 dX11_sent_63 ?_
            refine ev_zald 64 dX11_sent_64 (kd_20 hZ) ⟨by omega, by have := (ln_20 hZ); omega⟩ ?_
            try simp only [aT, t1, t2, t3, t4, t5, t6, t7, t8, t9, t10, t11, t12, s0, s1, s2, s3, s4, s5, s6]
            refine ev_if_eq 65 71 dX11_sent_65 rfl (fun h65 => ?_) (fun h65 => ?_)
            · refine ev_bipush 71 dX11_sent_71 ⟨by decide, by decide⟩ ?_
              refine ev_istore_4 73 dX11_sent_73 rfl rfl ?_
              refine ev_bipush 75 dX11_sent_75 ⟨by decide, by decide⟩ ?_
              refine ev_istore_5 77 dX11_sent_77 rfl rfl ?_
              refine ev_iconst 79 dX11_sent_79 ⟨by decide, by decide⟩ ?_
              refine ev_istore_6 80 dX11_sent_80 rfl rfl ?_
              exact loop (by omega) (by omega) (by omega) 10 0 I _ rfl (fun _ _ => rfl)
            · refine ev_bipush 68 dX11_sent_68 ⟨by decide, by decide⟩ ?_
              refine ev_iret 70 dX11_sent_70 ?_ rfl
              exact QM_of ⟨((if_pos (by omega)).trans (if_neg (by omega))).symm, fun _ _ _ => rfl⟩
        · refine ev_iconst 36 dX11_sent_36 ⟨by decide, by decide⟩ ?_
          refine ev_iret 37 dX11_sent_37 ?_ rfl
          exact QM_of ⟨(if_neg (by omega)).symm, fun _ _ _ => rfl⟩
