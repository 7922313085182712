/-! how few are to be hung elsewhere: the search -/
def RWd (α : Nat → Int → Int) (s : Int) (Z : Zt) (I : It) (P : Pt') (o : Option Nat) : Prop := ∃ R, o = some R ∧ RowAt Z P R ∧ R + 1 < Z.2.2 ∧ (R = 103 ∨ 145 ≤ R) ∧ (R = 103 ∨ I R 1 = 1) ∧ ∀ v, 0 ≤ v → v < 192 → I (R + 1) v = dS 1000000 α s v
theorem RWd.sy {α : Nat → Int → Int} {s : Int} {Z Z' : Zt} {I I' : It} {P P' : Pt'} {o : Option Nat} (h : RWd α s Z I P o) (k : SY Z I P Z' I' P') : RWd α s Z' I' P' o := by
  obtain ⟨R, h1, h2, h3, h4, h5, h6⟩ := h
  obtain ⟨k1, k2⟩ := k.2.2.2.1 R h2 h3 h4
  obtain ⟨k3, k4⟩ := k2 h5
  have := k.2.2.2.2.1
  exact ⟨R, h1, k1, by omega, h4, by rw [k3]; exact h5, fun v a b => by rw [k4 v]; exact h6 v a b⟩
def HMn (α : Nat → Int → Int) (h : Int → Int) (n : Int) (Z : Zt) (I : It) (P : Pt') : Prop := ∀ t, 0 ≤ t → t < n → I 110 t = 24 * α 4 t + h t ∧ (0 ≤ h t ∧ h t < α 0 0) ∧ RWd α (24 * α 4 t + h t) Z I P (P 111 t)
/-- a town is hung for a try -/
def HA (T : Nat) (α : Nat → Int → Int) (t s : Int) (Z : Zt) (I : It) (P : Pt') (Z' : Zt) (I' : It) (P' : Pt') : Prop := SN T α Z' I' P' ∧ SY Z I P Z' I' P' ∧ I' 110 t = s ∧ (∀ j, j ≠ t → I' 110 j = I 110 j) ∧ I' 109 = I 109 ∧ I' 106 = I 106 ∧ RWd α s Z' I' P' (P' 111 t) ∧ ∀ j, j ≠ t → P' 111 j = P 111 j
theorem HMn.hang {T : Nat} {α : Nat → Int → Int} {h : Int → Int} {n t x : Int} {Z Z' : Zt} {I I' : It} {P P' : Pt'} (hM : HMn α h n Z I P) (hx : 0 ≤ x ∧ x < α 0 0) (k : HA T α t (24 * α 4 t + x) Z I P Z' I' P') : HMn α (upH h t x) n Z' I' P' := by
  obtain ⟨k1, k2, k3, k4, k5, k6, k7, k8⟩ := k
  intro u a b
  by_cases e : u = t
  · subst e; rw [upH_s]; exact ⟨k3, hx, k7⟩
  · obtain ⟨m1, m2, m3⟩ := hM u a b
    rw [upH_k e, k4 u e, k8 u e]; exact ⟨m1, m2, m3.sy k2⟩
theorem HMn.more {T : Nat} {α : Nat → Int → Int} {h : Int → Int} {t : Int} {Z Z' : Zt} {I I' : It} {P P' : Pt'} (hM : HMn α h t Z I P) (hx : 0 ≤ h t ∧ h t < α 0 0) (k : HA T α t (24 * α 4 t + h t) Z I P Z' I' P') : HMn α h (t + 1) Z' I' P' := by
  obtain ⟨k1, k2, k3, k4, k5, k6, k7, k8⟩ := k
  intro u a b
  by_cases e : u = t
  · subst e; exact ⟨k3, hx, k7⟩
  · obtain ⟨m1, m2, m3⟩ := hM u a (by omega)
    rw [k4 u e, k8 u e]; exact ⟨m1, m2, m3.sy k2⟩
theorem HMn.ch {α : Nat → Int → Int} {h : Int → Int} {n : Int} {Z : Zt} {I I' : It} {P : Pt'} (hM : HMn α h n Z I P) (hi : ∀ a, a ≠ 109 → I' a = I a) : HMn α h n Z I' P := by
  intro u a b
  obtain ⟨m1, m2, R, m3, m4, m5, m6, m7, m8⟩ := hM u a b
  exact ⟨by rw [hi 110 (by omega)]; exact m1, m2, R, m3, m4, m5, m6, by rw [hi R (by omega)]; exact m7, fun v a b => by rw [hi (R + 1) (by omega)]; exact m8 v a b⟩
theorem upH_b {h : Int → Int} {t x : Int} : upH (upH h t x) t (h t) = h := by
  funext u
  by_cases e : u = t
  · subst e; exact upH_s
  · rw [upH_k e, upH_k e]
theorem HM_n {α : Nat → Int → Int} {h : Int → Int} {Z : Zt} {I : It} {P : Pt'} : HMn α h (α 0 5) Z I P ↔ HM α h Z I P := Iff.rfl
theorem c_hA {l : Launch} {g : Gt} {d : Nat} {Z : Zt} {I : It} {P : Pt'} {T : Nat} {α : Nat → Int → Int} (hsn : SN T α Z I P) {t s : Int} (ht : 0 ≤ t ∧ t < 6) (hs : gr α s) : Mt l g mX3_hangAt (d + 3) (2 * nn P) (194 * nn P) [vA 109, vI t, vI s] Z I P (QW (HA T α t s Z I P)) := by
  have hZ := hsn.1
  have hP := hsn.2.1
  have hT0 := hsn.2.2.1
  have hT := hsn.2.2.2.1
  have hW := hsn.2.2.2.2.2.1
  have w0 := hW.1
  have w1 := hW.2.1
  have w5 := hW.2.2.1
  obtain ⟨hsn0, sy0⟩ := hsn.ch (I' := upI I 110 t s) (P' := P) (fun a z1 z2 z3 => by simp (disch := omega) only [upI_A]) (fun _ _ => rfl)
  refine Mt.of kmX3_hangAt (ls := [vA 109, vI t, vI s]) (fun _ => rfl) (fun _ => rfl) (okf_k (okf_k (okf_k (okf_n rfl)))) (fun hok => ?_)
  refine ev_aload_0 0 dX3_hangAt_0 ?_
  refine ev_getA 1 2 dX3_hangAt_1 fa_X3_9 (kd_109 hZ) (pr_109_2 hP) rfl ?_
  refine ev_iload_1 4 dX3_hangAt_4 ?_
  refine ev_iload_2 5 dX3_hangAt_5 ?_
  refine ev_iast 6 dX3_hangAt_6 (kd_110 hZ) ⟨by omega, by have := (ln_110 hZ); omega⟩ ?_
  refine ev_aload_0 7 dX3_hangAt_7 ?_
  refine ev_getA 8 3 dX3_hangAt_8 fa_X3_17 (kd_109 hZ) (pr_109_3 hP) rfl ?_
  refine ev_iload_1 11 dX3_hangAt_11 ?_
  refine ev_aload_0 12 dX3_hangAt_12 ?_
  refine ev_getA 13 1 dX3_hangAt_13 fa_X3_38 (kd_109 hZ) (pr_109_1 hP) rfl ?_
  refine ev_iload_2 16 dX3_hangAt_16 ?_
  refine Ev.mono (bc' := 0 + 2 * nn P) (bs' := 0 + 194 * nn P) (by omega) (by omega) ?_
  refine ev_cVa_1 17 dX3_hangAt_17 kmX7_rowFrom lk_X3_72 (kd_101 hZ) (c_rowFrom hsn0 hs) rfl rfl (fun x17 Z17 I17 P17 f17 _ _ => ?_)
  obtain ⟨hsn, sx, hr, hlt, h3, hkn, hd⟩ := f17
  refine Ev.rows sx.2.2.2.2.2.1 sx.2.2.2.2.2.2 ?_
  have hZ := hsn.1
  have hP := hsn.2.1
  have hT0 := hsn.2.2.1
  refine ev_aast 20 dX3_hangAt_20 (kd_111 hZ) hr.1 (by omega) ⟨by omega, by have := (ln_111 hZ); omega⟩ ?_
  refine ev_vret 21 dX3_hangAt_21 ?_ rfl
  obtain ⟨hsn3, sy3⟩ := hsn.ch (I' := I17) (P' := upP P17 111 t (some x17)) (fun _ _ _ _ => rfl) (fun a ha => by simp (disch := omega) only [upP_A])
  have e110 : I17 110 = upI I 110 t s 110 := sx.2.1 110 (by omega)
  have eP : P17 111 = P 111 := sx.2.2.1 111 (by omega) (by omega)
  refine QW_of ⟨hsn3, sy0.tr (sx.sy.tr sy3), by rw [e110, upI_s], fun j hj => by rw [e110, upI_k hj], ?_, ?_, ⟨x17, upP_s _ _ _ _, (sy3.2.2.2.1 x17 hr hlt h3).1, hlt, h3, hkn, hd⟩, fun j hj => by rw [upP_k hj, eP]⟩
  · rw [sx.2.1 109 (by omega), upI_A (by omega)]
  · rw [sx.2.1 106 (by omega), upI_A (by omega)]
theorem c_s1 {l : Launch} {g : Gt} {d : Nat} {Z : Zt} {I : It} {P : Pt'} {T : Nat} {α σ : Nat → Int → Int} {h : Int → Int} (hsn : SN T α Z I P) (hS : VS I σ) (hWS : WS α σ) (hM : HM α h Z I P) {b : Int} (hb : I 109 4 = b) : Mt l g mX3_seekOne (d + 4) 0 0 [vA 109] Z I P (QM (fun r I' => ∃ q, LW (HG 1000000 α σ h b 0) (24 * α 0 5) q ∧ I' = upI I 109 6 q ∧ r = b2 (q ≠ -4)) Z P) := by
  have hZ := hsn.1
  have hP := hsn.2.1
  have hT0 := hsn.2.2.1
  have hT := hsn.2.2.2.1
  have hW := hsn.2.2.2.2.2.1
  have w0 := hW.1
  have w1 := hW.2.1
  have w5 := hW.2.2.1
  have a0 : I T 0 = α 0 0 := hsn.2.2.2.2.1.at 0
  have a1 : I T 1 = α 0 1 := hsn.2.2.2.2.1.at 1
  have a5 : I T 5 = α 0 5 := hsn.2.2.2.2.1.at 5
  have a4 : I (T + 4) = α 4 := hsn.2.2.2.2.1 4 (by omega)
  have s1 : I 19 = σ 1 := hS 1 (by omega)
  have s2 : I 20 = σ 2 := hS 2 (by omega)
  refine Mt.of kmX3_seekOne (ls := [vA 109]) (fun _ => rfl) (fun _ => rfl) (okf_k (okf_n rfl)) (fun hok => ?_)
  refine ev_aload_0 0 dX3_seekOne_0 ?_
  refine ev_aload_0 1 dX3_seekOne_1 ?_
  refine ev_iconst 2 dX3_seekOne_2 ⟨by decide, by decide⟩ ?_
  refine ev_cVb_1 3 dX3_seekOne_3 kmX3_seekAbove lk_X3_78 (kd_109 hZ) (c_sA hsn hS hWS hM hb (t := -1) (by omega)) rfl rfl (fun x3 f3 => ?_)
  refine ev_pI 6 6 6 dX3_seekOne_6 fp_X3_28 (kd_109 hZ) rfl rfl ?_
  refine ev_aload_0 9 dX3_seekOne_9 ?_
  refine ev_gI 10 6 6 dX3_seekOne_10 fa_X3_28 (kd_109 hZ) rfl rfl rfl ?_
  try simp (disch := omega) only [upI_s, upI_a, upI_k]
  refine ev_bipush 13 dX3_seekOne_13 ⟨by decide, by decide⟩ ?_
  refine ev_icmp_eq 15 22 dX3_seekOne_15 rfl (fun h15 => ?_) (fun h15 => ?_)
  · refine ev_iconst 22 dX3_seekOne_22 ⟨by decide, by decide⟩ ?_
    refine ev_zret 23 dX3_seekOne_23 (by first | omega | exact b2_or _) ?_ rfl
    first
      | exact QM_of ⟨x3, f3, rfl, (b2_t (by assumption)).symm⟩
      | exact QM_of ⟨x3, f3, rfl, (b2_f (by omega)).symm⟩
  · refine ev_iconst 18 dX3_seekOne_18 ⟨by decide, by decide⟩ ?_
    refine ev_goto 19 23 dX3_seekOne_19 rfl ?_
    refine ev_zret 23 dX3_seekOne_23 (by first | omega | exact b2_or _) ?_ rfl
    first
      | exact QM_of ⟨x3, f3, rfl, (b2_t (by assumption)).symm⟩
      | exact QM_of ⟨x3, f3, rfl, (b2_f (by omega)).symm⟩
theorem c_sW {l : Launch} {g : Gt} {d : Nat} {Z : Zt} {I : It} {P : Pt'} {T : Nat} {α σ : Nat → Int → Int} {h : Int → Int} (hsn : SN T α Z I P) (hS : VS I σ) (hWS : WS α σ) (hM : HM α h Z I P) {b : Int} (hb : I 109 4 = b) {t : Int} (ht : 0 ≤ t ∧ t < α 0 5) (h7 : I 109 7 = -4) : Mt l g mX3_seekWith (d + 4) (2 * nn P) (194 * nn P) [vA 109, vI t] Z I P (QG (fun r Z' I' P' => SN T α Z' I' P' ∧ SY Z I P Z' I' P' ∧ HM α h Z' I' P' ∧ I' 109 4 = b ∧ I' 109 5 = I 109 5 ∧ I' 106 = I 106 ∧ ((r = 1 ∧ ∃ x, (0 ≤ x ∧ x < α 0 0) ∧ (fun x => FR α σ h t x ∧ ∃ v, 0 ≤ v ∧ v < 24 * α 0 5 ∧ HG 1000000 α σ (upH h t x) b (t + 1) v) x ∧ (∀ y, 0 ≤ y → y < x → ¬ (fun x => FR α σ h t x ∧ ∃ v, 0 ≤ v ∧ v < 24 * α 0 5 ∧ HG 1000000 α σ (upH h t x) b (t + 1) v) y) ∧ I' 109 6 = 24 * t + x ∧ LW (HG 1000000 α σ (upH h t x) b (t + 1)) (24 * α 0 5) (I' 109 7)) ∨ (r = 0 ∧ (∀ y, 0 ≤ y → y < α 0 0 → ¬ (fun x => FR α σ h t x ∧ ∃ v, 0 ≤ v ∧ v < 24 * α 0 5 ∧ HG 1000000 α σ (upH h t x) b (t + 1) v) y) ∧ I' 109 6 = I 109 6 ∧ I' 109 7 = -4)))) := by
  have hZ := hsn.1
  have hP := hsn.2.1
  have hT0 := hsn.2.2.1
  have hT := hsn.2.2.2.1
  have hW := hsn.2.2.2.2.2.1
  have w0 := hW.1
  have w1 := hW.2.1
  have w5 := hW.2.2.1
  have m1 := (hW.2.2.2.2.2.2.1 t ht.1 ht.2).1
  have m0 := hM t ht.1 ht.2
  have gt : gr α (24 * α 4 t + h t) := ⟨by omega, by omega, by omega⟩
  refine Mt.of kmX3_seekWith (ls := [vA 109, vI t, vX, vX]) (fun _ => rfl) (fun _ => rfl) (okf_k (okf_k (okf_n rfl))) (fun hok => ?_)
  have loop : ∀ (k : Nat) (x : Int) (Z1 : Zt) (I1 : It) (P1 : Pt'), 0 ≤ x → x + k = α 0 0 → SN T α Z1 I1 P1 → SY Z I P Z1 I1 P1 → HM α h Z1 I1 P1 → I1 109 4 = b → I1 109 5 = I 109 5 → I1 106 = I 106 → I1 109 6 = I 109 6 → I1 109 7 = -4 → (∀ y, 0 ≤ y → y < x → ¬ (fun x => FR α σ h t x ∧ ∃ v, 0 ≤ v ∧ v < 24 * α 0 5 ∧ HG 1000000 α σ (upH h t x) b (t + 1) v) y) → Ev l g mX3_seekWith (d + 4) (2 * nn P1) (194 * nn P1) Z1 I1 P1 9 [vA 109, vI t, vI (24 * α 4 t + h t), vI x] [] (QG (fun r Z' I' P' => SN T α Z' I' P' ∧ SY Z I P Z' I' P' ∧ HM α h Z' I' P' ∧ I' 109 4 = b ∧ I' 109 5 = I 109 5 ∧ I' 106 = I 106 ∧ ((r = 1 ∧ ∃ x, (0 ≤ x ∧ x < α 0 0) ∧ (fun x => FR α σ h t x ∧ ∃ v, 0 ≤ v ∧ v < 24 * α 0 5 ∧ HG 1000000 α σ (upH h t x) b (t + 1) v) x ∧ (∀ y, 0 ≤ y → y < x → ¬ (fun x => FR α σ h t x ∧ ∃ v, 0 ≤ v ∧ v < 24 * α 0 5 ∧ HG 1000000 α σ (upH h t x) b (t + 1) v) y) ∧ I' 109 6 = 24 * t + x ∧ LW (HG 1000000 α σ (upH h t x) b (t + 1)) (24 * α 0 5) (I' 109 7)) ∨ (r = 0 ∧ (∀ y, 0 ≤ y → y < α 0 0 → ¬ (fun x => FR α σ h t x ∧ ∃ v, 0 ≤ v ∧ v < 24 * α 0 5 ∧ HG 1000000 α σ (upH h t x) b (t + 1) v) y) ∧ I' 109 6 = I 109 6 ∧ I' 109 7 = -4)))) := by
    intro k
    induction k with
    | zero =>
      intro x Z1 I1 P1 h0 h1 hsn sy hM hb q5 q106 q6 q7 g1
      obtain rfl : x = α 0 0 := by omega
      have hZ := hsn.1
      have hP := hsn.2.1
      have hT0 := hsn.2.2.1
      have hS := sy.vs hS
      have a0 : I1 T 0 = α 0 0 := hsn.2.2.2.2.1.at 0
      have a1 : I1 T 1 = α 0 1 := hsn.2.2.2.2.1.at 1
      have a5 : I1 T 5 = α 0 5 := hsn.2.2.2.2.1.at 5
      have a4 : I1 (T + 4) = α 4 := hsn.2.2.2.2.1 4 (by omega)
      have s1 : I1 19 = σ 1 := hS 1 (by omega)
      have s2 : I1 20 = σ 2 := hS 2 (by omega)
      refine ev_iload_3 9 dX3_seekWith_9 ?_
      refine ev_aload_0 10 dX3_seekWith_10 ?_
      refine ev_getA 11 0 dX3_seekWith_11 fa_X3_34 (kd_109 hZ) (pr_109_0 hP) rfl ?_
      refine ev_getA 14 0 dX3_seekWith_14 fa_X3_42 (kd_4 hZ) hT0 rfl ?_
      refine ev_gI 17 0 0 dX3_seekWith_17 fa_X3_94 (kdT_0 hZ hT) rfl rfl rfl ?_
      try simp only [a0]
      refine ev_icmp_ge 20 101 dX3_seekWith_20 rfl (fun h20 => ?_) (fun h20 => ?_)
      · refine ev_iconst 101 dX3_seekWith_101 ⟨by decide, by decide⟩ ?_
        refine ev_zret 102 dX3_seekWith_102 (by first | omega | exact b2_or _) ?_ rfl
        exact QG_of ⟨hsn, sy, hM, hb, q5, q106, Or.inr ⟨rfl, g1, q6, q7⟩⟩
      · exfalso; omega
    | succ k ih =>
      intro x Z1 I1 P1 h0 h1 hsn sy hM hb q5 q106 q6 q7 g1
      have n95 : ∀ (Z1 : Zt) (I1 : It) (P1 : Pt'), SN T α Z1 I1 P1 → SY Z I P Z1 I1 P1 → HM α h Z1 I1 P1 → I1 109 4 = b → I1 109 5 = I 109 5 → I1 106 = I 106 → I1 109 6 = I 109 6 → I1 109 7 = -4 → ¬ (fun x => FR α σ h t x ∧ ∃ v, 0 ≤ v ∧ v < 24 * α 0 5 ∧ HG 1000000 α σ (upH h t x) b (t + 1) v) x → Ev l g mX3_seekWith (d + 4) (2 * nn P1) (194 * nn P1) Z1 I1 P1 95 [vA 109, vI t, vI (24 * α 4 t + h t), vI x] [] (QG (fun r Z' I' P' => SN T α Z' I' P' ∧ SY Z I P Z' I' P' ∧ HM α h Z' I' P' ∧ I' 109 4 = b ∧ I' 109 5 = I 109 5 ∧ I' 106 = I 106 ∧ ((r = 1 ∧ ∃ x, (0 ≤ x ∧ x < α 0 0) ∧ (fun x => FR α σ h t x ∧ ∃ v, 0 ≤ v ∧ v < 24 * α 0 5 ∧ HG 1000000 α σ (upH h t x) b (t + 1) v) x ∧ (∀ y, 0 ≤ y → y < x → ¬ (fun x => FR α σ h t x ∧ ∃ v, 0 ≤ v ∧ v < 24 * α 0 5 ∧ HG 1000000 α σ (upH h t x) b (t + 1) v) y) ∧ I' 109 6 = 24 * t + x ∧ LW (HG 1000000 α σ (upH h t x) b (t + 1)) (24 * α 0 5) (I' 109 7)) ∨ (r = 0 ∧ (∀ y, 0 ≤ y → y < α 0 0 → ¬ (fun x => FR α σ h t x ∧ ∃ v, 0 ≤ v ∧ v < 24 * α 0 5 ∧ HG 1000000 α σ (upH h t x) b (t + 1) v) y) ∧ I' 109 6 = I 109 6 ∧ I' 109 7 = -4)))) := by
        intro Z1 I1 P1 hsn sy hM hb q5 q106 q6 q7 g2
        refine ev_iinc_3 95 dX3_seekWith_95 ⟨by omega, by omega⟩ rfl rfl ?_
        refine ev_goto 98 9 dX3_seekWith_98 rfl ?_
        exact ih _ _ _ _ (by omega) (by omega) hsn sy hM hb q5 q106 q6 q7 (fun y z1 z2 => by
          rcases Int.lt_or_le y x with z | z
          · exact g1 y z1 z
          · obtain rfl : y = x := by omega
            exact g2)
      have hZ := hsn.1
      have hP := hsn.2.1
      have hT0 := hsn.2.2.1
      have hS := sy.vs hS
      have a0 : I1 T 0 = α 0 0 := hsn.2.2.2.2.1.at 0
      have a1 : I1 T 1 = α 0 1 := hsn.2.2.2.2.1.at 1
      have a5 : I1 T 5 = α 0 5 := hsn.2.2.2.2.1.at 5
      have a4 : I1 (T + 4) = α 4 := hsn.2.2.2.2.1 4 (by omega)
      have s1 : I1 19 = σ 1 := hS 1 (by omega)
      have s2 : I1 20 = σ 2 := hS 2 (by omega)
      have gx : gr α (24 * α 4 t + x) := ⟨by omega, by omega, by omega⟩
      refine ev_iload_3 9 dX3_seekWith_9 ?_
      refine ev_aload_0 10 dX3_seekWith_10 ?_
      refine ev_getA 11 0 dX3_seekWith_11 fa_X3_34 (kd_109 hZ) (pr_109_0 hP) rfl ?_
      refine ev_getA 14 0 dX3_seekWith_14 fa_X3_42 (kd_4 hZ) hT0 rfl ?_
      refine ev_gI 17 0 0 dX3_seekWith_17 fa_X3_94 (kdT_0 hZ hT) rfl rfl rfl ?_
      try simp only [a0, a4]
      try simp only [y7]
      refine ev_icmp_ge 20 101 dX3_seekWith_20 rfl (fun h20 => ?_) (fun h20 => ?_)
      · exfalso; omega
      · refine ev_aload_0 23 dX3_seekWith_23 ?_
        refine ev_iload_1 24 dX3_seekWith_24 ?_
        refine ev_iload_3 25 dX3_seekWith_25 ?_
        refine ev_cVp_2 26 dX3_seekWith_26 kmX3_isFree lk_X3_97 (kd_109 hZ) (c_iF hsn hS hWS hM (by omega) (by omega)) rfl rfl ?_
        try simp only [a0, a4]
        try simp only [y7]
        refine ev_ifb_ne 29 35 dX3_seekWith_29 rfl (fun h29 => ?_) (fun h29 => ?_)
        · refine ev_aload_0 35 dX3_seekWith_35 ?_
          refine ev_iload_1 36 dX3_seekWith_36 ?_
          refine ev_aload_0 37 dX3_seekWith_37 ?_
          refine ev_getA 38 0 dX3_seekWith_38 fa_X3_34 (kd_109 hZ) (pr_109_0 hP) rfl ?_
          refine ev_getA 41 0 dX3_seekWith_41 fa_X3_42 (kd_4 hZ) hT0 rfl ?_
          refine ev_getA 44 6 dX3_seekWith_44 fa_X3_101 (kdT_0 hZ hT) (prT_6 hP hT) rfl ?_
          refine ev_iload_1 47 dX3_seekWith_47 ?_
          refine ev_iald 48 dX3_seekWith_48 (kdT_4 hZ hT) ⟨by omega, by have := (lnT_4 hZ hT); omega⟩ ?_
          try simp only [a0, a4]
          try simp only [y7]
          refine ev_iload_3 49 dX3_seekWith_49 ?_
          refine ev_cSp_2 50 dX3_seekWith_50 kmX11_spotOf lk_X3_104 (c_spotOf _ _ (by omega)) rfl rfl ?_
          try simp only [a0, a4]
          try simp only [y7]
          refine Ev.mono (bc' := 0 + 2 * nn P1) (bs' := 0 + 194 * nn P1) (by omega) (by omega) ?_
          refine ev_cVw_2 53 dX3_seekWith_53 kmX3_hangAt lk_X3_57 (kd_109 hZ) (c_hA hsn (by omega) gx) rfl rfl (fun Z53 I53 P53 f53 _ _ => ?_)
          have k53 := f53
          obtain ⟨hsn2, sy2, z110, zk, z109, z106, zr, zp⟩ := f53
          refine Ev.rows sy2.2.2.2.2.2.1 sy2.2.2.2.2.2.2 ?_
          have hM2 := (HM_n.mpr hM).hang (T := T) (x := x) (by omega) k53
          have hb2 : I53 109 4 = b := by rw [z109]; exact hb
          have hS2 := sy2.vs hS
          have hZ := hsn2.1
          have hP := hsn2.2.1
          have hT0 := hsn2.2.2.1
          refine ev_aload_0 56 dX3_seekWith_56 ?_
          refine ev_aload_0 57 dX3_seekWith_57 ?_
          refine ev_iload_1 58 dX3_seekWith_58 ?_
          refine ev_cVb_1 59 dX3_seekWith_59 kmX3_seekAbove lk_X3_78 (kd_109 hZ) (c_sA hsn2 hS2 hWS (HM_n.mp hM2) hb2 (by omega)) rfl rfl (fun x59 f59 => ?_)
          try simp only [a0, a4]
          try simp only [y7]
          refine ev_pI 62 7 7 dX3_seekWith_62 fp_X3_31 (kd_109 hZ) rfl rfl ?_
          obtain ⟨hsn3, sy3⟩ := hsn2.ch (I' := upI I53 109 7 x59) (P' := P53) (fun a z1 z2 z3 => by simp (disch := omega) only [upI_A]) (fun _ _ => rfl)
          refine ev_aload_0 65 dX3_seekWith_65 ?_
          refine ev_iload_1 66 dX3_seekWith_66 ?_
          refine ev_iload_2 67 dX3_seekWith_67 ?_
          refine Ev.mono (bc' := 0 + 2 * nn P53) (bs' := 0 + 194 * nn P53) (by omega) (by omega) ?_
          refine ev_cVw_2 68 dX3_seekWith_68 kmX3_hangAt lk_X3_57 (kd_109 hZ) (c_hA hsn3 (by omega) gt) rfl rfl (fun Z68 I68 P68 f68 _ _ => ?_)
          have k68 := f68
          obtain ⟨hsn4, sy4, y110, yk, y109, y106, yr, yp⟩ := f68
          refine Ev.rows sy4.2.2.2.2.2.1 sy4.2.2.2.2.2.2 ?_
          have hM4 := (hM2.ch (I' := upI I53 109 7 x59) (fun a ha => upI_A ha)).hang (T := T) (x := h t) (by omega) k68
          rw [upH_b] at hM4
          have hZ := hsn4.1
          have hP := hsn4.2.1
          have hT0 := hsn4.2.2.1
          have y4 : I68 109 4 = b := by rw [y109, upI_k (by omega)]; exact hb2
          have y5 : I68 109 5 = I 109 5 := by rw [y109, upI_k (by omega), z109]; exact q5
          have y6 : I68 109 6 = I 109 6 := by rw [y109, upI_k (by omega), z109]; exact q6
          have y7 : I68 109 7 = x59 := by rw [y109, upI_s]
          have y106' : I68 106 = I 106 := by rw [y106, upI_A (by omega), z106]; exact q106
          have syA := sy.tr (sy2.tr (sy3.tr sy4))
          refine ev_aload_0 71 dX3_seekWith_71 ?_
          refine ev_gI 72 7 7 dX3_seekWith_72 fa_X3_31 (kd_109 hZ) rfl rfl rfl ?_
          try simp (disch := omega) only [upI_s, upI_a, upI_k]
          try simp only [a0, a4]
          try simp only [y7]
          refine ev_bipush 75 dX3_seekWith_75 ⟨by decide, by decide⟩ ?_
          refine ev_jne 77 83 dX3_seekWith_77 rfl (fun h77 => ?_) (fun h77 => ?_)
          · refine ev_aload_0 83 dX3_seekWith_83 ?_
            refine ev_bipush 84 dX3_seekWith_84 ⟨by decide, by decide⟩ ?_
            refine ev_iload_1 86 dX3_seekWith_86 ?_
            refine ev_imul 87 dX3_seekWith_87 ⟨by omega, by omega⟩ ?_
            refine ev_iload_3 88 dX3_seekWith_88 ?_
            refine ev_iadd 89 dX3_seekWith_89 ⟨by omega, by omega⟩ ?_
            refine ev_pI 90 6 6 dX3_seekWith_90 fp_X3_28 (kd_109 hZ) rfl rfl ?_
            refine ev_iconst 93 dX3_seekWith_93 ⟨by decide, by decide⟩ ?_
            refine ev_zret 94 dX3_seekWith_94 (by first | omega | exact b2_or _) ?_ rfl
            obtain ⟨hsn5, sy5⟩ := hsn4.ch (I' := upI I68 109 6 (24 * t + x)) (P' := P68) (fun a z1 z2 z3 => by simp (disch := omega) only [upI_A]) (fun _ _ => rfl)
            refine QG_of ⟨hsn5, syA.tr sy5, hM4.ch (fun a ha => upI_A ha), by rw [upI_k (by omega)]; exact y4, by rw [upI_k (by omega)]; exact y5, by rw [upI_A (by omega)]; exact y106', Or.inl ⟨rfl, x, ⟨by omega, by omega⟩, ⟨h29, ?_⟩, g1, upI_s _ _ _ _, by rw [upI_k (by omega), y7]; exact f59⟩⟩
            rcases f59 with ⟨z1, z2⟩ | ⟨z1, z2, z3, z4⟩
            · exact absurd z1 h77
            · exact ⟨x59, z1, z2, z3⟩
          · refine ev_goto 80 95 dX3_seekWith_80 rfl ?_
            first
              | exact n95 _ _ _ hsn sy hM hb q5 q106 q6 q7 (fun z => h29 z.1)
              | (refine n95 _ _ _ hsn4 syA hM4 y4 y5 y106' y6 (y7.trans h77) (fun z => ?_); obtain ⟨z0, v, z1, z2, z3⟩ := z; rcases f59 with ⟨w1, w2⟩ | ⟨w1, w2, w3, w4⟩; exact w2 v z1 z2 z3; omega)
        · refine ev_goto 32 95 dX3_seekWith_32 rfl ?_
          first
            | exact n95 _ _ _ hsn sy hM hb q5 q106 q6 q7 (fun z => h29 z.1)
            | (refine n95 _ _ _ hsn4 syA hM4 y4 y5 y106' y6 (y7.trans h77) (fun z => ?_); obtain ⟨z0, v, z1, z2, z3⟩ := z; rcases f59 with ⟨w1, w2⟩ | ⟨w1, w2, w3, w4⟩; exact w2 v z1 z2 z3; omega)
  refine ev_aload_0 0 dX3_seekWith_0 ?_
  refine ev_getA 1 2 dX3_seekWith_1 fa_X3_9 (kd_109 hZ) (pr_109_2 hP) rfl ?_
  refine ev_iload_1 4 dX3_seekWith_4 ?_
  refine ev_iald 5 dX3_seekWith_5 (kd_110 hZ) ⟨by omega, by have := (ln_110 hZ); omega⟩ ?_
  try simp only [m0.1]
  refine ev_istore_2 6 dX3_seekWith_6 rfl rfl ?_
  refine ev_iconst 7 dX3_seekWith_7 ⟨by decide, by decide⟩ ?_
  refine ev_istore_3 8 dX3_seekWith_8 rfl rfl ?_
  exact loop (α 0 0).toNat 0 Z I P (by omega) (by omega) hsn SY.rf hM hb rfl rfl rfl h7 (fun y z1 z2 => by omega)
theorem c_s2 {l : Launch} {g : Gt} {d : Nat} {Z : Zt} {I : It} {P : Pt'} {T : Nat} {α σ : Nat → Int → Int} {h : Int → Int} (hsn : SN T α Z I P) (hS : VS I σ) (hWS : WS α σ) (hM : HM α h Z I P) {b : Int} (hb : I 109 4 = b) (h7 : I 109 7 = -4) : Mt l g mX3_seekTwo (d + 5) (2 * nn P) (194 * nn P) [vA 109] Z I P (QG (fun r Z' I' P' => SN T α Z' I' P' ∧ SY Z I P Z' I' P' ∧ I' 109 5 = I 109 5 ∧ I' 106 = I 106 ∧ ((r = 1 ∧ ∃ q, q ≠ -4 ∧ LW (P2 1000000 α σ h b) (24 * α 0 5) q ∧ I' 109 6 = q ∧ LW (HG 1000000 α σ (upH h (q / 24) (q % 24)) b (q / 24 + 1)) (24 * α 0 5) (I' 109 7)) ∨ (r = 0 ∧ LW (P2 1000000 α σ h b) (24 * α 0 5) (-4) ∧ I' 109 6 = I 109 6 ∧ I' 109 7 = -4)))) := by
  have hZ := hsn.1
  have hP := hsn.2.1
  have hT0 := hsn.2.2.1
  have hT := hsn.2.2.2.1
  have hW := hsn.2.2.2.2.2.1
  have w0 := hW.1
  have w1 := hW.2.1
  have w5 := hW.2.2.1
  refine Mt.of kmX3_seekTwo (ls := [vA 109, vX]) (fun _ => rfl) (fun _ => rfl) (okf_k (okf_n rfl)) (fun hok => ?_)
  have loop : ∀ (k : Nat) (t : Int) (Z1 : Zt) (I1 : It) (P1 : Pt'), 0 ≤ t → t + k = α 0 5 → SN T α Z1 I1 P1 → SY Z I P Z1 I1 P1 → HM α h Z1 I1 P1 → I1 109 4 = b → I1 109 5 = I 109 5 → I1 106 = I 106 → I1 109 6 = I 109 6 → I1 109 7 = -4 → (∀ w, 0 ≤ w → w < 24 * t → ¬ P2 1000000 α σ h b w) → Ev l g mX3_seekTwo (d + 5) (2 * nn P1) (194 * nn P1) Z1 I1 P1 2 [vA 109, vI t] [] (QG (fun r Z' I' P' => SN T α Z' I' P' ∧ SY Z I P Z' I' P' ∧ I' 109 5 = I 109 5 ∧ I' 106 = I 106 ∧ ((r = 1 ∧ ∃ q, q ≠ -4 ∧ LW (P2 1000000 α σ h b) (24 * α 0 5) q ∧ I' 109 6 = q ∧ LW (HG 1000000 α σ (upH h (q / 24) (q % 24)) b (q / 24 + 1)) (24 * α 0 5) (I' 109 7)) ∨ (r = 0 ∧ LW (P2 1000000 α σ h b) (24 * α 0 5) (-4) ∧ I' 109 6 = I 109 6 ∧ I' 109 7 = -4)))) := by
    intro k
    induction k with
    | zero =>
      intro t Z1 I1 P1 h0 h1 hsn sy hM hb q5 q106 q6 q7 g1
      obtain rfl : t = α 0 5 := by omega
      have hZ := hsn.1
      have hP := hsn.2.1
      have hT0 := hsn.2.2.1
      have hS := sy.vs hS
      have a0 : I1 T 0 = α 0 0 := hsn.2.2.2.2.1.at 0
      have a1 : I1 T 1 = α 0 1 := hsn.2.2.2.2.1.at 1
      have a5 : I1 T 5 = α 0 5 := hsn.2.2.2.2.1.at 5
      have a4 : I1 (T + 4) = α 4 := hsn.2.2.2.2.1 4 (by omega)
      have s1 : I1 19 = σ 1 := hS 1 (by omega)
      have s2 : I1 20 = σ 2 := hS 2 (by omega)
      refine ev_iload_1 2 dX3_seekTwo_2 ?_
      refine ev_aload_0 3 dX3_seekTwo_3 ?_
      refine ev_getA 4 0 dX3_seekTwo_4 fa_X3_34 (kd_109 hZ) (pr_109_0 hP) rfl ?_
      refine ev_getA 7 0 dX3_seekTwo_7 fa_X3_42 (kd_4 hZ) hT0 rfl ?_
      refine ev_gI 10 5 5 dX3_seekTwo_10 fa_X3_48 (kdT_0 hZ hT) rfl rfl rfl ?_
      try simp only [a5]
      refine ev_icmp_ge 13 47 dX3_seekTwo_13 rfl (fun h13 => ?_) (fun h13 => ?_)
      · refine ev_iconst 47 dX3_seekTwo_47 ⟨by decide, by decide⟩ ?_
        refine ev_zret 48 dX3_seekTwo_48 (by first | omega | exact b2_or _) ?_ rfl
        exact QG_of ⟨hsn, sy, q5, q106, Or.inr ⟨rfl, Or.inl ⟨rfl, g1⟩, q6, q7⟩⟩
      · exfalso; omega
    | succ k ih =>
      intro t Z1 I1 P1 h0 h1 hsn sy hM hb q5 q106 q6 q7 g1
      have n41 : ∀ (Z1 : Zt) (I1 : It) (P1 : Pt'), SN T α Z1 I1 P1 → SY Z I P Z1 I1 P1 → HM α h Z1 I1 P1 → I1 109 4 = b → I1 109 5 = I 109 5 → I1 106 = I 106 → I1 109 6 = I 109 6 → I1 109 7 = -4 → (∀ w, 24 * t ≤ w → w < 24 * t + 24 → ¬ P2 1000000 α σ h b w) → Ev l g mX3_seekTwo (d + 5) (2 * nn P1) (194 * nn P1) Z1 I1 P1 41 [vA 109, vI t] [] (QG (fun r Z' I' P' => SN T α Z' I' P' ∧ SY Z I P Z' I' P' ∧ I' 109 5 = I 109 5 ∧ I' 106 = I 106 ∧ ((r = 1 ∧ ∃ q, q ≠ -4 ∧ LW (P2 1000000 α σ h b) (24 * α 0 5) q ∧ I' 109 6 = q ∧ LW (HG 1000000 α σ (upH h (q / 24) (q % 24)) b (q / 24 + 1)) (24 * α 0 5) (I' 109 7)) ∨ (r = 0 ∧ LW (P2 1000000 α σ h b) (24 * α 0 5) (-4) ∧ I' 109 6 = I 109 6 ∧ I' 109 7 = -4)))) := by
        intro Z1 I1 P1 hsn sy hM hb q5 q106 q6 q7 g2
        refine ev_iinc_1 41 dX3_seekTwo_41 ⟨by omega, by omega⟩ rfl rfl ?_
        refine ev_goto 44 2 dX3_seekTwo_44 rfl ?_
        exact ih _ _ _ _ (by omega) (by omega) hsn sy hM hb q5 q106 q6 q7 (fun y z1 z2 => by
          rcases Int.lt_or_le y (24 * t) with z | z
          · exact g1 y z1 z
          · exact g2 y z (by omega))
      have hZ := hsn.1
      have hP := hsn.2.1
      have hT0 := hsn.2.2.1
      have hS := sy.vs hS
      have a0 : I1 T 0 = α 0 0 := hsn.2.2.2.2.1.at 0
      have a1 : I1 T 1 = α 0 1 := hsn.2.2.2.2.1.at 1
      have a5 : I1 T 5 = α 0 5 := hsn.2.2.2.2.1.at 5
      have a4 : I1 (T + 4) = α 4 := hsn.2.2.2.2.1 4 (by omega)
      have s1 : I1 19 = σ 1 := hS 1 (by omega)
      have s2 : I1 20 = σ 2 := hS 2 (by omega)
      refine ev_iload_1 2 dX3_seekTwo_2 ?_
      refine ev_aload_0 3 dX3_seekTwo_3 ?_
      refine ev_getA 4 0 dX3_seekTwo_4 fa_X3_34 (kd_109 hZ) (pr_109_0 hP) rfl ?_
      refine ev_getA 7 0 dX3_seekTwo_7 fa_X3_42 (kd_4 hZ) hT0 rfl ?_
      refine ev_gI 10 5 5 dX3_seekTwo_10 fa_X3_48 (kdT_0 hZ hT) rfl rfl rfl ?_
      try simp only [a5, s2]
      refine ev_icmp_ge 13 47 dX3_seekTwo_13 rfl (fun h13 => ?_) (fun h13 => ?_)
      · exfalso; omega
      · refine ev_aload_0 16 dX3_seekTwo_16 ?_
        refine ev_getA 17 0 dX3_seekTwo_17 fa_X3_34 (kd_109 hZ) (pr_109_0 hP) rfl ?_
        refine ev_getA 20 1 dX3_seekTwo_20 fa_X3_81 (kd_4 hZ) (pr_4_1 hP) rfl ?_
        refine ev_getA 23 3 dX3_seekTwo_23 fa_X3_85 (kd_18 hZ) (pr_18_3 hP) rfl ?_
        refine ev_iload_1 26 dX3_seekTwo_26 ?_
        refine ev_zald 27 dX3_seekTwo_27 (kd_20 hZ) ⟨by omega, by have := (ln_20 hZ); omega⟩ ?_
        try simp only [a5, s2]
        refine ev_zne 28 41 dX3_seekTwo_28 rfl (fun h28 => ?_) (fun h28 => ?_)
        · refine n41 _ _ _ hsn sy hM hb q5 q106 q6 q7 (fun w z1 z2 z3 => ?_)
          have := z3.2.1
          rw [show w / 24 = t by omega] at this
          exact absurd this (by assumption)
        · have hcu : σ 2 t = 0 := by omega
          refine ev_aload_0 31 dX3_seekTwo_31 ?_
          refine ev_iload_1 32 dX3_seekTwo_32 ?_
          refine Ev.mono (bc' := 0 + 2 * nn P1) (bs' := 0 + 194 * nn P1) (by omega) (by omega) ?_
          refine ev_cVg_1 33 dX3_seekTwo_33 kmX3_seekWith lk_X3_91 (kd_109 hZ) (c_sW hsn hS hWS hM hb (by omega) q7) rfl rfl (fun x33 Z33 I33 P33 f33 _ _ => ?_)
          obtain ⟨hsn2, sy2, hM2, u4, u5, u106, ur⟩ := f33
          refine Ev.rows sy2.2.2.2.2.2.1 sy2.2.2.2.2.2.2 ?_
          refine ev_if_eq 36 41 dX3_seekTwo_36 rfl (fun h36 => ?_) (fun h36 => ?_)
          · rcases ur with ⟨u0, _⟩ | ⟨u0, u1, u2, u3⟩
            · exfalso; omega
            refine n41 _ _ _ hsn2 (sy.tr sy2) hM2 u4 (u5.trans q5) (u106.trans q106) (u2.trans q6) u3 (fun w z1 z2 z3 => ?_)
            obtain ⟨y1, y2, y3, y4⟩ := z3
            rw [show w / 24 = t by omega] at y3 y4
            exact u1 (w % 24) (by omega) (by omega) ⟨y3, y4⟩
          · refine ev_iconst 39 dX3_seekTwo_39 ⟨by decide, by decide⟩ ?_
            refine ev_zret 40 dX3_seekTwo_40 (by first | omega | exact b2_or _) ?_ rfl
            rcases ur with ⟨u0, x, u1, u2, u3, u6, u7⟩ | ⟨u0, _⟩
            · refine QG_of ⟨hsn2, sy.tr sy2, u5.trans q5, u106.trans q106, Or.inl ⟨rfl, 24 * t + x, by omega, Or.inr ⟨by omega, by omega, ?_, fun w z1 z2 z3 => ?_⟩, u6, ?_⟩⟩
              · refine ⟨by omega, ?_, ?_, ?_⟩
                · rw [show (24 * t + x) / 24 = t by omega]; exact hcu
                · rw [show (24 * t + x) / 24 = t by omega, show (24 * t + x) % 24 = x by omega]; exact u2.1
                · rw [show (24 * t + x) / 24 = t by omega, show (24 * t + x) % 24 = x by omega]; exact u2.2
              · rcases Int.lt_or_le w (24 * t) with z | z
                · exact g1 w z1 z z3
                · obtain ⟨y1, y2, y3, y4⟩ := z3
                  rw [show w / 24 = t by omega] at y3 y4
                  exact u3 (w % 24) (by omega) (by omega) ⟨y3, y4⟩
              · rw [show (24 * t + x) / 24 = t by omega, show (24 * t + x) % 24 = x by omega]; exact u7
            · exfalso; omega
  refine ev_iconst 0 dX3_seekTwo_0 ⟨by decide, by decide⟩ ?_
  refine ev_istore_1 1 dX3_seekTwo_1 rfl rfl ?_
  exact loop (α 0 5).toNat 0 Z I P (by omega) (by omega) hsn SY.rf hM hb rfl rfl rfl h7 (fun y z1 z2 => by omega)
