/-! the class: a sea is laid, warmth leaks, years -/
theorem paF_n {wm x : Int} {n : Nat} {w : Int} (h : w ≠ 0) : paF wm x n w = (10 - x) * odF wm x n w := if_neg h
theorem rfC_d : ∀ q ∈ rfC, ¬ (q.1 = 4 ∧ q.2.1 = 0) ∧ ¬ (q.1 = 0 ∧ q.2.1 = 11) := by decide +kernel
theorem LayP.d1 {P : Pt'} {x : Option Nat} (h : LayP P) : LayP (upP P 4 0 x) := fun q hq => by
  have := (rfC_d q hq).1
  by_cases e : q.1 = 4
  · rw [e, upP_k (fun z => this ⟨e, z⟩), ← e]; exact h q hq
  · rw [upP_a e]; exact h q hq
theorem LayP.d2 {P : Pt'} {x : Option Nat} (h : LayP P) : LayP (upP P 0 11 x) := fun q hq => by
  have := (rfC_d q hq).2
  by_cases e : q.1 = 0
  · rw [e, upP_k (fun z => this ⟨e, z⟩), ← e]; exact h q hq
  · rw [upP_a e]; exact h q hq
theorem RO.sw {Z : Zt} {P : Pt'} {x y : Option Nat} (hRO : RO Z P) : RO Z (upP (upP P 4 0 x) 0 11 y) := by
  have e102 : upP (upP P 4 0 x) 0 11 y 102 = P 102 := by rw [upP_A (by omega), upP_A (by omega)]
  refine ⟨hRO.1, fun j R a b c => ?_⟩
  rw [e102] at c
  obtain ⟨c1, c2, c3, c4⟩ := hRO.2 j R a b c
  exact ⟨c1, c2, ⟨c3.1, by rw [upP_A (by omega), upP_A (by omega)]; exact c3.2.1, c3.2.2⟩, fun i i1 i2 i3 => by rw [e102] at i3; exact c4 i i1 i2 i3⟩
/-- what stands when a sea is laid -/
def LD0 (D : Nat → Int → Int) (I I' : It) : Prop := (I' 18 0 = 0 ∧ I' 18 1 = D 0 13 ∧ (∀ j, 0 ≤ j → j < 6 → I' 19 j = D 5 j ∧ I' 20 j = 0) ∧ (∀ j, 0 ≤ j → j < D 0 13 → I' 21 j = D 10 j ∧ I' 22 j = D 11 j ∧ I' 23 j = D 12 j ∧ I' 24 j = -4)) ∧ (I' 106 4 = 0 ∧ I' 112 4 = 0 ∧ I' 25 1 = 0 ∧ I' 25 2 = 0 ∧ I' 83 1 = 0 ∧ I' 83 2 = 0) ∧ (∀ a, (a = 2 ∨ (131 ≤ a ∧ a < 145)) → I' a = I a) ∧ ∀ j, j ≠ 2 → I' 1 j = I 1 j
theorem c_layText {l : Launch} {g : Gt} {d : Nat} {Z : Zt} {I : It} {P : Pt'} (hZ : LayC Z) (hP : LayP P) {T : Nat} (hT0 : P 4 0 = some T) (hT : IsT T) {D : Nat} (hD0 : P 0 11 = some D) (hD : IsT D) (hne : D ≠ T) (hRO : RO Z P) (hv : ∀ v, 0 ≤ v → v < 192 → I 104 v = 1000000) {tx : Int → Int} {n : Int} (hx : I 2 = tx) (hn : I 1 3 = n) (hlen : 0 ≤ n ∧ n ≤ 200) (hL : Ltr tx n) : Mt l g mX11_layText (d + 5) 0 0 [vA 0] Z I P (QG (fun r Z' I' P' => Z' = Z ∧ (((¬ ((rdF tx n 200 (startD (vw D I)) 0).1 = -4 ∧ hold (rdF tx n 200 (startD (vw D I)) 0).2)) ∧ r = 0 ∧ P' = P ∧ (∀ a, (a < D ∨ D + 13 ≤ a) → a ≠ 1 → a ≠ 3 → I' a = I a) ∧ (∀ j, j ≠ 2 → I' 1 j = I 1 j)) ∨
    (((rdF tx n 200 (startD (vw D I)) 0).1 = -4 ∧ hold (rdF tx n 200 (startD (vw D I)) 0).2) ∧ r = 1 ∧ P' = upP (upP P 4 0 (some D)) 0 11 (some T) ∧ SN D (rdF tx n 200 (startD (vw D I)) 0).2 Z I' P' ∧ LD0 (rdF tx n 200 (startD (vw D I)) 0).2 I I')))) := by
  refine Mt.of kmX11_layText (ls := [vA 0, vX]) (fun _ => rfl) (fun _ => rfl) (okf_k (okf_n rfl)) (fun hok => ?_)
  refine ev_aload_0 0 dX11_layText_0 ?_
  refine ev_getA 1 0 dX11_layText_1 fa_X11_12 (kd_0 hZ) (pr_0_0 hP) rfl ?_
  refine ev_aload_0 4 dX11_layText_4 ?_
  refine ev_getA 5 11 dX11_layText_5 fa_X11_84 (kd_0 hZ) hD0 rfl ?_
  refine ev_cVm_1 8 dX11_layText_8 kmX9_readInto lk_X11_118 (kd_1 hZ) (c_read hZ hP hD hx hn hlen hL) rfl rfl (fun x8 I8 f8 => ?_)
  obtain ⟨r1, r2, r3, r4⟩ := f8
  have rc := rdF_RC tx n 200 (startD (vw D I)) 0 (startD_Cn _) (startD_Rg _)
  obtain ⟨Rv, hRv⟩ : ∃ Rv, Rv = rdF tx n 200 (startD (vw D I)) 0 := ⟨_, rfl⟩
  rw [← hRv] at r1 r2 rc ⊢
  have hC8 : Cn (vw D I8) := by rw [r2]; exact rc.1
  refine ev_bipush 11 dX11_layText_11 ⟨by decide, by decide⟩ ?_
  refine ev_jne 13 26 dX11_layText_13 rfl (fun h13 => ?_) (fun h13 => ?_)
  · refine ev_iconst 26 dX11_layText_26 ⟨by decide, by decide⟩ ?_
    refine ev_zret 27 dX11_layText_27 (by first | omega | exact b2_or _) ?_ rfl
    refine QG_of ⟨rfl, Or.inl ⟨fun z => ?_, rfl, rfl, r3, r4⟩⟩
    first
      | (have := z.1; omega)
      | (rw [r2] at h23; exact h23 z.2)
  · refine ev_aload_0 16 dX11_layText_16 ?_
    refine ev_getA 17 11 dX11_layText_17 fa_X11_84 (kd_0 hZ) hD0 rfl ?_
    refine ev_cVp_0 20 dX11_layText_20 kmX10_holds lk_X11_332 (kdT_0 hZ hD) (c_holds hZ hP hD hC8) rfl rfl ?_
    refine ev_ifb_ne 23 28 dX11_layText_23 rfl (fun h23 => ?_) (fun h23 => ?_)
    · have hhd : hold Rv.2 := by rw [← r2]; assumption
      have hWF := WF_of rc.1 rc.2 hhd
      have hC13 := rc.1.2.2.2.1
      refine ev_aload_0 28 dX11_layText_28 ?_
      refine ev_getA 29 1 dX11_layText_29 fa_X11_19 (kd_0 hZ) (pr_0_1 hP) rfl ?_
      refine ev_getA 32 0 dX11_layText_32 fa_X11_122 (kd_4 hZ) hT0 rfl ?_
      refine ev_astore_1 35 dX11_layText_35 rfl rfl ?_
      refine ev_aload_0 36 dX11_layText_36 ?_
      refine ev_getA 37 1 dX11_layText_37 fa_X11_19 (kd_0 hZ) (pr_0_1 hP) rfl ?_
      refine ev_aload_0 40 dX11_layText_40 ?_
      refine ev_getA 41 11 dX11_layText_41 fa_X11_84 (kd_0 hZ) hD0 rfl ?_
      refine ev_pA 44 0 0 dX11_layText_44 fp_X11_122 (kd_4 hZ) (Or.inr ⟨by decide, _, _, _, rfl, rfl⟩) rfl rfl ?_
      refine ev_aload_0 47 dX11_layText_47 ?_
      refine ev_aload_1 48 dX11_layText_48 ?_
      refine ev_pA 49 11 11 dX11_layText_49 fp_X11_84 (kd_0 hZ) (Or.inr ⟨by decide, _, _, _, rfl, rfl⟩) rfl rfl ?_
      have hP : LayP (upP (upP P 4 0 (some D)) 0 11 (some T)) := (hP.d1 (x := some D)).d2 (x := some T)
      have hT2 : upP (upP P 4 0 (some D)) 0 11 (some T) 4 0 = some D := by rw [upP_a (by omega), upP_s]
      refine ev_aload_0 52 dX11_layText_52 ?_
      refine ev_getA 53 1 dX11_layText_53 fa_X11_19 (kd_0 hZ) (pr_0_1 hP) rfl ?_
      refine ev_cVv_0 56 dX11_layText_56 kmX6_start lk_X11_335 (kd_4 hZ) (c_seaStart hZ hP hT2 hD (by rw [show I8 D 13 = Rv.2 0 13 from congrFun (congrFun r2 0) 13]; omega)) rfl rfl (fun I56 f56 => ?_)
      obtain ⟨g1, g2, g3, g4, g5⟩ := f56
      have hAD : VT D I56 Rv.2 := fun c hc => by rw [g5 (D + c) (by rcases hD with rfl | rfl <;> omega)]; exact congrFun r2 c
      refine ev_aload_0 59 dX11_layText_59 ?_
      refine ev_getA 60 6 dX11_layText_60 fa_X11_50 (kd_0 hZ) (pr_0_6 hP) rfl ?_
      refine ev_cVv_0 63 dX11_layText_63 kmX7_start lk_X11_338 (kd_101 hZ) (c_sndStart hZ hP hT2 hD hAD hWF hRO.sw) rfl rfl (fun I63 f63 => ?_)
      refine ev_aload_0 66 dX11_layText_66 ?_
      refine ev_getA 67 7 dX11_layText_67 fa_X11_59 (kd_0 hZ) (pr_0_7 hP) rfl ?_
      refine ev_cVm_0 70 dX11_layText_70 kmX2_empty lk_X11_273 (kd_106 hZ) (c_hempty hZ) rfl rfl (fun x70 I70 f70 => ?_)
      refine ev_popI 73 dX11_layText_73 ?_
      refine ev_aload_0 74 dX11_layText_74 ?_
      refine ev_getA 75 9 dX11_layText_75 fa_X11_73 (kd_0 hZ) (pr_0_9 hP) rfl ?_
      refine ev_cVm_0 78 dX11_layText_78 kmX1_empty lk_X11_313 (kd_112 hZ) (c_dempty hZ) rfl rfl (fun x78 I78 f78 => ?_)
      refine ev_popI 81 dX11_layText_81 ?_
      refine ev_aload_0 82 dX11_layText_82 ?_
      refine ev_getA 83 2 dX11_layText_83 fa_X11_28 (kd_0 hZ) (pr_0_2 hP) rfl ?_
      refine ev_cVv_0 86 dX11_layText_86 kmX4_empty lk_X11_330 (kd_25 hZ) (c_pempty hZ (Or.inl ⟨rfl, rfl⟩)) rfl rfl (fun I86 f86 => ?_)
      refine ev_aload_0 89 dX11_layText_89 ?_
      refine ev_getA 90 3 dX11_layText_90 fa_X11_32 (kd_0 hZ) (pr_0_3 hP) rfl ?_
      refine ev_cVv_0 93 dX11_layText_93 kmX4_empty lk_X11_330 (kd_83 hZ) (c_pempty hZ (Or.inr ⟨rfl, rfl⟩)) rfl rfl (fun I93 f93 => ?_)
      refine ev_iconst 96 dX11_layText_96 ⟨by decide, by decide⟩ ?_
      refine ev_zret 97 dX11_layText_97 (by first | omega | exact b2_or _) ?_ rfl
      obtain ⟨y1, y2, y3⟩ := f63
      have dcase : D = 5 ∨ D = 118 := hD
      have v13 : I8 D 13 = Rv.2 0 13 := congrFun (congrFun r2 0) 13
      have v5 : ∀ c, I8 (D + c) = Rv.2 c := fun c => congrFun r2 c
      obtain ⟨f70a, f70b⟩ := f70
      obtain ⟨f78a, f78b⟩ := f78
      have e0 : ∀ a, a ≠ 106 → a ≠ 112 → a ≠ 25 → a ≠ 83 → I93 a = I63 a := fun a b3 b4 b5 b6 => by
        rw [f93, upI_A b6, upI_A b6, f86, upI_A b5, upI_A b5, f78b, upI_A b4, f70b, upI_A b3]
      have e1 : ∀ a, a < 145 → a ≠ 105 → a ≠ 106 → a ≠ 112 → a ≠ 25 → a ≠ 83 → I93 a = I56 a := fun a b1 b2 b3 b4 b5 b6 => by rw [e0 a b3 b4 b5 b6]; exact y3 a b1 b2
      have e2 : ∀ a, a < 145 → a ≠ 105 → a ≠ 106 → a ≠ 112 → a ≠ 25 → a ≠ 83 → (a < 18 ∨ 25 ≤ a) → I93 a = I8 a := fun a b1 b2 b3 b4 b5 b6 b7 => by rw [e1 a b1 b2 b3 b4 b5 b6]; exact g5 a (by omega)
      refine QG_of ⟨rfl, Or.inr ⟨⟨by omega, hhd⟩, rfl, rfl, ⟨hZ, hP, hT2, hD, fun c hc => ?_, hWF, hRO.sw, fun j R a b c => ?_, fun v a b => ?_, fun v hv => ?_⟩, ⟨?_, ?_, fun j a b => ?_, fun j a b => ?_⟩, ⟨?_, ?_, ?_, ?_, ?_, ?_⟩, fun a ha => ?_, fun j hj => ?_⟩⟩
      · rw [e2 (D + c) (by omega) (by omega) (by omega) (by omega) (by omega) (by omega) (by omega)]; exact v5 c
      · rw [upP_A (by omega), upP_A (by omega)] at c
        have := (hRO.2 j R a b c).1
        left
        rw [e0 R (by omega) (by omega) (by omega) (by omega)]
        exact y2 j R a b (by rw [upP_A (by omega), upP_A (by omega)]; exact c)
      · rw [e2 104 (by omega) (by omega) (by omega) (by omega) (by omega) (by omega) (by omega), r3 104 (by omega) (by omega) (by omega)]; exact hv v a b
      · have := gr_192 hWF hv
        rw [e0 105 (by omega) (by omega) (by omega) (by omega)]; exact y1 v this.1 this.2
      · rw [e1 18 (by omega) (by omega) (by omega) (by omega) (by omega) (by omega)]; exact g1
      · rw [e1 18 (by omega) (by omega) (by omega) (by omega) (by omega) (by omega), g2]; exact v13
      · rw [e1 19 (by omega) (by omega) (by omega) (by omega) (by omega) (by omega), e1 20 (by omega) (by omega) (by omega) (by omega) (by omega) (by omega), (g3 j a b).1, (g3 j a b).2, v5 5]; exact ⟨rfl, rfl⟩
      · rw [← v13] at b
        obtain ⟨z1, z2, z3, z4⟩ := g4 j a b
        rw [e1 21 (by omega) (by omega) (by omega) (by omega) (by omega) (by omega), e1 22 (by omega) (by omega) (by omega) (by omega) (by omega) (by omega), e1 23 (by omega) (by omega) (by omega) (by omega) (by omega) (by omega), e1 24 (by omega) (by omega) (by omega) (by omega) (by omega) (by omega), z1, z2, z3, z4, v5 10, v5 11, v5 12]
        exact ⟨rfl, rfl, rfl, rfl⟩
      · rw [f93, upI_A (by omega), upI_A (by omega), f86, upI_A (by omega), upI_A (by omega), f78b, upI_A (by omega), f70b, upI_s]
      · rw [f93, upI_A (by omega), upI_A (by omega), f86, upI_A (by omega), upI_A (by omega), f78b, upI_s]
      · rw [f93, upI_A (by omega), upI_A (by omega), f86, upI_k (by omega), upI_s]
      · rw [f93, upI_A (by omega), upI_A (by omega), f86, upI_s]
      · rw [f93, upI_k (by omega), upI_s]
      · rw [f93, upI_s]
      · rw [e2 a (by omega) (by omega) (by omega) (by omega) (by omega) (by omega) (by omega)]; exact r3 a (by omega) (by omega) (by omega)
      · rw [e2 1 (by omega) (by omega) (by omega) (by omega) (by omega) (by omega) (by omega)]; exact r4 j hj
    · refine ev_iconst 26 dX11_layText_26 ⟨by decide, by decide⟩ ?_
      refine ev_zret 27 dX11_layText_27 (by first | omega | exact b2_or _) ?_ rfl
      refine QG_of ⟨rfl, Or.inl ⟨fun z => ?_, rfl, rfl, r3, r4⟩⟩
      first
        | (have := z.1; omega)
        | (rw [r2] at h23; exact h23 z.2)
theorem c_lay {l : Launch} {g : Gt} {d : Nat} {Z : Zt} {I : It} {P : Pt'} (hZ : LayC Z) (hP : LayP P) {T : Nat} (hT0 : P 4 0 = some T) (hT : IsT T) {D : Nat} (hD0 : P 0 11 = some D) (hD : IsT D) (hne : D ≠ T) (hRO : RO Z P) (hv : ∀ v, 0 ≤ v → v < 192 → I 104 v = 1000000) {tx : Int → Int} {n : Int} (hx : I 2 = tx) (hn : I 1 3 = n) (hlen : 0 ≤ n ∧ n ≤ 200) (hL : Ltr tx n) : Mt l g mX11_lay (d + 6) 0 0 [vA 0] Z I P (QG (fun r Z' I' P' => Z' = Z ∧ (((¬ ((rdF tx n 200 (startD (vw D I)) 0).1 = -4 ∧ hold (rdF tx n 200 (startD (vw D I)) 0).2)) ∧ r = -2 ∧ P' = P ∧ (∀ a, (a < D ∨ D + 13 ≤ a) → a ≠ 1 → a ≠ 3 → I' a = I a) ∧ (∀ j, j ≠ 2 → I' 1 j = I 1 j)) ∨
    (((rdF tx n 200 (startD (vw D I)) 0).1 = -4 ∧ hold (rdF tx n 200 (startD (vw D I)) 0).2) ∧ r = (rdF tx n 200 (startD (vw D I)) 0).2 0 1 ∧ P' = upP (upP P 4 0 (some D)) 0 11 (some T) ∧ SN D (rdF tx n 200 (startD (vw D I)) 0).2 Z I' P' ∧ LD0 (rdF tx n 200 (startD (vw D I)) 0).2 I I')))) := by
  refine Mt.of kmX11_lay (ls := [vA 0]) (fun _ => rfl) (fun _ => rfl) (okf_k (okf_n rfl)) (fun hok => ?_)
  refine ev_aload_0 0 dX11_lay_0 ?_
  refine Ev.mono (bc' := 0 + 0) (bs' := 0 + 0) (by omega) (by omega) ?_
  refine ev_cVg_0 1 dX11_lay_1 kmX11_layText lk_X11_104 (kd_0 hZ) (c_layText hZ hP hT0 hT hD0 hD hne hRO hv hx hn hlen hL) rfl rfl (fun x1 Z1 I1 P1 f1 _ _ => ?_)
  obtain ⟨rfl, f1⟩ := f1
  refine Ev.mono (bc' := 0) (bs' := 0) (by omega) (by omega) ?_
  rcases f1 with ⟨g1, g2, g3, g4, g5⟩ | ⟨g1, g2, g3, g4, g5⟩
  · subst g2; subst g3
    refine ev_if_eq 4 20 dX11_lay_4 rfl (fun h4 => ?_) (fun h4 => ?_)
    · refine ev_bipush 20 dX11_lay_20 ⟨by decide, by decide⟩ ?_
      refine ev_iret 22 dX11_lay_22 ?_ rfl
      exact QG_of ⟨rfl, Or.inl ⟨g1, rfl, rfl, g4, g5⟩⟩
    · exfalso; omega
  · subst g2
    have hP1 := g4.2.1
    have hT1 := g4.2.2.1
    have aD : I1 D = (rdF tx n 200 (startD (vw D I)) 0).2 0 := g4.2.2.2.2.1 0 (by omega)
    refine ev_if_eq 4 20 dX11_lay_4 rfl (fun h4 => ?_) (fun h4 => ?_)
    · exfalso; omega
    · refine ev_aload_0 7 dX11_lay_7 ?_
      refine ev_getA 8 1 dX11_lay_8 fa_X11_19 (kd_0 hZ) (pr_0_1 hP1) rfl ?_
      refine ev_getA 11 0 dX11_lay_11 fa_X11_122 (kd_4 hZ) hT1 rfl ?_
      refine ev_gI 14 1 1 dX11_lay_14 fa_X11_125 (kdT_0 hZ hD) rfl rfl rfl ?_
      try simp only [aD]
      refine ev_goto 17 22 dX11_lay_17 rfl ?_
      refine ev_iret 22 dX11_lay_22 ?_ rfl
      exact QG_of ⟨rfl, Or.inr ⟨g1, rfl, g3, g4, g5⟩⟩
theorem c_spread {l : Launch} {g : Gt} {d : Nat} {Z : Zt} {I : It} {P : Pt'} (hZ : LayC Z) (hP : LayP P) {w n x : Int} (hw : 0 ≤ w ∧ w ≤ 9) (hn : 0 ≤ n ∧ n ≤ 9) (hx : 0 ≤ x ∧ x ≤ 10) : Mt l g mX11_spreadOdds d 0 0 [vA 0, vI w, vI n, vI x] Z I P (QV (fun I' => (∀ v, 0 ≤ v → v ≤ 9 → I' 117 v = odF w x n.toNat v) ∧ ∀ a, a ≠ 117 → I' a = I a) Z P) := by
  refine Mt.of kmX11_spreadOdds (ls := [vA 0, vI w, vI n, vI x, vX, vX, vX, vX]) (fun _ => rfl) (fun _ => rfl) (okf_k (okf_k (okf_k (okf_k (okf_n rfl))))) (fun hok => ?_)
  have days : ∀ (r e : Nat) (J : It) (v1 v2 v3 : Vv), (e : Int) + r = n → (∀ v, 0 ≤ v → v ≤ 9 → J 117 v = odF w x e v) → (∀ a, a ≠ 117 → J a = I a) → Ev l g mX11_spreadOdds d 0 0 Z J P 37 [vA 0, vI w, vI n, vI x, vI e, v1, v2, v3] [] (QV (fun I' => (∀ v, 0 ≤ v → v ≤ 9 → I' 117 v = odF w x n.toNat v) ∧ ∀ a, a ≠ 117 → I' a = I a) Z P) := by
    intro r
    induction r with
    | zero =>
      intro e J v1 v2 v3 h1 hc hJ
      have en : n.toNat = e := by omega
      refine ev_iload_4 37 dX11_spreadOdds_37 ?_
      refine ev_iload_2 39 dX11_spreadOdds_39 ?_
      refine ev_icmp_ge 40 139 dX11_spreadOdds_40 rfl (fun h40 => ?_) (fun h40 => ?_)
      · refine ev_vret 139 dX11_spreadOdds_139 ?_ rfl
        exact QV_of ⟨by rw [en]; exact hc, hJ⟩
      · exfalso; omega
    | succ r ih =>
      intro e J v1 v2 v3 h1 hc hJ
      have ob := fun v => odF_B (wm := w) (x := x) hx (n := e) (by omega) v
      have cells : ∀ (s : Nat) (v : Int) (J : It) (v2 v3 : Vv), 1 ≤ v → v + s = 10 → (∀ u, 0 ≤ u → u ≤ 9 → J 117 u = if u < v then odF w x (e + 1) u else odF w x e u) → (∀ a, a ≠ 117 → J a = I a) → Ev l g mX11_spreadOdds d 0 0 Z J P 72 [vA 0, vI w, vI n, vI x, vI e, vI v, v2, v3] [] (QV (fun I' => (∀ v, 0 ≤ v → v ≤ 9 → I' 117 v = odF w x n.toNat v) ∧ ∀ a, a ≠ 117 → I' a = I a) Z P) := by
        intro s
        induction s with
        | zero =>
          intro v J v2 v3 g0 g1 hq hJ
          refine ev_iload_5 72 dX11_spreadOdds_72 ?_
          refine ev_bipush 74 dX11_spreadOdds_74 ⟨by decide, by decide⟩ ?_
          refine ev_icmp_gt 76 133 dX11_spreadOdds_76 rfl (fun h76 => ?_) (fun h76 => ?_)
          · refine ev_iinc_4 133 dX11_spreadOdds_133 ⟨by omega, by omega⟩ rfl rfl ?_
            refine ev_goto 136 37 dX11_spreadOdds_136 rfl ?_
            rw [show (e : Int) + 1 = ((e + 1 : Nat) : Int) by omega]
            exact ih (e + 1) J _ _ _ (by omega) (fun u a b => by rw [hq u a b, if_pos (by omega)]) hJ
          · exfalso; omega
        | succ s ih2 =>
          intro v J v2 v3 g0 g1 hq hJ
          have q0 : J 117 v = odF w x e v := by rw [hq v (by omega) (by omega), if_neg (by omega)]
          have mb2 := mulb (x := 10 - x) (by omega) (ob v)
          have mc : odF w x e v * (10 - x) = (10 - x) * odF w x e v := Int.mul_comm _ _
          have mb3 := mulb hx (ob (v + 1))
          have mc3 : odF w x e (v + 1) * x = x * odF w x e (v + 1) := Int.mul_comm _ _
          have n102 : ∀ (y : Int) (va vb : Vv), y = (if v < 9 then x * odF w x e (v + 1) else 0) → (0 ≤ y ∧ y ≤ 5120000000000) → Ev l g mX11_spreadOdds d 0 0 Z J P 102 [vA 0, vI w, vI n, vI x, vI e, vI v, va, vb] [vL y] (QV (fun I' => (∀ v, 0 ≤ v → v ≤ 9 → I' 117 v = odF w x n.toNat v) ∧ ∀ a, a ≠ 117 → I' a = I a) Z P) := by
            intro y va vb hy hyb
            refine ev_lstore_6 102 dX11_spreadOdds_102 rfl rfl ?_
            refine ev_aload_0 104 dX11_spreadOdds_104 ?_
            refine ev_getA 105 10 dX11_spreadOdds_105 fa_X11_77 (kd_0 hZ) (pr_0_10 hP) rfl ?_
            refine ev_iload_5 108 dX11_spreadOdds_108 ?_
            refine ev_aload_0 110 dX11_spreadOdds_110 ?_
            refine ev_getA 111 10 dX11_spreadOdds_111 fa_X11_77 (kd_0 hZ) (pr_0_10 hP) rfl ?_
            refine ev_iload_5 114 dX11_spreadOdds_114 ?_
            refine ev_lald 116 dX11_spreadOdds_116 (kd_117 hZ) ⟨by omega, by have := (ln_117 hZ); omega⟩ ?_
            try simp only [q0]
            refine ev_bipush 117 dX11_spreadOdds_117 ⟨by decide, by decide⟩ ?_
            refine ev_iload_3 119 dX11_spreadOdds_119 ?_
            refine ev_isub 120 dX11_spreadOdds_120 ⟨by omega, by omega⟩ ?_
            refine ev_i2l 121 dX11_spreadOdds_121 ?_
            refine ev_lmul 122 dX11_spreadOdds_122 (by rw [mc]; exact ⟨by omega, by omega⟩) ?_
            refine ev_lload_6 123 dX11_spreadOdds_123 ?_
            refine ev_ladd 125 dX11_spreadOdds_125 (by rw [mc]; exact ⟨by omega, by omega⟩) ?_
            refine ev_last 126 dX11_spreadOdds_126 (kd_117 hZ) ⟨by omega, by have := (ln_117 hZ); omega⟩ ?_
            refine ev_iinc_5 127 dX11_spreadOdds_127 ⟨by omega, by omega⟩ rfl rfl ?_
            refine ev_goto 130 72 dX11_spreadOdds_130 rfl ?_
            refine ih2 (v + 1) _ _ _ (by omega) (by omega) (fun u a b => ?_) (fun a z => by rw [upI_A z]; exact hJ a z)
            by_cases z : u = v
            · subst z
              rw [upI_s, if_pos (by omega), odF_p, hy, mc, paF_n (by omega)]
            · rw [upI_k z, hq u a b]
              by_cases c : u < v
              · rw [if_pos c, if_pos (by omega)]
              · rw [if_neg c, if_neg (by omega)]
          have q1 : v < 9 → J 117 (v + 1) = odF w x e (v + 1) := fun z => by rw [hq (v + 1) (by omega) (by omega), if_neg (by omega)]
          refine ev_iload_5 72 dX11_spreadOdds_72 ?_
          refine ev_bipush 74 dX11_spreadOdds_74 ⟨by decide, by decide⟩ ?_
          refine ev_icmp_gt 76 133 dX11_spreadOdds_76 rfl (fun h76 => ?_) (fun h76 => ?_)
          · exfalso; omega
          · refine ev_iload_5 79 dX11_spreadOdds_79 ?_
            refine ev_bipush 81 dX11_spreadOdds_81 ⟨by decide, by decide⟩ ?_
            refine ev_icmp_ge 83 101 dX11_spreadOdds_83 rfl (fun h83 => ?_) (fun h83 => ?_)
            · refine ev_lconst0 101 dX11_spreadOdds_101 ?_
              first
                | exact n102 _ _ _ (by rw [if_pos (by omega)]; exact mc3) (by rw [mc3]; omega)
                | exact n102 _ _ _ (by rw [if_neg (by omega)]) (by omega)
            · refine ev_aload_0 86 dX11_spreadOdds_86 ?_
              have q2 := q1 (by omega)
              refine ev_getA 87 10 dX11_spreadOdds_87 fa_X11_77 (kd_0 hZ) (pr_0_10 hP) rfl ?_
              refine ev_iload_5 90 dX11_spreadOdds_90 ?_
              refine ev_iconst 92 dX11_spreadOdds_92 ⟨by decide, by decide⟩ ?_
              refine ev_iadd 93 dX11_spreadOdds_93 ⟨by omega, by omega⟩ ?_
              refine ev_lald 94 dX11_spreadOdds_94 (kd_117 hZ) ⟨by omega, by have := (ln_117 hZ); omega⟩ ?_
              try simp only [q2]
              refine ev_iload_3 95 dX11_spreadOdds_95 ?_
              refine ev_i2l 96 dX11_spreadOdds_96 ?_
              refine ev_lmul 97 dX11_spreadOdds_97 (by rw [mc3]; exact ⟨by omega, by omega⟩) ?_
              refine ev_goto 98 102 dX11_spreadOdds_98 rfl ?_
              first
                | exact n102 _ _ _ (by rw [if_pos (by omega)]; exact mc3) (by rw [mc3]; omega)
                | exact n102 _ _ _ (by rw [if_neg (by omega)]) (by omega)
      have q0 := hc 0 (by omega) (by omega)
      have q1 := hc 1 (by omega) (by omega)
      have o0 := ob 0
      have mb1 := mulb hx (ob 1)
      have mc0 : odF w x e 0 * 10 = 10 * odF w x e 0 := Int.mul_comm _ _
      have mc1 : odF w x e 1 * x = x * odF w x e 1 := Int.mul_comm _ _
      refine ev_iload_4 37 dX11_spreadOdds_37 ?_
      refine ev_iload_2 39 dX11_spreadOdds_39 ?_
      refine ev_icmp_ge 40 139 dX11_spreadOdds_40 rfl (fun h40 => ?_) (fun h40 => ?_)
      · exfalso; omega
      · refine ev_aload_0 43 dX11_spreadOdds_43 ?_
        refine ev_getA 44 10 dX11_spreadOdds_44 fa_X11_77 (kd_0 hZ) (pr_0_10 hP) rfl ?_
        refine ev_iconst 47 dX11_spreadOdds_47 ⟨by decide, by decide⟩ ?_
        refine ev_aload_0 48 dX11_spreadOdds_48 ?_
        refine ev_getA 49 10 dX11_spreadOdds_49 fa_X11_77 (kd_0 hZ) (pr_0_10 hP) rfl ?_
        refine ev_iconst 52 dX11_spreadOdds_52 ⟨by decide, by decide⟩ ?_
        refine ev_lald 53 dX11_spreadOdds_53 (kd_117 hZ) ⟨by omega, by have := (ln_117 hZ); omega⟩ ?_
        try simp only [q0, q1]
        refine ev_ldc2 54 dX11_spreadOdds_54 kl_X11_345 ⟨by decide, by decide⟩ ?_
        refine ev_lmul 57 dX11_spreadOdds_57 ⟨by omega, by omega⟩ ?_
        refine ev_aload_0 58 dX11_spreadOdds_58 ?_
        refine ev_getA 59 10 dX11_spreadOdds_59 fa_X11_77 (kd_0 hZ) (pr_0_10 hP) rfl ?_
        refine ev_iconst 62 dX11_spreadOdds_62 ⟨by decide, by decide⟩ ?_
        refine ev_lald 63 dX11_spreadOdds_63 (kd_117 hZ) ⟨by omega, by have := (ln_117 hZ); omega⟩ ?_
        try simp only [q0, q1]
        refine ev_iload_3 64 dX11_spreadOdds_64 ?_
        refine ev_i2l 65 dX11_spreadOdds_65 ?_
        refine ev_lmul 66 dX11_spreadOdds_66 (by rw [mc1]; exact ⟨by omega, by omega⟩) ?_
        refine ev_ladd 67 dX11_spreadOdds_67 (by rw [mc1]; exact ⟨by omega, by omega⟩) ?_
        refine ev_last 68 dX11_spreadOdds_68 (kd_117 hZ) ⟨by omega, by have := (ln_117 hZ); omega⟩ ?_
        refine ev_iconst 69 dX11_spreadOdds_69 ⟨by decide, by decide⟩ ?_
        refine ev_istore_5 70 dX11_spreadOdds_70 rfl rfl ?_
        refine cells 9 1 _ _ _ (by omega) (by omega) (fun u a b => ?_) (fun a z => by rw [upI_A z]; exact hJ a z)
        by_cases z : u = 0
        · subst z
          rw [upI_s, if_pos (by omega), odF_p, if_pos (by omega), mc0, mc1]
          rfl
        · rw [upI_k z, hc u a b, if_neg (by omega)]
  have first : ∀ (r : Nat) (v : Int) (J : It) (v1 v2 v3 : Vv), 0 ≤ v → v + r = 10 → (∀ u, 0 ≤ u → u < v → J 117 u = odF w x 0 u) → (∀ a, a ≠ 117 → J a = I a) → Ev l g mX11_spreadOdds d 0 0 Z J P 3 [vA 0, vI w, vI n, vI x, vI v, v1, v2, v3] [] (QV (fun I' => (∀ v, 0 ≤ v → v ≤ 9 → I' 117 v = odF w x n.toNat v) ∧ ∀ a, a ≠ 117 → I' a = I a) Z P) := by
    intro r
    induction r with
    | zero =>
      intro v J v1 v2 v3 h0 h1 hc hJ
      refine ev_iload_4 3 dX11_spreadOdds_3 ?_
      refine ev_bipush 5 dX11_spreadOdds_5 ⟨by decide, by decide⟩ ?_
      refine ev_icmp_gt 7 34 dX11_spreadOdds_7 rfl (fun h7 => ?_) (fun h7 => ?_)
      · refine ev_iconst 34 dX11_spreadOdds_34 ⟨by decide, by decide⟩ ?_
        refine ev_istore_4 35 dX11_spreadOdds_35 rfl rfl ?_
        exact days n.toNat 0 J _ _ _ (by omega) (fun u a b => hc u a (by omega)) hJ
      · exfalso; omega
    | succ r ih =>
      intro v J v1 v2 v3 h0 h1 hc hJ
      refine ev_iload_4 3 dX11_spreadOdds_3 ?_
      refine ev_bipush 5 dX11_spreadOdds_5 ⟨by decide, by decide⟩ ?_
      refine ev_icmp_gt 7 34 dX11_spreadOdds_7 rfl (fun h7 => ?_) (fun h7 => ?_)
      · exfalso; omega
      · refine ev_aload_0 10 dX11_spreadOdds_10 ?_
        refine ev_getA 11 10 dX11_spreadOdds_11 fa_X11_77 (kd_0 hZ) (pr_0_10 hP) rfl ?_
        refine ev_iload_4 14 dX11_spreadOdds_14 ?_
        refine ev_iload_4 16 dX11_spreadOdds_16 ?_
        refine ev_iload_1 18 dX11_spreadOdds_18 ?_
        refine ev_jne 19 26 dX11_spreadOdds_19 rfl (fun h19 => ?_) (fun h19 => ?_)
        · refine ev_lconst0 26 dX11_spreadOdds_26 ?_
          refine ev_last 27 dX11_spreadOdds_27 (kd_117 hZ) ⟨by omega, by have := (ln_117 hZ); omega⟩ ?_
          refine ev_iinc_4 28 dX11_spreadOdds_28 ⟨by omega, by omega⟩ rfl rfl ?_
          refine ev_goto 31 3 dX11_spreadOdds_31 rfl ?_
          refine ih (v + 1) _ _ _ _ (by omega) (by omega) (fun u a b => ?_) (fun a z => by rw [upI_A z]; exact hJ a z)
          by_cases z : u = v
          · subst z
            rw [upI_s]
            first
              | exact (if_pos (by omega)).symm
              | exact (if_neg (by omega)).symm
          · rw [upI_k z]; exact hc u a (by omega)
        · refine ev_lconst1 22 dX11_spreadOdds_22 ?_
          refine ev_goto 23 27 dX11_spreadOdds_23 rfl ?_
          refine ev_last 27 dX11_spreadOdds_27 (kd_117 hZ) ⟨by omega, by have := (ln_117 hZ); omega⟩ ?_
          refine ev_iinc_4 28 dX11_spreadOdds_28 ⟨by omega, by omega⟩ rfl rfl ?_
          refine ev_goto 31 3 dX11_spreadOdds_31 rfl ?_
          refine ih (v + 1) _ _ _ _ (by omega) (by omega) (fun u a b => ?_) (fun a z => by rw [upI_A z]; exact hJ a z)
          by_cases z : u = v
          · subst z
            rw [upI_s]
            first
              | exact (if_pos (by omega)).symm
              | exact (if_neg (by omega)).symm
          · rw [upI_k z]; exact hc u a (by omega)
  refine ev_iconst 0 dX11_spreadOdds_0 ⟨by decide, by decide⟩ ?_
  refine ev_istore_4 1 dX11_spreadOdds_1 rfl rfl ?_
  exact first 10 0 I _ _ _ (by omega) (by omega) (fun u a b => by omega) (fun _ _ => rfl)
theorem tm_h {b r : Int} (hr : 1 ≤ r) (hb : r ≤ b) : 0 ≤ b.tmod r ∧ 2 * b.tmod r < b := by
  have h1 := tmod_bounds (a := b) (M := r) (by omega)
  have h2 := Int.tmod_nonneg r (show 0 ≤ b by omega)
  have h3 := Int.mul_tdiv_add_tmod b r
  have h4 : 1 ≤ b.tdiv r := by
    rw [Int.tdiv_eq_ediv_of_nonneg (by omega)]
    exact Int.le_ediv_of_mul_le (by omega) (by omega)
  have h5 : r * 1 ≤ r * b.tdiv r := Int.mul_le_mul_of_nonneg_left h4 (by omega)
  omega
theorem cdF_G : ∀ (m k : Nat) (a b : Int), 2 * m + 1 ≤ k → 0 ≤ a → 0 ≤ b → b < 2 ^ m → isG a b (cdF k a b) ∧ 0 ≤ cdF k a b
  | 0, k + 1, a, b, h, ha, hb, hp => by
    have : b = 0 := by have : (2 : Int) ^ 0 = 1 := rfl; omega
    subst this
    exact ⟨isG_0 a, ha⟩
  | m + 1, 0, a, b, h, ha, hb, hp => by omega
  | m + 1, 1, a, b, h, ha, hb, hp => by omega
  | m + 1, k + 2, a, b, h, ha, hb, hp => by
    by_cases z : b = 0
    · subst z; exact ⟨isG_0 a, ha⟩
    · have e : cdF (k + 2) a b = cdF (k + 1) b (a.tmod b) := if_neg z
      rw [e]
      have t1 := tmod_bounds (a := a) (M := b) (by omega)
      have t2 := Int.tmod_nonneg b ha
      by_cases y : a.tmod b = 0
      · have e2 : cdF (k + 1) b (a.tmod b) = b := if_pos y
        rw [e2]
        exact ⟨isG_s (by rw [y]; exact isG_0 b), hb⟩
      · have e2 : cdF (k + 1) b (a.tmod b) = cdF k (a.tmod b) (b.tmod (a.tmod b)) := if_neg y
        rw [e2]
        have t3 := tm_h (b := b) (r := a.tmod b) (by omega) (by omega)
        have e3 : (2 : Int) ^ (m + 1) = 2 ^ m * 2 := Int.pow_succ 2 m
        obtain ⟨g1, g2⟩ := cdF_G m k (a.tmod b) (b.tmod (a.tmod b)) (by omega) t2 t3.1 (by omega)
        exact ⟨isG_s (isG_s g1), g2⟩
theorem c_leak {l : Launch} {g : Gt} {d : Nat} {Z : Zt} {I : It} {P : Pt'} {T : Nat} {α σ : Nat → Int → Int} (hsn : SN T α Z I P) (hS : VS I σ) (hWS : WS α σ) (t k n x w : Int) : Mt l g mX11_leak (d + 2) 0 0 [vA 0, vI t, vI k, vI n, vI x, vI w] Z I P (QN (fun r I' => lkA α t k n x w r ∧ (∀ a, a ≠ 117 → I' a = I a)) Z P) := by
  have hZ := hsn.1
  have hP := hsn.2.1
  have hT0 := hsn.2.2.1
  have hT := hsn.2.2.2.1
  have hW := hsn.2.2.2.2.2.1
  have w0 := hW.1
  have w1 := hW.2.1
  have w5 := hW.2.2.1
  have a0 : I T 0 = α 0 0 := hsn.2.2.2.2.1.at 0
  have a1 : I T 1 = α 0 1 := hsn.2.2.2.2.1.at 1
  have a5 : I T 5 = α 0 5 := hsn.2.2.2.2.1.at 5
  have a4 : I (T + 4) = α 4 := hsn.2.2.2.2.1 4 (by omega)
  have s1 : I 19 = σ 1 := hS 1 (by omega)
  have s2 : I 20 = σ 2 := hS 2 (by omega)
  clear s1 s2
  have aT : I T = α 0 := hsn.2.2.2.2.1 0 (by omega)
  have t1 : I (T + 1) = α 1 := hsn.2.2.2.2.1 1 (by omega)
  have t2 : I (T + 2) = α 2 := hsn.2.2.2.2.1 2 (by omega)
  have t3 : I (T + 3) = α 3 := hsn.2.2.2.2.1 3 (by omega)
  have t4 : I (T + 4) = α 4 := hsn.2.2.2.2.1 4 (by omega)
  have t5 : I (T + 5) = α 5 := hsn.2.2.2.2.1 5 (by omega)
  have t6 : I (T + 6) = α 6 := hsn.2.2.2.2.1 6 (by omega)
  have t7 : I (T + 7) = α 7 := hsn.2.2.2.2.1 7 (by omega)
  have t8 : I (T + 8) = α 8 := hsn.2.2.2.2.1 8 (by omega)
  have t9 : I (T + 9) = α 9 := hsn.2.2.2.2.1 9 (by omega)
  have t10 : I (T + 10) = α 10 := hsn.2.2.2.2.1 10 (by omega)
  have t11 : I (T + 11) = α 11 := hsn.2.2.2.2.1 11 (by omega)
  have t12 : I (T + 12) = α 12 := hsn.2.2.2.2.1 12 (by omega)
  have s0 : I 18 = σ 0 := hS 0 (by omega)
  have s1 : I 19 = σ 1 := hS 1 (by omega)
  have s2 : I 20 = σ 2 := hS 2 (by omega)
  have s3 : I 21 = σ 3 := hS 3 (by omega)
  have s4 : I 22 = σ 4 := hS 4 (by omega)
  have s5 : I 23 = σ 5 := hS 5 (by omega)
  have s6 : I 24 = σ 6 := hS 6 (by omega)
  refine Mt.of kmX11_leak (ls := [vA 0, vI t, vI k, vI n, vI x, vI w, vX, vX, vX, vX, vX, vX]) (fun _ => rfl) (fun _ => rfl) (okf_k (okf_k (okf_k (okf_k (okf_k (okf_k (okf_n rfl))))))) (fun hok => ?_)
  have fin131 : lkG α t k n x w → ∀ (J : It) (v1 v2 : Vv), (∀ a, a ≠ 117 → J a = I a) → Ev l g mX11_leak (d + 2) 0 0 Z J P 131 [vA 0, vI t, vI k, vI n, vI x, vI w, vL (lkU α t k n x), vX, vL (10 ^ n.toNat : Int), vX, v1, v2] [] (QN (fun r I' => lkA α t k n x w r ∧ (∀ a, a ≠ 117 → I' a = I a)) Z P) := by
    intro hg J v1 v2 fr
    have hg2 := hg
    unfold lkG at hg2
    have ob := fun v => odF_B (wm := α 2 t) (x := x) hg.2.2.2.1 (n := n.toNat) (by omega) v
    have p2 := p20 (n := n.toNat) (by omega)
    have ub : 0 ≤ (lkU α t k n x) ∧ (lkU α t k n x) ≤ 5120000000000 := by
      have := smF_b (k := k) ob (10 - k).toNat
      unfold lkU; omega
    obtain ⟨g1, g2⟩ := cdF_G 499 1000 (10 ^ n.toNat : Int) (lkU α t k n x) (by omega) (by omega) ub.1 (by
      have : (5120000000000 : Int) < 2 ^ 499 := by decide +kernel
      omega)
    have g0 := isG_n p2.2.2 (isG_c g1)
    have ta := tdv (a := (lkU α t k n x)) (g := cdF 1000 (10 ^ n.toNat : Int) (lkU α t k n x)) ub.1 (by omega)
    have tb := tdv (a := (10 ^ n.toNat : Int)) (g := cdF 1000 (10 ^ n.toNat : Int) (lkU α t k n x)) (by omega) (by omega)
    refine ev_lload_8 131 dX11_leak_131 ?_
    refine ev_lload_6 133 dX11_leak_133 ?_
    refine ev_cSl_2 135 dX11_leak_135 kmX11_commonDivisor lk_X11_323 (c_cd (by omega) ub.1) rfl rfl ?_
    refine ev_lstore_10 138 dX11_leak_138 rfl rfl ?_
    refine ev_lload_10 140 dX11_leak_140 ?_
    refine ev_lconst1 142 dX11_leak_142 ?_
    refine ev_lcmp 143 dX11_leak_143 ?_
    refine ev_ifc_ge 144 151 dX11_leak_144 rfl (fun h144 => ?_) (fun h144 => ?_)
    · refine ev_iload_5 151 dX11_leak_151 ?_
      refine ev_zne 153 164 dX11_leak_153 rfl (fun h153 => ?_) (fun h153 => ?_)
      · refine ev_lload_8 164 dX11_leak_164 ?_
        refine ev_lload_10 166 dX11_leak_166 ?_
        refine ev_ldiv 168 dX11_leak_168 (by omega) ⟨by omega, by omega⟩ ?_
        refine ev_lret 169 dX11_leak_169 ?_ rfl
        first
          | exact QN_of ⟨Or.inl ⟨hg, _, isG_c g1, g2, (if_pos (by omega)).symm⟩, fr⟩
          | exact QN_of ⟨Or.inl ⟨hg, _, isG_c g1, g2, (if_neg (by omega)).symm⟩, fr⟩
      · refine ev_lload_6 156 dX11_leak_156 ?_
        refine ev_lload_10 158 dX11_leak_158 ?_
        refine ev_ldiv 160 dX11_leak_160 (by omega) ⟨by omega, by omega⟩ ?_
        refine ev_goto 161 169 dX11_leak_161 rfl ?_
        refine ev_lret 169 dX11_leak_169 ?_ rfl
        first
          | exact QN_of ⟨Or.inl ⟨hg, _, isG_c g1, g2, (if_pos (by omega)).symm⟩, fr⟩
          | exact QN_of ⟨Or.inl ⟨hg, _, isG_c g1, g2, (if_neg (by omega)).symm⟩, fr⟩
    · exfalso; omega
  have loop : lkG α t k n x w → ∀ (r e : Nat) (J : It) (a : Int) (v1 : Vv), e + r = 10 → (∀ v, 0 ≤ v → v ≤ 9 → J 117 v = odF (α 2 t) x n.toNat v) → (a = (smF (odF (α 2 t) x n.toNat) k ((e : Int) - k).toNat)) → (∀ a, a ≠ 117 → J a = I a) → Ev l g mX11_leak (d + 2) 0 0 Z J P 88 [vA 0, vI t, vI k, vI n, vI x, vI w, vL a, vX, vL (smF (odF (α 2 t) x n.toNat) 0 e), vX, vI e, v1] [] (QN (fun r I' => lkA α t k n x w r ∧ (∀ a, a ≠ 117 → I' a = I a)) Z P) := by
    intro hg r
    have hg2 := hg
    unfold lkG at hg2
    have m2 := (hW.2.2.2.2.2.1 t hg.1.1 hg.1.2).2.1
    have ob := fun v => odF_B (wm := α 2 t) (x := x) hg.2.2.2.1 (n := n.toNat) (by omega) v
    induction r with
    | zero =>
      intro e J a v1 h1 hc ha fr
      obtain rfl : e = 10 := by omega
      have es : (smF (odF (α 2 t) x n.toNat) 0 10) = (10 ^ n.toNat : Int) := odF_s m2 n.toNat
      have ea : a = (lkU α t k n x) := by rw [ha]; rfl
      rw [es, ea]
      refine ev_iload_10 88 dX11_leak_88 ?_
      refine ev_bipush 90 dX11_leak_90 ⟨by decide, by decide⟩ ?_
      refine ev_icmp_gt 92 131 dX11_leak_92 rfl (fun h92 => ?_) (fun h92 => ?_)
      · exact fin131 hg J _ _ fr
      · exfalso; omega
    | succ r ih =>
      intro e J a v1 h1 hc ha fr
      have c1 := hc (e : Int) (by omega) (by omega)
      have s0 := smF_b (k := 0) ob e
      have sk := smF_b (k := k) ob ((e : Int) - k).toNat
      rw [← ha] at sk
      have o1 := ob (e : Int)
      have e0 : (smF (odF (α 2 t) x n.toNat) 0 (e + 1)) = (smF (odF (α 2 t) x n.toNat) 0 e) + odF (α 2 t) x n.toNat (e : Int) := by
        show (smF (odF (α 2 t) x n.toNat) 0 e) + odF (α 2 t) x n.toNat (0 + (e : Int)) = _
        rw [show (0 : Int) + (e : Int) = (e : Int) by omega]
      have ek1 : k ≤ (e : Int) → (smF (odF (α 2 t) x n.toNat) k (((e + 1 : Nat) : Int) - k).toNat) = a + odF (α 2 t) x n.toNat (e : Int) := fun z => by
        rw [show (((e + 1 : Nat) : Int) - k).toNat = ((e : Int) - k).toNat + 1 by omega, ha]
        show (smF (odF (α 2 t) x n.toNat) k ((e : Int) - k).toNat) + odF (α 2 t) x n.toNat (k + (((e : Int) - k).toNat : Int)) = _
        rw [show k + (((e : Int) - k).toNat : Int) = (e : Int) by omega]
      have ek2 : (e : Int) < k → (smF (odF (α 2 t) x n.toNat) k (((e + 1 : Nat) : Int) - k).toNat) = a := fun z => by
        rw [show (((e + 1 : Nat) : Int) - k).toNat = ((e : Int) - k).toNat by omega, ha]
      refine ev_iload_10 88 dX11_leak_88 ?_
      refine ev_bipush 90 dX11_leak_90 ⟨by decide, by decide⟩ ?_
      refine ev_icmp_gt 92 131 dX11_leak_92 rfl (fun h92 => ?_) (fun h92 => ?_)
      · exfalso; omega
      · refine ev_lload_8 95 dX11_leak_95 ?_
        refine ev_aload_0 97 dX11_leak_97 ?_
        refine ev_getA 98 10 dX11_leak_98 fa_X11_77 (kd_0 hZ) (pr_0_10 hP) rfl ?_
        refine ev_iload_10 101 dX11_leak_101 ?_
        refine ev_lald 103 dX11_leak_103 (kd_117 hZ) ⟨by omega, by have := (ln_117 hZ); omega⟩ ?_
        try simp only [c1]
        refine ev_ladd 104 dX11_leak_104 ⟨by omega, by omega⟩ ?_
        refine ev_lstore_8 105 dX11_leak_105 rfl rfl ?_
        refine ev_iload_10 107 dX11_leak_107 ?_
        refine ev_iload_2 109 dX11_leak_109 ?_
        refine ev_icmp_lt 110 125 dX11_leak_110 rfl (fun h110 => ?_) (fun h110 => ?_)
        · refine ev_iinc_10 125 dX11_leak_125 ⟨by omega, by omega⟩ rfl rfl ?_
          refine ev_goto 128 88 dX11_leak_128 rfl ?_
          rw [← e0, show (e : Int) + 1 = ((e + 1 : Nat) : Int) by omega]
          first
            | exact ih (e + 1) J _ _ (by omega) hc (ek1 (by omega)).symm fr
            | exact ih (e + 1) J _ _ (by omega) hc (ek2 (by omega)).symm fr
        · refine ev_lload_6 113 dX11_leak_113 ?_
          refine ev_aload_0 115 dX11_leak_115 ?_
          refine ev_getA 116 10 dX11_leak_116 fa_X11_77 (kd_0 hZ) (pr_0_10 hP) rfl ?_
          refine ev_iload_10 119 dX11_leak_119 ?_
          refine ev_lald 121 dX11_leak_121 (kd_117 hZ) ⟨by omega, by have := (ln_117 hZ); omega⟩ ?_
          try simp only [c1]
          refine ev_ladd 122 dX11_leak_122 ⟨by omega, by omega⟩ ?_
          refine ev_lstore_6 123 dX11_leak_123 rfl rfl ?_
          refine ev_iinc_10 125 dX11_leak_125 ⟨by omega, by omega⟩ rfl rfl ?_
          refine ev_goto 128 88 dX11_leak_128 rfl ?_
          rw [← e0, show (e : Int) + 1 = ((e + 1 : Nat) : Int) by omega]
          first
            | exact ih (e + 1) J _ _ (by omega) hc (ek1 (by omega)).symm fr
            | exact ih (e + 1) J _ _ (by omega) hc (ek2 (by omega)).symm fr
  refine ev_aload_0 0 dX11_leak_0 ?_
  refine ev_getA 1 1 dX11_leak_1 fa_X11_19 (kd_0 hZ) (pr_0_1 hP) rfl ?_
  refine ev_iload_1 4 dX11_leak_4 ?_
  refine ev_cVp_1 5 dX11_leak_5 kmX6_isLevel lk_X11_128 (kd_4 hZ) (c_isLevel hZ hP hT0 hT _) rfl rfl ?_
  try simp only [aT, t1, t2, t3, t4, t5, t6, t7, t8, t9, t10, t11, t12, s0, s1, s2, s3, s4, s5, s6]
  refine ev_ifb_eq 8 31 dX11_leak_8 rfl (fun h8 => ?_) (fun h8 => ?_)
  · refine ev_ldc2 31 dX11_leak_31 kl_X11_318 ⟨by decide, by decide⟩ ?_
    refine ev_lret 34 dX11_leak_34 ?_ rfl
    exact QN_of ⟨Or.inr ⟨by unfold lkG; omega, rfl⟩, fun _ _ => rfl⟩
  · refine ev_iload_2 11 dX11_leak_11 ?_
    refine ev_iconst 12 dX11_leak_12 ⟨by decide, by decide⟩ ?_
    refine ev_bipush 13 dX11_leak_13 ⟨by decide, by decide⟩ ?_
    refine ev_cSp_3 15 dX11_leak_15 kmX11_within lk_X11_111 (c_within _ _ _) rfl rfl ?_
    try simp only [aT, t1, t2, t3, t4, t5, t6, t7, t8, t9, t10, t11, t12, s0, s1, s2, s3, s4, s5, s6]
    refine ev_ifb_eq 18 31 dX11_leak_18 rfl (fun h18 => ?_) (fun h18 => ?_)
    · refine ev_ldc2 31 dX11_leak_31 kl_X11_318 ⟨by decide, by decide⟩ ?_
      refine ev_lret 34 dX11_leak_34 ?_ rfl
      exact QN_of ⟨Or.inr ⟨by unfold lkG; omega, rfl⟩, fun _ _ => rfl⟩
    · refine ev_iload_3 21 dX11_leak_21 ?_
      refine ev_iconst 22 dX11_leak_22 ⟨by decide, by decide⟩ ?_
      refine ev_bipush 23 dX11_leak_23 ⟨by decide, by decide⟩ ?_
      refine ev_cSp_3 25 dX11_leak_25 kmX11_within lk_X11_111 (c_within _ _ _) rfl rfl ?_
      try simp only [aT, t1, t2, t3, t4, t5, t6, t7, t8, t9, t10, t11, t12, s0, s1, s2, s3, s4, s5, s6]
      refine ev_ifb_ne 28 35 dX11_leak_28 rfl (fun h28 => ?_) (fun h28 => ?_)
      · refine ev_iload_4 35 dX11_leak_35 ?_
        refine ev_iconst 37 dX11_leak_37 ⟨by decide, by decide⟩ ?_
        refine ev_bipush 38 dX11_leak_38 ⟨by decide, by decide⟩ ?_
        refine ev_cSp_3 40 dX11_leak_40 kmX11_within lk_X11_111 (c_within _ _ _) rfl rfl ?_
        try simp only [aT, t1, t2, t3, t4, t5, t6, t7, t8, t9, t10, t11, t12, s0, s1, s2, s3, s4, s5, s6]
        refine ev_ifb_eq 43 56 dX11_leak_43 rfl (fun h43 => ?_) (fun h43 => ?_)
        · refine ev_ldc2 56 dX11_leak_56 kl_X11_318 ⟨by decide, by decide⟩ ?_
          refine ev_lret 59 dX11_leak_59 ?_ rfl
          exact QN_of ⟨Or.inr ⟨by unfold lkG; omega, rfl⟩, fun _ _ => rfl⟩
        · refine ev_iload_5 46 dX11_leak_46 ?_
          refine ev_iconst 48 dX11_leak_48 ⟨by decide, by decide⟩ ?_
          refine ev_iconst 49 dX11_leak_49 ⟨by decide, by decide⟩ ?_
          refine ev_cSp_3 50 dX11_leak_50 kmX11_within lk_X11_111 (c_within _ _ _) rfl rfl ?_
          try simp only [aT, t1, t2, t3, t4, t5, t6, t7, t8, t9, t10, t11, t12, s0, s1, s2, s3, s4, s5, s6]
          refine ev_ifb_ne 53 60 dX11_leak_53 rfl (fun h53 => ?_) (fun h53 => ?_)
          · have hgd : lkG α t k n x w := by unfold lkG; omega
            have m2 := hW.2.2.2.2.2.1 t hgd.1.1 hgd.1.2
            refine ev_aload_0 60 dX11_leak_60 ?_
            refine ev_aload_0 61 dX11_leak_61 ?_
            refine ev_getA 62 1 dX11_leak_62 fa_X11_19 (kd_0 hZ) (pr_0_1 hP) rfl ?_
            refine ev_getA 65 0 dX11_leak_65 fa_X11_122 (kd_4 hZ) hT0 rfl ?_
            refine ev_getA 68 3 dX11_leak_68 fa_X11_135 (kdT_0 hZ hT) (prT_3 hP hT) rfl ?_
            refine ev_iload_1 71 dX11_leak_71 ?_
            refine ev_iald 72 dX11_leak_72 (kdT_2 hZ hT) ⟨by omega, by have := (lnT_2 hZ hT); omega⟩ ?_
            try simp only [aT, t1, t2, t3, t4, t5, t6, t7, t8, t9, t10, t11, t12, s0, s1, s2, s3, s4, s5, s6]
            refine ev_iload_3 73 dX11_leak_73 ?_
            refine ev_iload_4 74 dX11_leak_74 ?_
            refine ev_cVv_3 76 dX11_leak_76 kmX11_spreadOdds lk_X11_320 (kd_0 hZ) (c_spread hZ hP m2.2.1 hgd.2.2.1 hgd.2.2.2.1) rfl rfl (fun I76 f76 => ?_)
            refine ev_lconst0 79 dX11_leak_79 ?_
            refine ev_lstore_6 80 dX11_leak_80 rfl rfl ?_
            refine ev_lconst0 82 dX11_leak_82 ?_
            refine ev_lstore_8 83 dX11_leak_83 rfl rfl ?_
            refine ev_iconst 85 dX11_leak_85 ⟨by decide, by decide⟩ ?_
            refine ev_istore_10 86 dX11_leak_86 rfl rfl ?_
            exact loop hgd 10 0 _ 0 _ (by omega) f76.1 (by rw [show (((0 : Nat) : Int) - k).toNat = 0 by omega]; rfl) f76.2
          · refine ev_ldc2 56 dX11_leak_56 kl_X11_318 ⟨by decide, by decide⟩ ?_
            refine ev_lret 59 dX11_leak_59 ?_ rfl
            exact QN_of ⟨Or.inr ⟨by unfold lkG; omega, rfl⟩, fun _ _ => rfl⟩
      · refine ev_ldc2 31 dX11_leak_31 kl_X11_318 ⟨by decide, by decide⟩ ?_
        refine ev_lret 34 dX11_leak_34 ?_ rfl
        exact QN_of ⟨Or.inr ⟨by unfold lkG; omega, rfl⟩, fun _ _ => rfl⟩
theorem c_putDrawn {l : Launch} {g : Gt} {d : Nat} {Z : Zt} {I : It} {P : Pt'} (hZ : LayC Z) (hP : LayP P) {T : Nat} (hT0 : P 4 0 = some T) (hT : IsT T) {α : Nat → Int → Int} (hA : VT T I α) (hW : WF α) {z k : Int} (hz : 0 ≤ z ∧ z ≤ 9999) (hk : 0 ≤ k ∧ k ≤ 60) : Mt l g mX11_putDrawn (d + 2) 0 0 [vA 0, vI z, vI k] Z I P (QV (fun I' => dq 99 I' = yrQ α z k ∧ OD 99 I I') Z P) := by
  have aT : I T = α 0 := hA 0 (by omega)
  have w0 := hW.1
  have w1 := hW.2.1
  have yx := yr_x (z := z) (k := k) hz hk
  have dr := emod_r (x := (7919 * z + 6151 * k + 1) * (7919 * z + 6151 * k + 1)) (y := 65521) (by omega)
  refine Mt.of kmX11_putDrawn (ls := [vA 0, vI z, vI k, vX, vX, vX]) (fun _ => rfl) (fun _ => rfl) (okf_k (okf_k (okf_k (okf_n rfl)))) (fun hok => ?_)
  refine ev_ldc2 0 dX11_putDrawn_0 kl_X11_347 ⟨by decide, by decide⟩ ?_
  refine ev_iload_1 3 dX11_putDrawn_3 ?_
  refine ev_i2l 4 dX11_putDrawn_4 ?_
  refine ev_lmul 5 dX11_putDrawn_5 ⟨by omega, by omega⟩ ?_
  refine ev_ldc2 6 dX11_putDrawn_6 kl_X11_349 ⟨by decide, by decide⟩ ?_
  refine ev_iload_2 9 dX11_putDrawn_9 ?_
  refine ev_i2l 10 dX11_putDrawn_10 ?_
  refine ev_lmul 11 dX11_putDrawn_11 ⟨by omega, by omega⟩ ?_
  refine ev_ladd 12 dX11_putDrawn_12 ⟨by omega, by omega⟩ ?_
  refine ev_lconst1 13 dX11_putDrawn_13 ?_
  refine ev_ladd 14 dX11_putDrawn_14 ⟨by omega, by omega⟩ ?_
  refine ev_lstore_3 15 dX11_putDrawn_15 rfl rfl ?_
  refine ev_lload_3 16 dX11_putDrawn_16 ?_
  refine ev_lload_3 17 dX11_putDrawn_17 ?_
  refine ev_lmul 18 dX11_putDrawn_18 ⟨by omega, by omega⟩ ?_
  refine ev_ldc2 19 dX11_putDrawn_19 kl_X11_351 ⟨by decide, by decide⟩ ?_
  refine ev_lrem 22 dX11_putDrawn_22 (by omega) ?_
  rw [Int.tmod_eq_emod_of_nonneg yx.2.1]
  refine ev_l2i 23 dX11_putDrawn_23 ⟨by omega, by omega⟩ ?_
  refine ev_istore_5 24 dX11_putDrawn_24 rfl rfl ?_
  refine ev_aload_0 26 dX11_putDrawn_26 ?_
  refine ev_getA 27 1 dX11_putDrawn_27 fa_X11_19 (kd_0 hZ) (pr_0_1 hP) rfl ?_
  refine ev_getA 30 0 dX11_putDrawn_30 fa_X11_122 (kd_4 hZ) hT0 rfl ?_
  refine ev_gI 33 1 1 dX11_putDrawn_33 fa_X11_125 (kdT_0 hZ hT) rfl rfl rfl ?_
  try simp only [aT]
  refine ev_iconst 36 dX11_putDrawn_36 ⟨by decide, by decide⟩ ?_
  refine ev_icmp_ge 37 41 dX11_putDrawn_37 rfl (fun h37 => ?_) (fun h37 => ?_)
  · refine ev_aload_0 41 dX11_putDrawn_41 ?_
    refine ev_getA 42 4 dX11_putDrawn_42 fa_X11_40 (kd_0 hZ) (pr_0_4 hP) rfl ?_
    refine ev_iload_5 45 dX11_putDrawn_45 ?_
    refine ev_aload_0 47 dX11_putDrawn_47 ?_
    refine ev_getA 48 1 dX11_putDrawn_48 fa_X11_19 (kd_0 hZ) (pr_0_1 hP) rfl ?_
    refine ev_getA 51 0 dX11_putDrawn_51 fa_X11_122 (kd_4 hZ) hT0 rfl ?_
    refine ev_gI 54 1 1 dX11_putDrawn_54 fa_X11_125 (kdT_0 hZ hT) rfl rfl rfl ?_
    try simp only [aT]
    refine ev_irem 57 dX11_putDrawn_57 (by omega) ?_
    rw [Int.tmod_eq_emod_of_nonneg (by omega)]
    refine ev_aload_0 58 dX11_putDrawn_58 ?_
    refine ev_getA 59 1 dX11_putDrawn_59 fa_X11_19 (kd_0 hZ) (pr_0_1 hP) rfl ?_
    refine ev_getA 62 0 dX11_putDrawn_62 fa_X11_122 (kd_4 hZ) hT0 rfl ?_
    refine ev_iload_5 65 dX11_putDrawn_65 ?_
    refine ev_bipush 67 dX11_putDrawn_67 ⟨by decide, by decide⟩ ?_
    refine ev_idiv 69 dX11_putDrawn_69 (by omega) (by rw [Int.tdiv_eq_ediv_of_nonneg (by omega)]; exact ⟨by omega, by omega⟩) ?_
    rw [Int.tdiv_eq_ediv_of_nonneg (by omega)]
    refine ev_cVp_1 70 dX11_putDrawn_70 kmX10_wrap lk_X11_353 (kdT_0 hZ hT) (c_wrap hZ hT _ (by rw [aT]; omega)) rfl rfl ?_
    try simp only [aT]
    refine ev_iload_5 73 dX11_putDrawn_73 ?_
    refine ev_sipush 75 dX11_putDrawn_75 ⟨by decide, by decide⟩ ?_
    refine ev_idiv 78 dX11_putDrawn_78 (by omega) (by rw [Int.tdiv_eq_ediv_of_nonneg (by omega)]; exact ⟨by omega, by omega⟩) ?_
    rw [Int.tdiv_eq_ediv_of_nonneg (by omega)]
    refine ev_bipush 79 dX11_putDrawn_79 ⟨by decide, by decide⟩ ?_
    refine ev_irem 81 dX11_putDrawn_81 (by omega) ?_
    rw [Int.tmod_eq_emod_of_nonneg (by omega)]
    refine ev_cVv_3 82 dX11_putDrawn_82 kmX0_put lk_X11_294 (kd_99 hZ) (c_put hZ (Or.inl rfl) _ _ _) rfl rfl (fun I82 f82 => ?_)
    refine ev_vret 85 dX11_putDrawn_85 ?_ rfl
    exact QV_of f82
  · refine ev_vret 40 dX11_putDrawn_40 ?_ rfl
    exfalso; omega
theorem c_year {l : Launch} {g : Gt} {d : Nat} {Z : Zt} {I : It} {P : Pt'} {T : Nat} {α σ : Nat → Int → Int} (hsn : SN T α Z I P) (hS : VS I σ) (hWS : WS α σ) (z n t : Int) : Mt l g mX11_year (d + 6) 0 0 [vA 0, vI z, vI n, vI t] Z I P (QM (fun r I' => r = yrA α σ z n t ∧ (∀ a, a ≠ 99 → a ≠ 100 → I' a = I a)) Z P) := by
  have hZ := hsn.1
  have hP := hsn.2.1
  have hT0 := hsn.2.2.1
  have hT := hsn.2.2.2.1
  have hW := hsn.2.2.2.2.2.1
  have w0 := hW.1
  have w1 := hW.2.1
  have w5 := hW.2.2.1
  have a0 : I T 0 = α 0 0 := hsn.2.2.2.2.1.at 0
  have a1 : I T 1 = α 0 1 := hsn.2.2.2.2.1.at 1
  have a5 : I T 5 = α 0 5 := hsn.2.2.2.2.1.at 5
  have a4 : I (T + 4) = α 4 := hsn.2.2.2.2.1 4 (by omega)
  have s1 : I 19 = σ 1 := hS 1 (by omega)
  have s2 : I 20 = σ 2 := hS 2 (by omega)
  clear s1 s2
  have aT : I T = α 0 := hsn.2.2.2.2.1 0 (by omega)
  have t1 : I (T + 1) = α 1 := hsn.2.2.2.2.1 1 (by omega)
  have t2 : I (T + 2) = α 2 := hsn.2.2.2.2.1 2 (by omega)
  have t3 : I (T + 3) = α 3 := hsn.2.2.2.2.1 3 (by omega)
  have t4 : I (T + 4) = α 4 := hsn.2.2.2.2.1 4 (by omega)
  have t5 : I (T + 5) = α 5 := hsn.2.2.2.2.1 5 (by omega)
  have t6 : I (T + 6) = α 6 := hsn.2.2.2.2.1 6 (by omega)
  have t7 : I (T + 7) = α 7 := hsn.2.2.2.2.1 7 (by omega)
  have t8 : I (T + 8) = α 8 := hsn.2.2.2.2.1 8 (by omega)
  have t9 : I (T + 9) = α 9 := hsn.2.2.2.2.1 9 (by omega)
  have t10 : I (T + 10) = α 10 := hsn.2.2.2.2.1 10 (by omega)
  have t11 : I (T + 11) = α 11 := hsn.2.2.2.2.1 11 (by omega)
  have t12 : I (T + 12) = α 12 := hsn.2.2.2.2.1 12 (by omega)
  have s0 : I 18 = σ 0 := hS 0 (by omega)
  have s1 : I 19 = σ 1 := hS 1 (by omega)
  have s2 : I 20 = σ 2 := hS 2 (by omega)
  have s3 : I 21 = σ 3 := hS 3 (by omega)
  have s4 : I 22 = σ 4 := hS 4 (by omega)
  have s5 : I 23 = σ 5 := hS 5 (by omega)
  have s6 : I 24 = σ 6 := hS 6 (by omega)
  have hA := hsn.2.2.2.2.1
  have ht : T = 5 ∨ T = 118 := hT
  refine Mt.of kmX11_year (ls := [vA 0, vI z, vI n, vI t, vX, vX]) (fun _ => rfl) (fun _ => rfl) (okf_k (okf_k (okf_k (okf_k (okf_n rfl))))) (fun hok => ?_)
  have loop : ((0 ≤ z ∧ z ≤ 9999) ∧ (1 ≤ n ∧ n ≤ 60) ∧ (-1 ≤ t ∧ t < α 0 5)) → ¬ (0 ≤ t ∧ σ 2 t ≠ 0) → ∀ (r k : Nat) (J : It), (k : Int) + r = n → (∀ a, a ≠ 99 → J a = I a) → Ev l g mX11_year (d + 6) 0 0 Z J P 70 [vA 0, vI z, vI n, vI t, vI (yrC α σ z t k), vI k] [] (QM (fun r I' => r = yrA α σ z n t ∧ (∀ a, a ≠ 99 → a ≠ 100 → I' a = I a)) Z P) := by
    intro hg hc r
    induction r with
    | zero =>
      intro k J h1 fr
      refine ev_iload_5 70 dX11_year_70 ?_
      refine ev_iload_2 72 dX11_year_72 ?_
      refine ev_icmp_ge 73 129 dX11_year_73 rfl (fun h73 => ?_) (fun h73 => ?_)
      · refine ev_iload_4 129 dX11_year_129 ?_
        refine ev_iret 131 dX11_year_131 ?_ rfl
        refine QM_of ⟨?_, fun a z _ => fr a z⟩
        unfold yrA
        rw [if_pos hg, if_neg hc, show n.toNat = k by omega]
      · exfalso; omega
    | succ r ih =>
      intro k J h1 fr
      have hA0 := hA.od hT (Or.inl rfl) fr
      have hS0 := hS.od (Or.inl rfl) fr
      have yc := yrC_r α σ z t k
      have ys : yrC α σ z t (k + 1) = yrC α σ z t k + b2 ((pu α σ (-1) 60 1 (yrQ α z (k : Int))).2.2.2.2 ≠ -4 ∧ (t = -1 ∨ (pu α σ (-1) 60 1 (yrQ α z (k : Int))).2.2.2.2 = t)) := rfl
      have n123 : ∀ (y : Int) (J : It), y = yrC α σ z t (k + 1) → (∀ a, a ≠ 99 → J a = I a) → Ev l g mX11_year (d + 6) 0 0 Z J P 123 [vA 0, vI z, vI n, vI t, vI y, vI k] [] (QM (fun r I' => r = yrA α σ z n t ∧ (∀ a, a ≠ 99 → a ≠ 100 → I' a = I a)) Z P) := by
        intro y J hy fr
        subst hy
        refine ev_iinc_5 123 dX11_year_123 ⟨by omega, by omega⟩ rfl rfl ?_
        refine ev_goto 126 70 dX11_year_126 rfl ?_
        rw [show (k : Int) + 1 = ((k + 1 : Nat) : Int) by omega]
        exact ih (k + 1) J (by omega) fr
      refine ev_iload_5 70 dX11_year_70 ?_
      refine ev_iload_2 72 dX11_year_72 ?_
      refine ev_icmp_ge 73 129 dX11_year_73 rfl (fun h73 => ?_) (fun h73 => ?_)
      · exfalso; omega
      · refine ev_aload_0 76 dX11_year_76 ?_
        refine ev_iload_1 77 dX11_year_77 ?_
        refine ev_iload_5 78 dX11_year_78 ?_
        refine ev_cVv_2 80 dX11_year_80 kmX11_putDrawn lk_X11_327 (kd_0 hZ) (c_putDrawn hZ hP hT0 hT hA0 hW hg.1 (by omega)) rfl rfl (fun I80 f80 => ?_)
        obtain ⟨d1, o1⟩ := f80
        have hA1 := hA0.od hT (Or.inl rfl) o1
        have hS1 := hS0.od (Or.inl rfl) o1
        have hi1 : inD α (dq 99 I80) := by rw [d1]; exact yrQ_in hW z (k : Int)
        refine ev_aload_0 83 dX11_year_83 ?_
        refine ev_getA 84 4 dX11_year_84 fa_X11_40 (kd_0 hZ) (pr_0_4 hP) rfl ?_
        refine ev_iconst 87 dX11_year_87 ⟨by decide, by decide⟩ ?_
        refine ev_cVm_1 88 dX11_year_88 kmX0_passUntilCaught lk_X11_298 (kd_99 hZ) (c_pUC hZ hP hT0 hT (Or.inl rfl) hA1 hS1 hW hi1 _) rfl rfl (fun x88 I88 f88 => ?_)
        obtain ⟨r2, d2, o2⟩ := f88
        rw [d1] at r2 d2
        have b2' : I88 99 4 = (pu α σ (-1) 60 1 (yrQ α z (k : Int))).2.2.2.2 := by rw [← d2]; rfl
        refine ev_popI 91 dX11_year_91 ?_
        refine ev_aload_0 92 dX11_year_92 ?_
        refine ev_getA 93 4 dX11_year_93 fa_X11_40 (kd_0 hZ) (pr_0_4 hP) rfl ?_
        refine ev_gI 96 4 4 dX11_year_96 fa_X11_237 (kd_99 hZ) rfl rfl rfl ?_
        try simp only [b2']
        refine ev_bipush 99 dX11_year_99 ⟨by decide, by decide⟩ ?_
        refine ev_icmp_eq 101 123 dX11_year_101 rfl (fun h101 => ?_) (fun h101 => ?_)
        · first
            | exact n123 _ _ (by rw [ys, b2_t ⟨by omega, by omega⟩]) (fun a z => by rw [o2 a z, o1 a z]; exact fr a z)
            | exact n123 _ _ (by rw [ys, b2_f (fun y => by have y1 := y.1; have y2 := y.2; omega)]; omega) (fun a z => by rw [o2 a z, o1 a z]; exact fr a z)
        · refine ev_iload_3 104 dX11_year_104 ?_
          refine ev_iconst 105 dX11_year_105 ⟨by decide, by decide⟩ ?_
          refine ev_icmp_eq 106 120 dX11_year_106 rfl (fun h106 => ?_) (fun h106 => ?_)
          · refine ev_iinc_4 120 dX11_year_120 ⟨by omega, by omega⟩ rfl rfl ?_
            first
              | exact n123 _ _ (by rw [ys, b2_t ⟨by omega, by omega⟩]) (fun a z => by rw [o2 a z, o1 a z]; exact fr a z)
              | exact n123 _ _ (by rw [ys, b2_f (fun y => by have y1 := y.1; have y2 := y.2; omega)]; omega) (fun a z => by rw [o2 a z, o1 a z]; exact fr a z)
          · refine ev_aload_0 109 dX11_year_109 ?_
            refine ev_getA 110 4 dX11_year_110 fa_X11_40 (kd_0 hZ) (pr_0_4 hP) rfl ?_
            refine ev_gI 113 4 4 dX11_year_113 fa_X11_237 (kd_99 hZ) rfl rfl rfl ?_
            try simp only [b2']
            refine ev_iload_3 116 dX11_year_116 ?_
            refine ev_jne 117 123 dX11_year_117 rfl (fun h117 => ?_) (fun h117 => ?_)
            · first
                | exact n123 _ _ (by rw [ys, b2_t ⟨by omega, by omega⟩]) (fun a z => by rw [o2 a z, o1 a z]; exact fr a z)
                | exact n123 _ _ (by rw [ys, b2_f (fun y => by have y1 := y.1; have y2 := y.2; omega)]; omega) (fun a z => by rw [o2 a z, o1 a z]; exact fr a z)
            · refine ev_iinc_4 120 dX11_year_120 ⟨by omega, by omega⟩ rfl rfl ?_
              first
                | exact n123 _ _ (by rw [ys, b2_t ⟨by omega, by omega⟩]) (fun a z => by rw [o2 a z, o1 a z]; exact fr a z)
                | exact n123 _ _ (by rw [ys, b2_f (fun y => by have y1 := y.1; have y2 := y.2; omega)]; omega) (fun a z => by rw [o2 a z, o1 a z]; exact fr a z)
  refine ev_iload_1 0 dX11_year_0 ?_
  refine ev_iconst 1 dX11_year_1 ⟨by decide, by decide⟩ ?_
  refine ev_sipush 2 dX11_year_2 ⟨by decide, by decide⟩ ?_
  refine ev_cSp_3 5 dX11_year_5 kmX11_within lk_X11_111 (c_within _ _ _) rfl rfl ?_
  try simp only [aT, t1, t2, t3, t4, t5, t6, t7, t8, t9, t10, t11, t12, s0, s1, s2, s3, s4, s5, s6]
  refine ev_ifb_eq 8 21 dX11_year_8 rfl (fun h8 => ?_) (fun h8 => ?_)
  · refine ev_iconst 21 dX11_year_21 ⟨by decide, by decide⟩ ?_
    refine ev_iret 22 dX11_year_22 ?_ rfl
    exact QM_of ⟨(if_neg (by omega)).symm, fun _ _ _ => rfl⟩
  · refine ev_iload_2 11 dX11_year_11 ?_
    refine ev_iconst 12 dX11_year_12 ⟨by decide, by decide⟩ ?_
    refine ev_bipush 13 dX11_year_13 ⟨by decide, by decide⟩ ?_
    refine ev_cSp_3 15 dX11_year_15 kmX11_within lk_X11_111 (c_within _ _ _) rfl rfl ?_
    try simp only [aT, t1, t2, t3, t4, t5, t6, t7, t8, t9, t10, t11, t12, s0, s1, s2, s3, s4, s5, s6]
    refine ev_ifb_ne 18 23 dX11_year_18 rfl (fun h18 => ?_) (fun h18 => ?_)
    · refine ev_iload_3 23 dX11_year_23 ?_
      refine ev_iconst 24 dX11_year_24 ⟨by decide, by decide⟩ ?_
      refine ev_icmp_eq 25 41 dX11_year_25 rfl (fun h25 => ?_) (fun h25 => ?_)
      · refine ev_iload_3 41 dX11_year_41 ?_
        refine ev_iconst 42 dX11_year_42 ⟨by decide, by decide⟩ ?_
        refine ev_icmp_eq 43 64 dX11_year_43 rfl (fun h43 => ?_) (fun h43 => ?_)
        · refine ev_iconst 64 dX11_year_64 ⟨by decide, by decide⟩ ?_
          refine ev_istore_4 65 dX11_year_65 rfl rfl ?_
          refine ev_iconst 67 dX11_year_67 ⟨by decide, by decide⟩ ?_
          refine ev_istore_5 68 dX11_year_68 rfl rfl ?_
          exact loop (by omega) (by omega) n.toNat 0 I (by omega) (fun _ _ => rfl)
        · refine ev_aload_0 46 dX11_year_46 ?_
          refine ev_getA 47 1 dX11_year_47 fa_X11_19 (kd_0 hZ) (pr_0_1 hP) rfl ?_
          refine ev_getA 50 1 dX11_year_50 fa_X11_147 (kd_4 hZ) (pr_4_1 hP) rfl ?_
          refine ev_getA 53 3 dX11_year_53 fa_X11_162 (kd_18 hZ) (pr_18_3 hP) rfl ?_
          refine ev_iload_3 56 dX11_year_56 ?_
          refine ev_zald 57 dX11_year_57 (kd_20 hZ) ⟨by omega, by have := (ln_20 hZ); omega⟩ ?_
          try simp only [aT, t1, t2, t3, t4, t5, t6, t7, t8, t9, t10, t11, t12, s0, s1, s2, s3, s4, s5, s6]
          refine ev_if_eq 58 64 dX11_year_58 rfl (fun h58 => ?_) (fun h58 => ?_)
          · refine ev_iconst 64 dX11_year_64 ⟨by decide, by decide⟩ ?_
            refine ev_istore_4 65 dX11_year_65 rfl rfl ?_
            refine ev_iconst 67 dX11_year_67 ⟨by decide, by decide⟩ ?_
            refine ev_istore_5 68 dX11_year_68 rfl rfl ?_
            exact loop (by omega) (by omega) n.toNat 0 I (by omega) (fun _ _ => rfl)
          · refine ev_bipush 61 dX11_year_61 ⟨by decide, by decide⟩ ?_
            refine ev_iret 63 dX11_year_63 ?_ rfl
            exact QM_of ⟨((if_pos (by omega)).trans (if_pos (by omega))).symm, fun _ _ _ => rfl⟩
      · refine ev_aload_0 28 dX11_year_28 ?_
        refine ev_getA 29 1 dX11_year_29 fa_X11_19 (kd_0 hZ) (pr_0_1 hP) rfl ?_
        refine ev_iload_3 32 dX11_year_32 ?_
        refine ev_cVp_1 33 dX11_year_33 kmX6_isTown lk_X11_141 (kd_4 hZ) (c_isTown hZ hP hT0 hT _) rfl rfl ?_
        try simp only [aT, t1, t2, t3, t4, t5, t6, t7, t8, t9, t10, t11, t12, s0, s1, s2, s3, s4, s5, s6]
        refine ev_ifb_ne 36 41 dX11_year_36 rfl (fun h36 => ?_) (fun h36 => ?_)
        · refine ev_iload_3 41 dX11_year_41 ?_
          refine ev_iconst 42 dX11_year_42 ⟨by decide, by decide⟩ ?_
          refine ev_icmp_eq 43 64 dX11_year_43 rfl (fun h43 => ?_) (fun h43 => ?_)
          · refine ev_iconst 64 dX11_year_64 ⟨by decide, by decide⟩ ?_
            refine ev_istore_4 65 dX11_year_65 rfl rfl ?_
            refine ev_iconst 67 dX11_year_67 ⟨by decide, by decide⟩ ?_
            refine ev_istore_5 68 dX11_year_68 rfl rfl ?_
            exact loop (by omega) (by omega) n.toNat 0 I (by omega) (fun _ _ => rfl)
          · refine ev_aload_0 46 dX11_year_46 ?_
            refine ev_getA 47 1 dX11_year_47 fa_X11_19 (kd_0 hZ) (pr_0_1 hP) rfl ?_
            refine ev_getA 50 1 dX11_year_50 fa_X11_147 (kd_4 hZ) (pr_4_1 hP) rfl ?_
            refine ev_getA 53 3 dX11_year_53 fa_X11_162 (kd_18 hZ) (pr_18_3 hP) rfl ?_
            refine ev_iload_3 56 dX11_year_56 ?_
            refine ev_zald 57 dX11_year_57 (kd_20 hZ) ⟨by omega, by have := (ln_20 hZ); omega⟩ ?_
            try simp only [aT, t1, t2, t3, t4, t5, t6, t7, t8, t9, t10, t11, t12, s0, s1, s2, s3, s4, s5, s6]
            refine ev_if_eq 58 64 dX11_year_58 rfl (fun h58 => ?_) (fun h58 => ?_)
            · refine ev_iconst 64 dX11_year_64 ⟨by decide, by decide⟩ ?_
              refine ev_istore_4 65 dX11_year_65 rfl rfl ?_
              refine ev_iconst 67 dX11_year_67 ⟨by decide, by decide⟩ ?_
              refine ev_istore_5 68 dX11_year_68 rfl rfl ?_
              exact loop (by omega) (by omega) n.toNat 0 I (by omega) (fun _ _ => rfl)
            · refine ev_bipush 61 dX11_year_61 ⟨by decide, by decide⟩ ?_
              refine ev_iret 63 dX11_year_63 ?_ rfl
              exact QM_of ⟨((if_pos (by omega)).trans (if_pos (by omega))).symm, fun _ _ _ => rfl⟩
        · refine ev_iconst 39 dX11_year_39 ⟨by decide, by decide⟩ ?_
          refine ev_iret 40 dX11_year_40 ?_ rfl
          exact QM_of ⟨(if_neg (by omega)).symm, fun _ _ _ => rfl⟩
    · refine ev_iconst 21 dX11_year_21 ⟨by decide, by decide⟩ ?_
      refine ev_iret 22 dX11_year_22 ?_ rfl
      exact QM_of ⟨(if_neg (by omega)).symm, fun _ _ _ => rfl⟩
