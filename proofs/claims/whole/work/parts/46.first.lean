/-! the class is made: its first sea is read and laid -/
def RO2 (Z : Zt) (P : Pt') : Prop := True ∧ ∀ j R, 0 ≤ j → j < 192 → P 102 j = some R → 145 ≤ R ∧ R + 1 < Z.2.2 ∧ RowAt Z P R ∧ ∀ i, 0 ≤ i → i < 192 → P 102 i = some R → i = j
theorem RO2.sw {Z : Zt} {P : Pt'} {x y : Option Nat} (hRO : RO2 Z P) : RO2 Z (upP (upP P 4 0 x) 0 11 y) := by
  have e102 : upP (upP P 4 0 x) 0 11 y 102 = P 102 := by rw [upP_A (by omega), upP_A (by omega)]
  refine ⟨hRO.1, fun j R a b c => ?_⟩
  rw [e102] at c
  obtain ⟨c1, c2, c3, c4⟩ := hRO.2 j R a b c
  exact ⟨c1, c2, ⟨c3.1, by rw [upP_A (by omega), upP_A (by omega)]; exact c3.2.1, c3.2.2⟩, fun i i1 i2 i3 => by rw [e102] at i3; exact c4 i i1 i2 i3⟩
def SN0 (T : Nat) (α : Nat → Int → Int) (Z : Zt) (I : It) (P : Pt') : Prop := LayC Z ∧ LayP P ∧ P 4 0 = some T ∧ IsT T ∧ VT T I α ∧ WF α ∧ RO2 Z P ∧ KN I P α ∧ SH I α
theorem c_sndStart0 {l : Launch} {g : Gt} {d : Nat} {Z : Zt} {I : It} {P : Pt'} (hZ : LayC Z) (hP : LayP P) {T : Nat} (hT0 : P 4 0 = some T) (hT : IsT T) {α : Nat → Int → Int} (hA : VT T I α) (hW : WF α) (hRO : RO2 Z P) : Mt l g mX7_start (d + 1) 0 0 [vA 101] Z I P (QV (fun I' => (∀ v, 0 ≤ v → v < 192 → (I' 105 v = 0 ↔ ¬ mkt α v)) ∧ (∀ j R, 0 ≤ j → j < 192 → P 102 j = some R → I' R 1 = 0) ∧ ∀ a, a < 145 → a ≠ 105 → I' a = I a) Z P) := by
  have w0 := hW.1
  have w1 := hW.2.1
  have w2 := hW.2.2.2.1
  have ht : T = 5 ∨ T = 118 := hT
  refine Mt.of kmX7_start (ls := [vA 101, vX]) (fun _ => rfl) (fun _ => rfl) (okf_k (okf_n rfl)) (fun hok => ?_)
  have loop2 : ∀ (k : Nat) (t : Int) (I1 : It), 0 ≤ t → t + k = α 0 10 → (∀ v, 0 ≤ v → v < 192 → (I1 105 v = 0 ↔ ¬ ∃ q, 0 ≤ q ∧ q < t ∧ 24 * α 8 q + α 9 q = v)) → (∀ j R, 0 ≤ j → j < 192 → P 102 j = some R → I1 R 1 = 0) → (∀ a, a < 145 → a ≠ 105 → I1 a = I a) → Ev l g mX7_start (d + 1) 0 0 Z I1 P 43 [vA 101, vI t] [] (QV (fun I' => (∀ v, 0 ≤ v → v < 192 → (I' 105 v = 0 ↔ ¬ mkt α v)) ∧ (∀ j R, 0 ≤ j → j < 192 → P 102 j = some R → I' R 1 = 0) ∧ ∀ a, a < 145 → a ≠ 105 → I' a = I a) Z P) := by
    intro k
    induction k with
    | zero =>
      intro t I1 h0 h1 g1 g2 g3
      obtain rfl : t = α 0 10 := by omega
      have e10 : I1 T 10 = α 0 10 := by rw [g3 T (by omega) (by omega)]; exact hA.at 10
      refine ev_iload_1 43 dX7_start_43 ?_
      refine ev_aload_0 44 dX7_start_44 ?_
      refine ev_getA 45 0 dX7_start_45 fa_X7_26 (kd_101 hZ) (pr_101_0 hP) rfl ?_
      refine ev_getA 48 0 dX7_start_48 fa_X7_37 (kd_4 hZ) hT0 rfl ?_
      refine ev_gI 51 10 10 dX7_start_51 fa_X7_43 (kdT_0 hZ hT) rfl rfl rfl ?_
      try simp only [e10]
      refine ev_icmp_ge 54 96 dX7_start_54 rfl (fun h54 => ?_) (fun h54 => ?_)
      · refine ev_vret 96 dX7_start_96 ?_ rfl
        exact QV_of ⟨g1, g2, g3⟩
      · exfalso; omega
    | succ k ih =>
      intro t I1 h0 h1 g1 g2 g3
      have e10 : I1 T 10 = α 0 10 := by rw [g3 T (by omega) (by omega)]; exact hA.at 10
      have e8 : I1 (T + 8) t = α 8 t := by rw [g3 (T + 8) (by omega) (by omega)]; exact congrFun (hA 8 (by omega)) t
      have e9 : I1 (T + 9) t = α 9 t := by rw [g3 (T + 9) (by omega) (by omega)]; exact congrFun (hA 9 (by omega)) t
      have hm := hW.2.2.2.2.2.2.2.1 t h0 (by omega)
      refine ev_iload_1 43 dX7_start_43 ?_
      refine ev_aload_0 44 dX7_start_44 ?_
      refine ev_getA 45 0 dX7_start_45 fa_X7_26 (kd_101 hZ) (pr_101_0 hP) rfl ?_
      refine ev_getA 48 0 dX7_start_48 fa_X7_37 (kd_4 hZ) hT0 rfl ?_
      refine ev_gI 51 10 10 dX7_start_51 fa_X7_43 (kdT_0 hZ hT) rfl rfl rfl ?_
      try simp only [e10, e8, e9]
      refine ev_icmp_ge 54 96 dX7_start_54 rfl (fun h54 => ?_) (fun h54 => ?_)
      · exfalso; omega
      · refine ev_aload_0 57 dX7_start_57 ?_
        refine ev_getA 58 3 dX7_start_58 fa_X7_22 (kd_101 hZ) (pr_101_3 hP) rfl ?_
        refine ev_aload_0 61 dX7_start_61 ?_
        refine ev_getA 62 0 dX7_start_62 fa_X7_26 (kd_101 hZ) (pr_101_0 hP) rfl ?_
        refine ev_getA 65 0 dX7_start_65 fa_X7_37 (kd_4 hZ) hT0 rfl ?_
        refine ev_getA 68 11 dX7_start_68 fa_X7_49 (kdT_0 hZ hT) (prT_11 hP hT) rfl ?_
        refine ev_iload_1 71 dX7_start_71 ?_
        refine ev_iald 72 dX7_start_72 (kdT_8 hZ hT) ⟨by omega, by have := (lnT_8 hZ hT); omega⟩ ?_
        try simp only [e10, e8, e9]
        refine ev_aload_0 73 dX7_start_73 ?_
        refine ev_getA 74 0 dX7_start_74 fa_X7_26 (kd_101 hZ) (pr_101_0 hP) rfl ?_
        refine ev_getA 77 0 dX7_start_77 fa_X7_37 (kd_4 hZ) hT0 rfl ?_
        refine ev_getA 80 12 dX7_start_80 fa_X7_53 (kdT_0 hZ hT) (prT_12 hP hT) rfl ?_
        refine ev_iload_1 83 dX7_start_83 ?_
        refine ev_iald 84 dX7_start_84 (kdT_9 hZ hT) ⟨by omega, by have := (lnT_9 hZ hT); omega⟩ ?_
        try simp only [e10, e8, e9]
        refine ev_cSp_2 85 dX7_start_85 kmX11_spotOf lk_X7_56 (c_spotOf _ _ (by omega)) rfl rfl ?_
        try simp only [e10, e8, e9]
        refine ev_iconst 88 dX7_start_88 ⟨by decide, by decide⟩ ?_
        refine ev_zast 89 dX7_start_89 (kd_105 hZ) ⟨by omega, by have := (ln_105 hZ); omega⟩ (by omega) ?_
        refine ev_iinc_1 90 dX7_start_90 ⟨by omega, by omega⟩ rfl rfl ?_
        refine ev_goto 93 43 dX7_start_93 rfl ?_
        refine ih _ _ (by omega) (by omega) (fun v a b => ?_) (fun j R a b c => by rw [upI_A (by have := hRO.2 j R a b c; omega)]; exact g2 j R a b c) (fun a ha hb => by rw [upI_A hb]; exact g3 a ha hb)
        by_cases hv : v = 24 * α 8 t + α 9 t
        · subst hv; rw [upI_s]
          exact ⟨fun z => by omega, fun z => (z ⟨t, h0, by omega, rfl⟩).elim⟩
        · rw [upI_k hv, g1 v a b]
          exact not_congr ⟨fun ⟨q, q1, q2, q3⟩ => ⟨q, q1, by omega, q3⟩, fun ⟨q, q1, q2, q3⟩ => ⟨q, q1, by
            rcases Int.lt_or_le q t with z | z
            · exact z
            · have : q = t := by omega
              subst this; omega, q3⟩⟩
  have loop : ∀ (k : Nat) (t : Int) (I1 : It), 0 ≤ t → t + k = 192 → (∀ v, 0 ≤ v → v < t → I1 105 v = 0) → (∀ j R, 0 ≤ j → j < t → P 102 j = some R → I1 R 1 = 0) → (∀ a, a < 145 → a ≠ 105 → I1 a = I a) → Ev l g mX7_start (d + 1) 0 0 Z I1 P 2 [vA 101, vI t] [] (QV (fun I' => (∀ v, 0 ≤ v → v < 192 → (I' 105 v = 0 ↔ ¬ mkt α v)) ∧ (∀ j R, 0 ≤ j → j < 192 → P 102 j = some R → I' R 1 = 0) ∧ ∀ a, a < 145 → a ≠ 105 → I' a = I a) Z P) := by
    intro k
    induction k with
    | zero =>
      intro t I1 h0 h1 g1 g2 g3
      obtain rfl : t = 192 := by omega
      refine ev_iload_1 2 dX7_start_2 ?_
      refine ev_sipush 3 dX7_start_3 ⟨by decide, by decide⟩ ?_
      refine ev_icmp_ge 6 41 dX7_start_6 rfl (fun h6 => ?_) (fun h6 => ?_)
      · refine ev_iconst 41 dX7_start_41 ⟨by decide, by decide⟩ ?_
        refine ev_istore_1 42 dX7_start_42 rfl rfl ?_
        exact loop2 (α 0 10).toNat 0 I1 (by omega) (by omega) (fun v a b => ⟨fun _ ⟨q, q1, q2, _⟩ => by omega, fun _ => g1 v a b⟩) g2 g3
      · exfalso; omega
    | succ k ih =>
      intro t I1 h0 h1 g1 g2 g3
      refine ev_iload_1 2 dX7_start_2 ?_
      refine ev_sipush 3 dX7_start_3 ⟨by decide, by decide⟩ ?_
      refine ev_icmp_ge 6 41 dX7_start_6 rfl (fun h6 => ?_) (fun h6 => ?_)
      · exfalso; omega
      · refine ev_aload_0 9 dX7_start_9 ?_
        refine ev_getA 10 3 dX7_start_10 fa_X7_22 (kd_101 hZ) (pr_101_3 hP) rfl ?_
        refine ev_iload_1 13 dX7_start_13 ?_
        refine ev_iconst 14 dX7_start_14 ⟨by decide, by decide⟩ ?_
        refine ev_zast 15 dX7_start_15 (kd_105 hZ) ⟨by omega, by have := (ln_105 hZ); omega⟩ (by omega) ?_
        cases hc : P 102 t with
        | none =>
          refine ev_aload_0 16 dX7_start_16 ?_
          refine ev_getA 17 1 dX7_start_17 fa_X7_11 (kd_101 hZ) (pr_101_1 hP) rfl ?_
          refine ev_iload_1 20 dX7_start_20 ?_
          refine ev_aaldN 21 dX7_start_21 (kd_102 hZ) (by omega) ⟨by omega, by have := (ln_102 hZ); omega⟩ hc ?_
          refine ev_ifnullN 22 35 dX7_start_22 rfl ?_
          refine ev_iinc_1 35 dX7_start_35 ⟨by omega, by omega⟩ rfl rfl ?_
          refine ev_goto 38 2 dX7_start_38 rfl ?_
          exact ih _ _ (by omega) (by omega) (all_s (fun j a b => by rw [upI_k (by omega)]; exact g1 j a b) (upI_s _ _ _ _)) (fun j R a b c => by
            rcases Int.lt_or_le j t with z | z
            · rw [upI_A (by have := hRO.2 j R a (by omega) c; omega)]; exact g2 j R a z c
            · have : j = t := by omega
              subst this; rw [hc] at c; cases c) (fun a ha hb => by rw [upI_A hb]; exact g3 a ha hb)
        | some R =>
          have hr := hRO.2 t R h0 (by omega) hc
          refine ev_aload_0 16 dX7_start_16 ?_
          refine ev_getA 17 1 dX7_start_17 fa_X7_11 (kd_101 hZ) (pr_101_1 hP) rfl ?_
          refine ev_iload_1 20 dX7_start_20 ?_
          refine ev_aaldA 21 dX7_start_21 (kd_102 hZ) (by omega) ⟨by omega, by have := (ln_102 hZ); omega⟩ hc ?_
          refine ev_ifnullA 22 dX7_start_22 ?_
          refine ev_aload_0 25 dX7_start_25 ?_
          refine ev_getA 26 1 dX7_start_26 fa_X7_11 (kd_101 hZ) (pr_101_1 hP) rfl ?_
          refine ev_iload_1 29 dX7_start_29 ?_
          refine ev_aaldA 30 dX7_start_30 (kd_102 hZ) (by omega) ⟨by omega, by have := (ln_102 hZ); omega⟩ hc ?_
          refine ev_iconst 31 dX7_start_31 ⟨by decide, by decide⟩ ?_
          refine ev_pZ 32 1 1 dX7_start_32 fp_X7_33 hr.2.2.1.1 (by omega) rfl rfl ?_
          refine ev_iinc_1 35 dX7_start_35 ⟨by omega, by omega⟩ rfl rfl ?_
          refine ev_goto 38 2 dX7_start_38 rfl ?_
          exact ih _ _ (by omega) (by omega) (all_s (fun j a b => by rw [upI_A (by omega), upI_k (by omega)]; exact g1 j a b) (by rw [upI_A (by omega), upI_s])) (fun j R' a b c => by
            by_cases e : R' = R
            · subst e; exact upI_s _ _ _ _
            · rw [upI_A e]
              rcases Int.lt_or_le j t with z | z
              · rw [upI_A (by have := hRO.2 j R' a (by omega) c; omega)]; exact g2 j R' a z c
              · have : j = t := by omega
                subst this; rw [hc] at c; cases c; exact absurd rfl e) (fun a ha hb => by rw [upI_A (by omega), upI_A hb]; exact g3 a ha hb)
  refine ev_iconst 0 dX7_start_0 ⟨by decide, by decide⟩ ?_
  refine ev_istore_1 1 dX7_start_1 rfl rfl ?_
  exact loop 192 0 I (by omega) (by omega) (fun v a b => by omega) (fun j R a b => by omega) (fun _ _ _ => rfl)
theorem c_layText0 {l : Launch} {g : Gt} {d : Nat} {Z : Zt} {I : It} {P : Pt'} (hZ : LayC Z) (hP : LayP P) {T : Nat} (hT0 : P 4 0 = some T) (hT : IsT T) {D : Nat} (hD0 : P 0 11 = some D) (hD : IsT D) (hne : D ≠ T) (hRO : RO2 Z P) (hv : ∀ v, 0 ≤ v → v < 192 → I 104 v = 1000000) {tx : Int → Int} {n : Int} (hx : I 2 = tx) (hn : I 1 3 = n) (hlen : 0 ≤ n ∧ n ≤ 200) (hL : Ltr tx n) : Mt l g mX11_layText (d + 5) 0 0 [vA 0] Z I P (QG (fun r Z' I' P' => Z' = Z ∧ (((¬ ((rdF tx n 200 (startD (vw D I)) 0).1 = -4 ∧ hold (rdF tx n 200 (startD (vw D I)) 0).2)) ∧ r = 0 ∧ P' = P ∧ (∀ a, (a < D ∨ D + 13 ≤ a) → a ≠ 1 → a ≠ 3 → I' a = I a) ∧ (∀ j, j ≠ 2 → I' 1 j = I 1 j)) ∨
    (((rdF tx n 200 (startD (vw D I)) 0).1 = -4 ∧ hold (rdF tx n 200 (startD (vw D I)) 0).2) ∧ r = 1 ∧ P' = upP (upP P 4 0 (some D)) 0 11 (some T) ∧ SN0 D (rdF tx n 200 (startD (vw D I)) 0).2 Z I' P' ∧ LD0 (rdF tx n 200 (startD (vw D I)) 0).2 I I')))) := by
  refine Mt.of kmX11_layText (ls := [vA 0, vX]) (fun _ => rfl) (fun _ => rfl) (okf_k (okf_n rfl)) (fun hok => ?_)
  refine ev_aload_0 0 dX11_layText_0 ?_
  refine ev_getA 1 0 dX11_layText_1 fa_X11_12 (kd_0 hZ) (pr_0_0 hP) rfl ?_
  refine ev_aload_0 4 dX11_layText_4 ?_
  refine ev_getA 5 11 dX11_layText_5 fa_X11_84 (kd_0 hZ) hD0 rfl ?_
  refine ev_cVm_1 8 dX11_layText_8 kmX9_readInto lk_X11_118 (kd_1 hZ) (c_read hZ hP hD hx hn hlen hL) rfl rfl (fun x8 I8 f8 => ?_)
  obtain ⟨r1, r2, r3, r4⟩ := f8
  have rc := rdF_RC tx n 200 (startD (vw D I)) 0 (startD_Cn _) (startD_Rg _)
  obtain ⟨Rv, hRv⟩ : ∃ Rv, Rv = rdF tx n 200 (startD (vw D I)) 0 := ⟨_, rfl⟩
  rw [← hRv] at r1 r2 rc ⊢
  have hC8 : Cn (vw D I8) := by rw [r2]; exact rc.1
  refine ev_bipush 11 dX11_layText_11 ⟨by decide, by decide⟩ ?_
  refine ev_jne 13 26 dX11_layText_13 rfl (fun h13 => ?_) (fun h13 => ?_)
  · refine ev_iconst 26 dX11_layText_26 ⟨by decide, by decide⟩ ?_
    refine ev_zret 27 dX11_layText_27 (by first | omega | exact b2_or _) ?_ rfl
    refine QG_of ⟨rfl, Or.inl ⟨fun z => ?_, rfl, rfl, r3, r4⟩⟩
    first
      | (have := z.1; omega)
      | (rw [r2] at h23; exact h23 z.2)
  · refine ev_aload_0 16 dX11_layText_16 ?_
    refine ev_getA 17 11 dX11_layText_17 fa_X11_84 (kd_0 hZ) hD0 rfl ?_
    refine ev_cVp_0 20 dX11_layText_20 kmX10_holds lk_X11_332 (kdT_0 hZ hD) (c_holds hZ hP hD hC8) rfl rfl ?_
    refine ev_ifb_ne 23 28 dX11_layText_23 rfl (fun h23 => ?_) (fun h23 => ?_)
    · have hhd : hold Rv.2 := by rw [← r2]; assumption
      have hWF := WF_of rc.1 rc.2 hhd
      have hC13 := rc.1.2.2.2.1
      refine ev_aload_0 28 dX11_layText_28 ?_
      refine ev_getA 29 1 dX11_layText_29 fa_X11_19 (kd_0 hZ) (pr_0_1 hP) rfl ?_
      refine ev_getA 32 0 dX11_layText_32 fa_X11_122 (kd_4 hZ) hT0 rfl ?_
      refine ev_astore_1 35 dX11_layText_35 rfl rfl ?_
      refine ev_aload_0 36 dX11_layText_36 ?_
      refine ev_getA 37 1 dX11_layText_37 fa_X11_19 (kd_0 hZ) (pr_0_1 hP) rfl ?_
      refine ev_aload_0 40 dX11_layText_40 ?_
      refine ev_getA 41 11 dX11_layText_41 fa_X11_84 (kd_0 hZ) hD0 rfl ?_
      refine ev_pA 44 0 0 dX11_layText_44 fp_X11_122 (kd_4 hZ) (Or.inr ⟨by decide, _, _, _, rfl, rfl⟩) rfl rfl ?_
      refine ev_aload_0 47 dX11_layText_47 ?_
      refine ev_aload_1 48 dX11_layText_48 ?_
      refine ev_pA 49 11 11 dX11_layText_49 fp_X11_84 (kd_0 hZ) (Or.inr ⟨by decide, _, _, _, rfl, rfl⟩) rfl rfl ?_
      have hP : LayP (upP (upP P 4 0 (some D)) 0 11 (some T)) := (hP.d1 (x := some D)).d2 (x := some T)
      have hT2 : upP (upP P 4 0 (some D)) 0 11 (some T) 4 0 = some D := by rw [upP_a (by omega), upP_s]
      refine ev_aload_0 52 dX11_layText_52 ?_
      refine ev_getA 53 1 dX11_layText_53 fa_X11_19 (kd_0 hZ) (pr_0_1 hP) rfl ?_
      refine ev_cVv_0 56 dX11_layText_56 kmX6_start lk_X11_335 (kd_4 hZ) (c_seaStart hZ hP hT2 hD (by rw [show I8 D 13 = Rv.2 0 13 from congrFun (congrFun r2 0) 13]; omega)) rfl rfl (fun I56 f56 => ?_)
      obtain ⟨g1, g2, g3, g4, g5⟩ := f56
      have hAD : VT D I56 Rv.2 := fun c hc => by rw [g5 (D + c) (by rcases hD with rfl | rfl <;> omega)]; exact congrFun r2 c
      refine ev_aload_0 59 dX11_layText_59 ?_
      refine ev_getA 60 6 dX11_layText_60 fa_X11_50 (kd_0 hZ) (pr_0_6 hP) rfl ?_
      refine ev_cVv_0 63 dX11_layText_63 kmX7_start lk_X11_338 (kd_101 hZ) (c_sndStart0 hZ hP hT2 hD hAD hWF hRO.sw) rfl rfl (fun I63 f63 => ?_)
      refine ev_aload_0 66 dX11_layText_66 ?_
      refine ev_getA 67 7 dX11_layText_67 fa_X11_59 (kd_0 hZ) (pr_0_7 hP) rfl ?_
      refine ev_cVm_0 70 dX11_layText_70 kmX2_empty lk_X11_273 (kd_106 hZ) (c_hempty hZ) rfl rfl (fun x70 I70 f70 => ?_)
      refine ev_popI 73 dX11_layText_73 ?_
      refine ev_aload_0 74 dX11_layText_74 ?_
      refine ev_getA 75 9 dX11_layText_75 fa_X11_73 (kd_0 hZ) (pr_0_9 hP) rfl ?_
      refine ev_cVm_0 78 dX11_layText_78 kmX1_empty lk_X11_313 (kd_112 hZ) (c_dempty hZ) rfl rfl (fun x78 I78 f78 => ?_)
      refine ev_popI 81 dX11_layText_81 ?_
      refine ev_aload_0 82 dX11_layText_82 ?_
      refine ev_getA 83 2 dX11_layText_83 fa_X11_28 (kd_0 hZ) (pr_0_2 hP) rfl ?_
      refine ev_cVv_0 86 dX11_layText_86 kmX4_empty lk_X11_330 (kd_25 hZ) (c_pempty hZ (Or.inl ⟨rfl, rfl⟩)) rfl rfl (fun I86 f86 => ?_)
      refine ev_aload_0 89 dX11_layText_89 ?_
      refine ev_getA 90 3 dX11_layText_90 fa_X11_32 (kd_0 hZ) (pr_0_3 hP) rfl ?_
      refine ev_cVv_0 93 dX11_layText_93 kmX4_empty lk_X11_330 (kd_83 hZ) (c_pempty hZ (Or.inr ⟨rfl, rfl⟩)) rfl rfl (fun I93 f93 => ?_)
      refine ev_iconst 96 dX11_layText_96 ⟨by decide, by decide⟩ ?_
      refine ev_zret 97 dX11_layText_97 (by first | omega | exact b2_or _) ?_ rfl
      obtain ⟨y1, y2, y3⟩ := f63
      have dcase : D = 5 ∨ D = 118 := hD
      have v13 : I8 D 13 = Rv.2 0 13 := congrFun (congrFun r2 0) 13
      have v5 : ∀ c, I8 (D + c) = Rv.2 c := fun c => congrFun r2 c
      obtain ⟨f70a, f70b⟩ := f70
      obtain ⟨f78a, f78b⟩ := f78
      have e0 : ∀ a, a ≠ 106 → a ≠ 112 → a ≠ 25 → a ≠ 83 → I93 a = I63 a := fun a b3 b4 b5 b6 => by
        rw [f93, upI_A b6, upI_A b6, f86, upI_A b5, upI_A b5, f78b, upI_A b4, f70b, upI_A b3]
      have e1 : ∀ a, a < 145 → a ≠ 105 → a ≠ 106 → a ≠ 112 → a ≠ 25 → a ≠ 83 → I93 a = I56 a := fun a b1 b2 b3 b4 b5 b6 => by rw [e0 a b3 b4 b5 b6]; exact y3 a b1 b2
      have e2 : ∀ a, a < 145 → a ≠ 105 → a ≠ 106 → a ≠ 112 → a ≠ 25 → a ≠ 83 → (a < 18 ∨ 25 ≤ a) → I93 a = I8 a := fun a b1 b2 b3 b4 b5 b6 b7 => by rw [e1 a b1 b2 b3 b4 b5 b6]; exact g5 a (by omega)
      refine QG_of ⟨rfl, Or.inr ⟨⟨by omega, hhd⟩, rfl, rfl, ⟨hZ, hP, hT2, hD, fun c hc => ?_, hWF, hRO.sw, fun j R a b c => ?_, fun v a b => ?_, fun v hv => ?_⟩, ⟨?_, ?_, fun j a b => ?_, fun j a b => ?_⟩, ⟨?_, ?_, ?_, ?_, ?_, ?_⟩, fun a ha => ?_, fun j hj => ?_⟩⟩
      · rw [e2 (D + c) (by omega) (by omega) (by omega) (by omega) (by omega) (by omega) (by omega)]; exact v5 c
      · rw [upP_A (by omega), upP_A (by omega)] at c
        have := (hRO.2 j R a b c).1
        left
        rw [e0 R (by omega) (by omega) (by omega) (by omega)]
        exact y2 j R a b (by rw [upP_A (by omega), upP_A (by omega)]; exact c)
      · rw [e2 104 (by omega) (by omega) (by omega) (by omega) (by omega) (by omega) (by omega), r3 104 (by omega) (by omega) (by omega)]; exact hv v a b
      · have := gr_192 hWF hv
        rw [e0 105 (by omega) (by omega) (by omega) (by omega)]; exact y1 v this.1 this.2
      · rw [e1 18 (by omega) (by omega) (by omega) (by omega) (by omega) (by omega)]; exact g1
      · rw [e1 18 (by omega) (by omega) (by omega) (by omega) (by omega) (by omega), g2]; exact v13
      · rw [e1 19 (by omega) (by omega) (by omega) (by omega) (by omega) (by omega), e1 20 (by omega) (by omega) (by omega) (by omega) (by omega) (by omega), (g3 j a b).1, (g3 j a b).2, v5 5]; exact ⟨rfl, rfl⟩
      · rw [← v13] at b
        obtain ⟨z1, z2, z3, z4⟩ := g4 j a b
        rw [e1 21 (by omega) (by omega) (by omega) (by omega) (by omega) (by omega), e1 22 (by omega) (by omega) (by omega) (by omega) (by omega) (by omega), e1 23 (by omega) (by omega) (by omega) (by omega) (by omega) (by omega), e1 24 (by omega) (by omega) (by omega) (by omega) (by omega) (by omega), z1, z2, z3, z4, v5 10, v5 11, v5 12]
        exact ⟨rfl, rfl, rfl, rfl⟩
      · rw [f93, upI_A (by omega), upI_A (by omega), f86, upI_A (by omega), upI_A (by omega), f78b, upI_A (by omega), f70b, upI_s]
      · rw [f93, upI_A (by omega), upI_A (by omega), f86, upI_A (by omega), upI_A (by omega), f78b, upI_s]
      · rw [f93, upI_A (by omega), upI_A (by omega), f86, upI_k (by omega), upI_s]
      · rw [f93, upI_A (by omega), upI_A (by omega), f86, upI_s]
      · rw [f93, upI_k (by omega), upI_s]
      · rw [f93, upI_s]
      · rw [e2 a (by omega) (by omega) (by omega) (by omega) (by omega) (by omega) (by omega)]; exact r3 a (by omega) (by omega) (by omega)
      · rw [e2 1 (by omega) (by omega) (by omega) (by omega) (by omega) (by omega) (by omega)]; exact r4 j hj
    · refine ev_iconst 26 dX11_layText_26 ⟨by decide, by decide⟩ ?_
      refine ev_zret 27 dX11_layText_27 (by first | omega | exact b2_or _) ?_ rfl
      refine QG_of ⟨rfl, Or.inl ⟨fun z => ?_, rfl, rfl, r3, r4⟩⟩
      first
        | (have := z.1; omega)
        | (rw [r2] at h23; exact h23 z.2)
-- what a text tells depends on its letters alone
theorem letF_cg {tx ty : Int → Int} {n : Int} (h : ∀ p, 0 ≤ p → p < n → tx p = ty p) (p : Int) : letF tx n p = letF ty n p := by
  unfold letF
  by_cases hp : 0 ≤ p ∧ p < n
  · rw [if_pos hp, if_pos hp, h p hp.1 hp.2]
  · rw [if_neg hp, if_neg hp]
theorem figF_cg {tx ty : Int → Int} {n : Int} (h : ∀ p, 0 ≤ p → p < n → tx p = ty p) : ∀ (k : Nat) (p : Int), figF tx n k p = figF ty n k p
  | 0, p => rfl
  | k + 1, p => by unfold figF; rw [letF_cg h, figF_cg h k]
theorem kF_cg {tx ty : Int → Int} {n : Int} (h : ∀ p, 0 ≤ p → p < n → tx p = ty p) : ∀ (m : Nat) (p i : Int), kF tx n m p i = kF ty n m p i
  | 0, _, _ => rfl
  | m + 1, p, i => by unfold kF; rw [figF_cg h, letF_cg h, kF_cg h m]
theorem vF_cg {tx ty : Int → Int} {n : Int} (h : ∀ p, 0 ≤ p → p < n → tx p = ty p) : ∀ (i : Nat) (p : Int), vF tx n i p = vF ty n i p
  | 0, p => by unfold vF numF; rw [figF_cg h, letF_cg h, letF_cg h]
  | i + 1, p => by unfold vF; rw [figF_cg h, vF_cg h i]
theorem rdF_cg {tx ty : Int → Int} {n : Int} (h : ∀ p, 0 ≤ p → p < n → tx p = ty p) : ∀ (m : Nat) (D : Nat → Int → Int) (p : Int), 0 ≤ p → rdF tx n m D p = rdF ty n m D p
  | 0, D, p, _ => rfl
  | m + 1, D, p, hp => by
    unfold rdF
    rw [kF_cg h, vF_cg h, vF_cg h, vF_cg h, vF_cg h]
    by_cases c : p < n
    · rw [if_pos c, if_pos c, h p hp c]
      by_cases k0 : (kF ty n 4 (p + 1) 0).1 = 0
      · rw [if_pos k0, if_pos k0]
      · rw [if_neg k0, if_neg k0]
        cases addG D (ty p) (kF ty n 4 (p + 1) 0).1 (vF ty n 0 (p + 1)) (vF ty n 1 (p + 1)) (vF ty n 2 (p + 1)) (vF ty n 3 (p + 1)) with
        | none => rfl
        | some D' =>
          refine rdF_cg h m D' _ ?_
          rcases kF_r ty n 4 (p + 1) 0 with z | z
          · rw [z] at k0; exact absurd rfl k0
          · omega
    · rw [if_neg c, if_neg c]
theorem rd_st {tx : Int → Int} {n p q k : Int} {m : Nat} {D D' : Nat → Int → Int} (hp : p < n) (hk : kF tx n 4 (p + 1) 0 = (k, q)) (h0 : k ≠ 0) (ha : addG D (tx p) k (vF tx n 0 (p + 1)) (vF tx n 1 (p + 1)) (vF tx n 2 (p + 1)) (vF tx n 3 (p + 1)) = some D') : rdF tx n (m + 1) D p = rdF tx n m D' q := by
  have e : rdF tx n (m + 1) D p = if p < n then (if (kF tx n 4 (p + 1) 0).1 = 0 then (p, D) else
      match addG D (tx p) (kF tx n 4 (p + 1) 0).1 (vF tx n 0 (p + 1)) (vF tx n 1 (p + 1)) (vF tx n 2 (p + 1)) (vF tx n 3 (p + 1)) with
      | none => (p, D)
      | some D' => rdF tx n m D' (kF tx n 4 (p + 1) 0).2) else (-4, D) := rfl
  rw [e, if_pos hp, hk, if_neg h0, ha]
theorem rd_en {tx : Int → Int} {n p : Int} {m : Nat} {D : Nat → Int → Int} (hp : n ≤ p) : rdF tx n m D p = (-4, D) := by
  cases m with
  | zero => rfl
  | succ m => unfold rdF; rw [if_neg (by omega)]
-- the first sea
def tB (p : Int) : Int := sL p.toNat
theorem tB_L : Ltr tB 46 := fun p a b => by
  have := sB_in p.toNat (by omega)
  exact this
def aL (D : Nat → Int → Int) (a b c : Int) : Nat → Int → Int := upD (upD (upD (upD D 1 (D 0 1) a) 2 (D 0 1) b) 3 (D 0 1) c) 0 1 (D 0 1 + 1)
def FS (α : Nat → Int → Int) : Prop := (α 0 0 = 12 ∧ α 0 1 = 3 ∧ α 0 5 = 2 ∧ α 0 10 = 0 ∧ α 0 13 = 1) ∧ ((α 1 0 = 4 ∧ α 2 0 = 1 ∧ α 3 0 = 2) ∧ (α 1 1 = 2 ∧ α 2 1 = 3 ∧ α 3 1 = 1) ∧ (α 1 2 = 3 ∧ α 2 2 = 6 ∧ α 3 2 = 1)) ∧
  ((α 4 0 = 1 ∧ α 5 0 = 0 ∧ α 6 0 = 3 ∧ α 7 0 = 5) ∧ (α 4 1 = 2 ∧ α 5 1 = 6 ∧ α 6 1 = 4 ∧ α 7 1 = 2)) ∧ (α 10 0 = 0 ∧ α 11 0 = 3 ∧ α 12 0 = 5)
theorem FS.hold {α : Nat → Int → Int} (h : FS α) : hold α := by
  obtain ⟨⟨a0, a1, a2, a3, a4⟩, hl, ⟨⟨t1, t2, t3, t4⟩, ⟨t5, t6, t7, t8⟩⟩, ⟨g1, g2, g3⟩⟩ := h
  have two : ∀ t : Int, 0 ≤ t → t < 2 → t = 0 ∨ t = 1 := fun t a b => by omega
  refine ⟨by omega, ⟨fun t a b => ?_, fun t a b => by omega, fun t a b => ?_⟩, fun t a b => ⟨fun u c e => ?_, fun u c e => by omega⟩⟩
  · rcases two t a (by omega) with rfl | rfl <;> omega
  · obtain rfl : t = 0 := by omega
    omega
  · obtain rfl : u = 0 := by omega
    obtain rfl : t = 1 := by omega
    omega
theorem FS.cn {α : Nat → Int → Int} (h : FS α) : Cn α := by
  obtain ⟨⟨a0, a1, a2, a3, a4⟩, -⟩ := h
  exact ⟨⟨by omega, by omega⟩, ⟨by omega, by omega⟩, ⟨by omega, by omega⟩, ⟨by omega, by omega⟩, by omega, by omega⟩
def S1 (D : Nat → Int → Int) : Nat → Int → Int := upD (upD (upD (upD (startD D) 1 0 4) 2 0 1) 3 0 2) 0 1 1
theorem sa1 (D : Nat → Int → Int) : addG (startD D) (tB 0) 3 (vF tB 46 0 (0 + 1)) (vF tB 46 1 (0 + 1)) (vF tB 46 2 (0 + 1)) (vF tB 46 3 (0 + 1)) = some (S1 D) := by
  rw [show tB 0 = 108 by decide +kernel, show vF tB 46 0 (0 + 1) = 4 by decide +kernel, show vF tB 46 1 (0 + 1) = 1 by decide +kernel, show vF tB 46 2 (0 + 1) = 2 by decide +kernel]
  rfl
def S2 (D : Nat → Int → Int) : Nat → Int → Int := upD (upD (upD (upD (S1 D) 1 1 2) 2 1 3) 3 1 1) 0 1 2
theorem sa2 (D : Nat → Int → Int) : addG (S1 D) (tB 7) 3 (vF tB 46 0 (7 + 1)) (vF tB 46 1 (7 + 1)) (vF tB 46 2 (7 + 1)) (vF tB 46 3 (7 + 1)) = some (S2 D) := by
  rw [show tB 7 = 108 by decide +kernel, show vF tB 46 0 (7 + 1) = 2 by decide +kernel, show vF tB 46 1 (7 + 1) = 3 by decide +kernel, show vF tB 46 2 (7 + 1) = 1 by decide +kernel]
  rfl
def S3 (D : Nat → Int → Int) : Nat → Int → Int := upD (upD (upD (upD (S2 D) 1 2 3) 2 2 6) 3 2 1) 0 1 3
theorem sa3 (D : Nat → Int → Int) : addG (S2 D) (tB 14) 3 (vF tB 46 0 (14 + 1)) (vF tB 46 1 (14 + 1)) (vF tB 46 2 (14 + 1)) (vF tB 46 3 (14 + 1)) = some (S3 D) := by
  rw [show tB 14 = 108 by decide +kernel, show vF tB 46 0 (14 + 1) = 3 by decide +kernel, show vF tB 46 1 (14 + 1) = 6 by decide +kernel, show vF tB 46 2 (14 + 1) = 1 by decide +kernel]
  rfl
def S4 (D : Nat → Int → Int) : Nat → Int → Int := upD (upD (upD (upD (upD (S3 D) 4 0 1) 5 0 0) 6 0 3) 7 0 5) 0 5 1
theorem sa4 (D : Nat → Int → Int) : addG (S3 D) (tB 21) 4 (vF tB 46 0 (21 + 1)) (vF tB 46 1 (21 + 1)) (vF tB 46 2 (21 + 1)) (vF tB 46 3 (21 + 1)) = some (S4 D) := by
  rw [show tB 21 = 116 by decide +kernel, show vF tB 46 0 (21 + 1) = 0 by decide +kernel, show vF tB 46 1 (21 + 1) = 1 by decide +kernel, show vF tB 46 2 (21 + 1) = 3 by decide +kernel, show vF tB 46 3 (21 + 1) = 5 by decide +kernel]
  rfl
def S5 (D : Nat → Int → Int) : Nat → Int → Int := upD (upD (upD (upD (upD (S4 D) 4 1 2) 5 1 6) 6 1 4) 7 1 2) 0 5 2
theorem sa5 (D : Nat → Int → Int) : addG (S4 D) (tB 30) 4 (vF tB 46 0 (30 + 1)) (vF tB 46 1 (30 + 1)) (vF tB 46 2 (30 + 1)) (vF tB 46 3 (30 + 1)) = some (S5 D) := by
  rw [show tB 30 = 116 by decide +kernel, show vF tB 46 0 (30 + 1) = 6 by decide +kernel, show vF tB 46 1 (30 + 1) = 2 by decide +kernel, show vF tB 46 2 (30 + 1) = 4 by decide +kernel, show vF tB 46 3 (30 + 1) = 2 by decide +kernel]
  rfl
def S6 (D : Nat → Int → Int) : Nat → Int → Int := upD (upD (upD (upD (S5 D) 10 0 0) 11 0 3) 12 0 5) 0 13 1
theorem sa6 (D : Nat → Int → Int) : addG (S5 D) (tB 39) 3 (vF tB 46 0 (39 + 1)) (vF tB 46 1 (39 + 1)) (vF tB 46 2 (39 + 1)) (vF tB 46 3 (39 + 1)) = some (S6 D) := by
  rw [show tB 39 = 103 by decide +kernel, show vF tB 46 0 (39 + 1) = 0 by decide +kernel, show vF tB 46 1 (39 + 1) = 3 by decide +kernel, show vF tB 46 2 (39 + 1) = 5 by decide +kernel]
  rfl
theorem first_sea (D : Nat → Int → Int) : ∃ α, rdF tB 46 200 (startD D) 0 = (-4, α) ∧ FS α := by
  refine ⟨S6 D, ?_, ⟨rfl, rfl, rfl, rfl, rfl⟩, ⟨⟨rfl, rfl, rfl⟩, ⟨rfl, rfl, rfl⟩, rfl, rfl, rfl⟩, ⟨⟨rfl, rfl, rfl, rfl⟩, rfl, rfl, rfl, rfl⟩, rfl, rfl, rfl⟩
  rw [rd_st (m := 199) (p := 0) (q := 7) (k := 3) (D' := S1 D) (by omega) (by decide +kernel) (by omega) (sa1 D),
    rd_st (m := 198) (p := 7) (q := 14) (k := 3) (D' := S2 D) (by omega) (by decide +kernel) (by omega) (sa2 D),
    rd_st (m := 197) (p := 14) (q := 21) (k := 3) (D' := S3 D) (by omega) (by decide +kernel) (by omega) (sa3 D),
    rd_st (m := 196) (p := 21) (q := 30) (k := 4) (D' := S4 D) (by omega) (by decide +kernel) (by omega) (sa4 D),
    rd_st (m := 195) (p := 30) (q := 39) (k := 4) (D' := S5 D) (by omega) (by decide +kernel) (by omega) (sa5 D),
    rd_st (m := 194) (p := 39) (q := 46) (k := 3) (D' := S6 D) (by omega) (by decide +kernel) (by omega) (sa6 D),
    rd_en (by omega)]
def LD1 (D : Nat → Int → Int) (I' : It) : Prop := (I' 18 0 = 0 ∧ I' 18 1 = D 0 13 ∧ (∀ j, 0 ≤ j → j < 6 → I' 19 j = D 5 j ∧ I' 20 j = 0) ∧ (∀ j, 0 ≤ j → j < D 0 13 → I' 21 j = D 10 j ∧ I' 22 j = D 11 j ∧ I' 23 j = D 12 j ∧ I' 24 j = -4)) ∧ (I' 106 4 = 0 ∧ I' 112 4 = 0 ∧ I' 25 1 = 0 ∧ I' 25 2 = 0 ∧ I' 83 1 = 0 ∧ I' 83 2 = 0)
theorem LD1.up1 {D : Nat → Int → Int} {I : It} {k x : Int} (h : LD1 D I) : LD1 D (upI I 1 k x) := by
  unfold LD1
  simp (disch := omega) only [upI_A]
  exact h
theorem SN0.up1 {T : Nat} {α : Nat → Int → Int} {Z : Zt} {I : It} {P : Pt'} {k x : Int} (h : SN0 T α Z I P) : SN0 T α Z (upI I 1 k x) P := by
  obtain ⟨hZ, hP, hT0, hT, hA, hW, hRO, hKN, hSH⟩ := h
  have ht : T = 5 ∨ T = 118 := hT
  refine ⟨hZ, hP, hT0, hT, fun c hc => ?_, hW, hRO, fun j R a b c => ?_, fun v a b => ?_, fun v hv => ?_⟩
  · rw [upI_A (by omega)]; exact hA c hc
  · have := hRO.2 j R a b c
    rw [upI_A (by omega), upI_A (by omega)]; exact hKN j R a b c
  · rw [upI_A (by omega)]; exact hSH.1 v a b
  · rw [upI_A (by omega)]; exact hSH.2 v hv
theorem c_initB {l : Launch} {g : Gt} {d : Nat} {Z : Zt} {I : It} {P : Pt'} (hZ : LayC Z) (hP : LayP P) (hT0 : P 4 0 = some 5) (hD0 : P 0 11 = some 118) (hR0 : ∀ j, 0 ≤ j → j < 192 → P 102 j = none) (hv : ∀ v, 0 ≤ v → v < 192 → I 104 v = 1000000) (h13 : I 1 3 = 0) : Ev l g mX11_init (d + 6) 0 0 Z I P 164 [vA 0, vX] [] (QW (fun Z' I' P' => Z' = Z ∧ (P' = upP (upP P 4 0 (some 118)) 0 11 (some 5) ∧ ∃ α, FS α ∧ SN0 118 α Z I' P' ∧ LD1 α I' ∧ I' 1 3 = 0))) := by
  have hRO : RO2 Z P := ⟨trivial, fun j R a b c => by rw [hR0 j a b] at c; cases c⟩
  have loop : ∀ (k t : Nat) (I1 : It), t + k = 46 → (∀ j : Nat, j < t → I1 2 (j : Int) = sL j) → I1 1 3 = (t : Int) → (∀ v, 0 ≤ v → v < 192 → I1 104 v = 1000000) → Ev l g mX11_init (d + 6) 0 0 Z I1 P 166 [vA 0, vI (t : Int)] [] (QW (fun Z' I' P' => Z' = Z ∧ (P' = upP (upP P 4 0 (some 118)) 0 11 (some 5) ∧ ∃ α, FS α ∧ SN0 118 α Z I' P' ∧ LD1 α I' ∧ I' 1 3 = 0))) := by
    intro k
    induction k with
    | zero =>
      intro t I1 h1 h2 h3 hv1
      obtain rfl : t = 46 := by omega
      have hrd := rdF_cg (tx := I1 2) (ty := tB) (n := 46) (fun p a b => by rw [show p = ((p.toNat : Nat) : Int) by omega]; exact h2 p.toNat (by omega)) 200 (startD (vw 118 I1)) 0 (by omega)
      obtain ⟨α, ha1, ha2⟩ := first_sea (vw 118 I1)
      rw [ha1] at hrd
      have hLt : Ltr (I1 2) 46 := fun p a b => by
        have e := h2 p.toNat (by omega)
        rw [show p = ((p.toNat : Nat) : Int) by omega, e]
        exact sB_in p.toNat (by omega)
      refine ev_iload_1 166 dX11_init_166 ?_
      refine ev_strLen 167 rfl dX11_init_167 dX11_init_169 rfl ?_
      refine ev_icmp_ge 172 195 dX11_init_172 rfl (fun h172 => ?_) (fun h172 => ?_)
      · refine ev_aload_0 195 dX11_init_195 ?_
        refine Ev.mono (bc' := 0 + 0) (bs' := 0 + 0) (by omega) (by omega) ?_
        refine ev_cVg_0 196 dX11_init_196 kmX11_layText lk_X11_104 (kd_0 hZ) (c_layText0 hZ hP hT0 (Or.inl rfl) hD0 (Or.inr rfl) (by omega) hRO hv1 (n := 46) rfl h3 ⟨by omega, by omega⟩ hLt) rfl rfl (fun x196 Z196 I196 P196 f196 _ _ => ?_)
        obtain ⟨rfl, f196⟩ := f196
        refine Ev.mono (bc' := 0) (bs' := 0) (by omega) (by omega) ?_
        rw [hrd] at f196
        rcases f196 with ⟨g1, -⟩ | ⟨-, g2, g3, g4, g5⟩
        · exact absurd ⟨rfl, ha2.hold⟩ g1
        have hP2 := g4.2.1
        refine ev_popI 199 dX11_init_199 ?_
        refine ev_aload_0 200 dX11_init_200 ?_
        refine ev_getA 201 0 dX11_init_201 fa_X11_12 (kd_0 hZ) (pr_0_0 hP2) rfl ?_
        refine ev_cVm_0 204 dX11_init_204 kmX9_empty lk_X11_108 (kd_1 hZ) (c_tempty hZ hP2) rfl rfl (fun x204 I204 f204 => ?_)
        obtain ⟨e1, rfl⟩ := f204
        refine ev_popI 207 dX11_init_207 ?_
        refine ev_vret 208 dX11_init_208 ?_ rfl
        exact QW_of ⟨rfl, g3, α, ha2, g4.up1, LD1.up1 ⟨g5.1, g5.2.1⟩, upI_s _ _ _ _⟩
      · exfalso; omega
    | succ k ih =>
      intro t I1 h1 h2 h3 hv1
      refine ev_iload_1 166 dX11_init_166 ?_
      refine ev_strLen 167 rfl dX11_init_167 dX11_init_169 rfl ?_
      refine ev_icmp_ge 172 195 dX11_init_172 rfl (fun h172 => ?_) (fun h172 => ?_)
      · exfalso; omega
      · refine ev_aload_0 175 dX11_init_175 ?_
        refine ev_getA 176 0 dX11_init_176 fa_X11_12 (kd_0 hZ) (pr_0_0 hP) rfl ?_
        refine ev_strAt 179 (k := t) rfl (by omega) rfl dX11_init_179 dX11_init_181 dX11_init_182 rfl rfl ?_
        refine ev_cVm_1 185 dX11_init_185 kmX9_add lk_X11_100 (kd_1 hZ) (c_tadd hZ hP (by omega) _) rfl rfl (fun x185 I185 f185 => ?_)
        rcases f185.symm with ⟨e1, -⟩ | ⟨e1, e2, e3⟩
        · exfalso; omega
        refine ev_popI 188 dX11_init_188 ?_
        refine ev_iinc_1 189 dX11_init_189 ⟨by omega, by omega⟩ rfl rfl ?_
        refine ev_goto 192 166 dX11_init_192 rfl ?_
        have hi : ((t : Int) + 1) = ((t + 1 : Nat) : Int) := by omega
        rw [hi]
        subst e3
        refine ih (t + 1) _ (by omega) (fun j hj => ?_) ?_ (fun v a b => ?_)
        · rw [upI_A (by omega), h3]
          by_cases e : j = t
          · subst e; rw [upI_s]
          · rw [upI_k (by omega)]; exact h2 j (by omega)
        · rw [upI_s, h3]; omega
        · rw [upI_A (by omega), upI_A (by omega)]; exact hv1 v a b
  refine ev_iconst 164 dX11_init_164 ⟨by decide, by decide⟩ ?_
  refine ev_istore_1 165 dX11_init_165 rfl rfl ?_
  exact loop 46 0 I rfl (fun j hj => by omega) h13 hv
