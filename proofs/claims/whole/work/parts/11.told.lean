/-! what is told: a text's items, the draft -/
def vw (T : Nat) (I : It) : Nat → Int → Int := fun c => I (T + c)
def upD (D : Nat → Int → Int) (c : Nat) (i x : Int) : Nat → Int → Int := fun b j => if b = c ∧ j = i then x else D b j
theorem vw_up {T c : Nat} {I : It} {i x : Int} : vw T (upI I (T + c) i x) = upD (vw T I) c i x := by
  funext b j
  simp only [vw, upI, upD]
  by_cases h : b = c
  · subst h; simp
  · have : T + b ≠ T + c := by omega
    simp [h]
theorem vw_up0 {T : Nat} {I : It} {i x : Int} : vw T (upI I T i x) = upD (vw T I) 0 i x := vw_up (c := 0)
theorem vw_0 {T : Nat} {I : It} : vw T I 0 = I T := rfl
def Fr (lo hi : Nat) (I I' : It) : Prop := ∀ a, (a < lo ∨ hi ≤ a) → I' a = I a
theorem Fr.rf {lo hi : Nat} {I : It} : Fr lo hi I I := fun _ _ => rfl
theorem Fr.up {lo hi a : Nat} {I I' : It} {i x : Int} (h : Fr lo hi I I') (h1 : lo ≤ a) (h2 : a < hi) : Fr lo hi I (upI I' a i x) := fun b hb => by
  rw [upI_A (by omega)]; exact h b hb
theorem Fr.tr {lo hi lo' hi' : Nat} {I I' I'' : It} (h : Fr lo hi I I') (h2 : Fr lo' hi' I' I'') (hl : lo ≤ lo') (hh : hi' ≤ hi) : Fr lo hi I I'' := fun b hb => by
  rw [h2 b (by omega)]; exact h b hb
theorem all_s {p : Int → Prop} {t : Int} (h : ∀ j, 0 ≤ j → j < t → p j) (ht : p t) : ∀ j, 0 ≤ j → j < t + 1 → p j := fun j a b => by
  rcases (show j < t ∨ j = t by omega) with c | rfl
  · exact h j a c
  · exact ht
theorem all_0 {p : Int → Prop} : ∀ j : Int, 0 ≤ j → j < 0 → p j := fun j a b => by omega
def startD (D : Nat → Int → Int) : Nat → Int → Int := upD (upD (upD (upD (upD D 0 0 12) 0 1 0) 0 5 0) 0 10 0) 0 13 0
def addG (D : Nat → Int → Int) (l k a b c e : Int) : Option (Nat → Int → Int) :=
  if l = 110 then (if k = 1 ∧ D 0 1 + D 0 5 + D 0 10 + D 0 13 ≤ 0 ∧ 4 ≤ a ∧ a ≤ 24 then some (upD D 0 0 a) else none)
  else if l = 108 then (if k = 3 ∧ D 0 1 < 8 ∧ (0 ≤ a ∧ a ≤ 6) ∧ (0 ≤ b ∧ b ≤ 9) ∧ (1 ≤ c ∧ c ≤ 9) then some (upD (upD (upD (upD D 1 (D 0 1) a) 2 (D 0 1) b) 3 (D 0 1) c) 0 1 (D 0 1 + 1)) else none)
  else if l = 116 then (if k = 4 ∧ D 0 5 < 6 ∧ (0 ≤ b ∧ b ≤ 7) ∧ (0 ≤ a ∧ a < D 0 0) ∧ (0 ≤ c ∧ c ≤ 20) ∧ (0 ≤ e ∧ e ≤ 20) then some (upD (upD (upD (upD (upD D 4 (D 0 5) b) 5 (D 0 5) a) 6 (D 0 5) c) 7 (D 0 5) e) 0 5 (D 0 5 + 1)) else none)
  else if l = 109 then (if k = 2 ∧ D 0 10 < 8 ∧ (0 ≤ a ∧ a ≤ 7) ∧ (0 ≤ b ∧ b < D 0 0) then some (upD (upD (upD D 8 (D 0 10) a) 9 (D 0 10) b) 0 10 (D 0 10 + 1)) else none)
  else if l = 103 then (if k = 3 ∧ D 0 13 < 5 ∧ (0 ≤ a ∧ a ≤ 7) ∧ (0 ≤ b ∧ b < D 0 0) ∧ (0 ≤ c ∧ c ≤ 9) then some (upD (upD (upD (upD D 10 (D 0 13) a) 11 (D 0 13) b) 12 (D 0 13) c) 0 13 (D 0 13 + 1)) else none)
  else none
/-- a draft's counts -/
def Cn (D : Nat → Int → Int) : Prop := (0 ≤ D 0 1 ∧ D 0 1 ≤ 8) ∧ (0 ≤ D 0 5 ∧ D 0 5 ≤ 6) ∧ (0 ≤ D 0 10 ∧ D 0 10 ≤ 8) ∧ (0 ≤ D 0 13 ∧ D 0 13 ≤ 5) ∧ 4 ≤ D 0 0 ∧ D 0 0 ≤ 24
theorem Cn.v {T : Nat} {I : It} (h : Cn (vw T I)) : (0 ≤ I T 1 ∧ I T 1 ≤ 8) ∧ (0 ≤ I T 5 ∧ I T 5 ≤ 6) ∧ (0 ≤ I T 10 ∧ I T 10 ≤ 8) ∧ (0 ≤ I T 13 ∧ I T 13 ≤ 5) ∧ 4 ≤ I T 0 ∧ I T 0 ≤ 24 := h
theorem addG_n {T : Nat} {I : It} {l k a b c e : Int} (h : l = 110) : addG (vw T I) l k a b c e = if k = 1 ∧ I T 1 + I T 5 + I T 10 + I T 13 ≤ 0 ∧ 4 ≤ a ∧ a ≤ 24 then some (upD (vw T I) 0 0 a) else none := by subst h; rfl
theorem addG_l {T : Nat} {I : It} {l k a b c e : Int} (h : l = 108) : addG (vw T I) l k a b c e = if k = 3 ∧ I T 1 < 8 ∧ (0 ≤ a ∧ a ≤ 6) ∧ (0 ≤ b ∧ b ≤ 9) ∧ (1 ≤ c ∧ c ≤ 9) then some (upD (upD (upD (upD (vw T I) 1 (I T 1) a) 2 (I T 1) b) 3 (I T 1) c) 0 1 (I T 1 + 1)) else none := by subst h; rfl
theorem addG_t {T : Nat} {I : It} {l k a b c e : Int} (h : l = 116) : addG (vw T I) l k a b c e = if k = 4 ∧ I T 5 < 6 ∧ (0 ≤ b ∧ b ≤ 7) ∧ (0 ≤ a ∧ a < I T 0) ∧ (0 ≤ c ∧ c ≤ 20) ∧ (0 ≤ e ∧ e ≤ 20) then some (upD (upD (upD (upD (upD (vw T I) 4 (I T 5) b) 5 (I T 5) a) 6 (I T 5) c) 7 (I T 5) e) 0 5 (I T 5 + 1)) else none := by subst h; rfl
theorem addG_m {T : Nat} {I : It} {l k a b c e : Int} (h : l = 109) : addG (vw T I) l k a b c e = if k = 2 ∧ I T 10 < 8 ∧ (0 ≤ a ∧ a ≤ 7) ∧ (0 ≤ b ∧ b < I T 0) then some (upD (upD (upD (vw T I) 8 (I T 10) a) 9 (I T 10) b) 0 10 (I T 10 + 1)) else none := by subst h; rfl
theorem addG_g {T : Nat} {I : It} {l k a b c e : Int} (h : l = 103) : addG (vw T I) l k a b c e = if k = 3 ∧ I T 13 < 5 ∧ (0 ≤ a ∧ a ≤ 7) ∧ (0 ≤ b ∧ b < I T 0) ∧ (0 ≤ c ∧ c ≤ 9) then some (upD (upD (upD (upD (vw T I) 10 (I T 13) a) 11 (I T 13) b) 12 (I T 13) c) 0 13 (I T 13 + 1)) else none := by subst h; rfl
def putG (T : Nat) (I : It) (C : Prop) (D : Nat → Int → Int) : Int → It → Prop := fun r I' => (C ∧ r = 1 ∧ vw T I' = D ∧ Fr T (T + 13) I I') ∨ (¬ C ∧ r = 0 ∧ I' = I)
theorem c_tstart {l : Launch} {g : Gt} {d : Nat} {Z : Zt} {I : It} {P : Pt'} (hZ : LayC Z) (hP : LayP P) {T : Nat} (hT : IsT T) : Mt l g mX10_start d 0 0 [vA T] Z I P (QV (fun I' => vw T I' = startD (vw T I) ∧ Fr T (T + 13) I I') Z P) := by
  refine Mt.of kmX10_start (ls := [vA T]) (fun _ => rfl) (fun _ => rfl) (okf_k (okf_n rfl)) (fun hok => ?_)
  refine ev_aload_0 0 dX10_start_0 ?_
  refine ev_bipush 1 dX10_start_1 ⟨by decide, by decide⟩ ?_
  refine ev_pI 3 0 0 dX10_start_3 fp_X10_9 (kdT_0 hZ hT) rfl rfl ?_
  refine ev_aload_0 6 dX10_start_6 ?_
  refine ev_iconst 7 dX10_start_7 ⟨by decide, by decide⟩ ?_
  refine ev_pI 8 1 1 dX10_start_8 fp_X10_15 (kdT_0 hZ hT) rfl rfl ?_
  refine ev_aload_0 11 dX10_start_11 ?_
  refine ev_iconst 12 dX10_start_12 ⟨by decide, by decide⟩ ?_
  refine ev_pI 13 5 5 dX10_start_13 fp_X10_28 (kdT_0 hZ hT) rfl rfl ?_
  refine ev_aload_0 16 dX10_start_16 ?_
  refine ev_iconst 17 dX10_start_17 ⟨by decide, by decide⟩ ?_
  refine ev_pI 18 10 10 dX10_start_18 fp_X10_43 (kdT_0 hZ hT) rfl rfl ?_
  refine ev_aload_0 21 dX10_start_21 ?_
  refine ev_iconst 22 dX10_start_22 ⟨by decide, by decide⟩ ?_
  refine ev_pI 23 13 13 dX10_start_23 fp_X10_52 (kdT_0 hZ hT) rfl rfl ?_
  refine ev_vret 26 dX10_start_26 ?_ rfl
  exact QV_of ⟨by simp only [vw_up0]; rfl, ((((Fr.rf.up (by omega) (by omega)).up (by omega) (by omega)).up (by omega) (by omega)).up (by omega) (by omega)).up (by omega) (by omega)⟩
theorem c_canBeSpot {l : Launch} {g : Gt} {d : Nat} {Z : Zt} {I : It} {P : Pt'} (hZ : LayC Z) {T : Nat} (hT : IsT T) (h : 0 ≤ I T 0 ∧ I T 0 ≤ 100) (x y : Int) : Mt l g mX10_canBeSpot (d + 1) 0 0 [vA T, vI x, vI y] Z I P (QP (b2 ((0 ≤ x ∧ x ≤ 7) ∧ (0 ≤ y ∧ y < I T 0))) Z I P) := by
  refine Mt.of kmX10_canBeSpot (ls := [vA T, vI x, vI y]) (fun _ => rfl) (fun _ => rfl) (okf_k (okf_k (okf_k (okf_n rfl)))) (fun hok => ?_)
  refine ev_iload_1 0 dX10_canBeSpot_0 ?_
  refine ev_iconst 1 dX10_canBeSpot_1 ⟨by decide, by decide⟩ ?_
  refine ev_bipush 2 dX10_canBeSpot_2 ⟨by decide, by decide⟩ ?_
  refine ev_cSp_3 4 dX10_canBeSpot_4 kmX11_within lk_X10_89 (c_within _ _ _) rfl rfl ?_
  refine ev_ifb_eq 7 28 dX10_canBeSpot_7 rfl (fun h7 => ?_) (fun h7 => ?_)
  · refine ev_iconst 28 dX10_canBeSpot_28 ⟨by decide, by decide⟩ ?_
    refine ev_zret 29 dX10_canBeSpot_29 (by first | omega | exact b2_or _) ?_ rfl
    first | exact QP_of (b2_t (by omega)).symm | exact QP_of (b2_f (by omega)).symm
  · refine ev_iload_2 10 dX10_canBeSpot_10 ?_
    refine ev_iconst 11 dX10_canBeSpot_11 ⟨by decide, by decide⟩ ?_
    refine ev_aload_0 12 dX10_canBeSpot_12 ?_
    refine ev_gI 13 0 0 dX10_canBeSpot_13 fa_X10_9 (kdT_0 hZ hT) rfl rfl rfl ?_
    refine ev_iconst 16 dX10_canBeSpot_16 ⟨by decide, by decide⟩ ?_
    refine ev_isub 17 dX10_canBeSpot_17 ⟨by omega, by omega⟩ ?_
    refine ev_cSp_3 18 dX10_canBeSpot_18 kmX11_within lk_X10_89 (c_within _ _ _) rfl rfl ?_
    refine ev_ifb_eq 21 28 dX10_canBeSpot_21 rfl (fun h21 => ?_) (fun h21 => ?_)
    · refine ev_iconst 28 dX10_canBeSpot_28 ⟨by decide, by decide⟩ ?_
      refine ev_zret 29 dX10_canBeSpot_29 (by first | omega | exact b2_or _) ?_ rfl
      first | exact QP_of (b2_t (by omega)).symm | exact QP_of (b2_f (by omega)).symm
    · refine ev_iconst 24 dX10_canBeSpot_24 ⟨by decide, by decide⟩ ?_
      refine ev_goto 25 29 dX10_canBeSpot_25 rfl ?_
      refine ev_zret 29 dX10_canBeSpot_29 (by first | omega | exact b2_or _) ?_ rfl
      first | exact QP_of (b2_t (by omega)).symm | exact QP_of (b2_f (by omega)).symm
theorem c_addPlaces {l : Launch} {g : Gt} {d : Nat} {Z : Zt} {I : It} {P : Pt'} (hZ : LayC Z) (hP : LayP P) {T : Nat} (hT : IsT T) (hC : Cn (vw T I)) (a : Int) : Mt l g mX10_addPlaces (d + 1) 0 0 [vA T, vI a] Z I P (QM (putG T I (I T 1 + I T 5 + I T 10 + I T 13 ≤ 0 ∧ 4 ≤ a ∧ a ≤ 24) (upD (vw T I) 0 0 a)) Z P) := by
  have hb := hC.v
  refine Mt.of kmX10_addPlaces (ls := [vA T, vI a]) (fun _ => rfl) (fun _ => rfl) (okf_k (okf_k (okf_n rfl))) (fun hok => ?_)
  refine ev_aload_0 0 dX10_addPlaces_0 ?_
  refine ev_gI 1 1 1 dX10_addPlaces_1 fa_X10_15 (kdT_0 hZ hT) rfl rfl rfl ?_
  refine ev_aload_0 4 dX10_addPlaces_4 ?_
  refine ev_gI 5 5 5 dX10_addPlaces_5 fa_X10_28 (kdT_0 hZ hT) rfl rfl rfl ?_
  refine ev_iadd 8 dX10_addPlaces_8 ⟨by omega, by omega⟩ ?_
  refine ev_aload_0 9 dX10_addPlaces_9 ?_
  refine ev_gI 10 10 10 dX10_addPlaces_10 fa_X10_43 (kdT_0 hZ hT) rfl rfl rfl ?_
  refine ev_iadd 13 dX10_addPlaces_13 ⟨by omega, by omega⟩ ?_
  refine ev_aload_0 14 dX10_addPlaces_14 ?_
  refine ev_gI 15 13 13 dX10_addPlaces_15 fa_X10_52 (kdT_0 hZ hT) rfl rfl rfl ?_
  refine ev_iadd 18 dX10_addPlaces_18 ⟨by omega, by omega⟩ ?_
  refine ev_if_gt 19 32 dX10_addPlaces_19 rfl (fun h19 => ?_) (fun h19 => ?_)
  · refine ev_iconst 32 dX10_addPlaces_32 ⟨by decide, by decide⟩ ?_
    refine ev_zret 33 dX10_addPlaces_33 (by first | omega | exact b2_or _) ?_ rfl
    first | exact QM_of (Or.inr ⟨by omega, rfl, rfl⟩) | exact QM_of (Or.inl ⟨by omega, rfl, by simp only [vw_up, vw_up0], (Fr.rf.up (by omega) (by omega))⟩)
  · refine ev_iload_1 22 dX10_addPlaces_22 ?_
    refine ev_iconst 23 dX10_addPlaces_23 ⟨by decide, by decide⟩ ?_
    refine ev_bipush 24 dX10_addPlaces_24 ⟨by decide, by decide⟩ ?_
    refine ev_cSp_3 26 dX10_addPlaces_26 kmX11_within lk_X10_89 (c_within _ _ _) rfl rfl ?_
    refine ev_ifb_ne 29 34 dX10_addPlaces_29 rfl (fun h29 => ?_) (fun h29 => ?_)
    · refine ev_aload_0 34 dX10_addPlaces_34 ?_
      refine ev_iload_1 35 dX10_addPlaces_35 ?_
      refine ev_pI 36 0 0 dX10_addPlaces_36 fp_X10_9 (kdT_0 hZ hT) rfl rfl ?_
      refine ev_iconst 39 dX10_addPlaces_39 ⟨by decide, by decide⟩ ?_
      refine ev_zret 40 dX10_addPlaces_40 (by first | omega | exact b2_or _) ?_ rfl
      first | exact QM_of (Or.inr ⟨by omega, rfl, rfl⟩) | exact QM_of (Or.inl ⟨by omega, rfl, by simp only [vw_up, vw_up0], (Fr.rf.up (by omega) (by omega))⟩)
    · refine ev_iconst 32 dX10_addPlaces_32 ⟨by decide, by decide⟩ ?_
      refine ev_zret 33 dX10_addPlaces_33 (by first | omega | exact b2_or _) ?_ rfl
      first | exact QM_of (Or.inr ⟨by omega, rfl, rfl⟩) | exact QM_of (Or.inl ⟨by omega, rfl, by simp only [vw_up, vw_up0], (Fr.rf.up (by omega) (by omega))⟩)
theorem c_addLevel {l : Launch} {g : Gt} {d : Nat} {Z : Zt} {I : It} {P : Pt'} (hZ : LayC Z) (hP : LayP P) {T : Nat} (hT : IsT T) (hC : Cn (vw T I)) (a b c : Int) : Mt l g mX10_addLevel (d + 1) 0 0 [vA T, vI a, vI b, vI c] Z I P (QM (putG T I (I T 1 < 8 ∧ (0 ≤ a ∧ a ≤ 6) ∧ (0 ≤ b ∧ b ≤ 9) ∧ (1 ≤ c ∧ c ≤ 9)) (upD (upD (upD (upD (vw T I) 1 (I T 1) a) 2 (I T 1) b) 3 (I T 1) c) 0 1 (I T 1 + 1))) Z P) := by
  have hb := hC.v
  refine Mt.of kmX10_addLevel (ls := [vA T, vI a, vI b, vI c]) (fun _ => rfl) (fun _ => rfl) (okf_k (okf_k (okf_k (okf_k (okf_n rfl))))) (fun hok => ?_)
  refine ev_aload_0 0 dX10_addLevel_0 ?_
  refine ev_gI 1 1 1 dX10_addLevel_1 fa_X10_15 (kdT_0 hZ hT) rfl rfl rfl ?_
  refine ev_bipush 4 dX10_addLevel_4 ⟨by decide, by decide⟩ ?_
  refine ev_icmp_lt 6 11 dX10_addLevel_6 rfl (fun h6 => ?_) (fun h6 => ?_)
  · refine ev_iload_1 11 dX10_addLevel_11 ?_
    refine ev_iconst 12 dX10_addLevel_12 ⟨by decide, by decide⟩ ?_
    refine ev_bipush 13 dX10_addLevel_13 ⟨by decide, by decide⟩ ?_
    refine ev_cSp_3 15 dX10_addLevel_15 kmX11_within lk_X10_89 (c_within _ _ _) rfl rfl ?_
    refine ev_ifb_eq 18 41 dX10_addLevel_18 rfl (fun h18 => ?_) (fun h18 => ?_)
    · refine ev_iconst 41 dX10_addLevel_41 ⟨by decide, by decide⟩ ?_
      refine ev_zret 42 dX10_addLevel_42 (by first | omega | exact b2_or _) ?_ rfl
      first | exact QM_of (Or.inr ⟨by omega, rfl, rfl⟩) | exact QM_of (Or.inl ⟨by omega, rfl, by simp only [vw_up, vw_up0], ((((Fr.rf.up (by omega) (by omega)).up (by omega) (by omega)).up (by omega) (by omega)).up (by omega) (by omega))⟩)
    · refine ev_iload_2 21 dX10_addLevel_21 ?_
      refine ev_iconst 22 dX10_addLevel_22 ⟨by decide, by decide⟩ ?_
      refine ev_bipush 23 dX10_addLevel_23 ⟨by decide, by decide⟩ ?_
      refine ev_cSp_3 25 dX10_addLevel_25 kmX11_within lk_X10_89 (c_within _ _ _) rfl rfl ?_
      refine ev_ifb_eq 28 41 dX10_addLevel_28 rfl (fun h28 => ?_) (fun h28 => ?_)
      · refine ev_iconst 41 dX10_addLevel_41 ⟨by decide, by decide⟩ ?_
        refine ev_zret 42 dX10_addLevel_42 (by first | omega | exact b2_or _) ?_ rfl
        first | exact QM_of (Or.inr ⟨by omega, rfl, rfl⟩) | exact QM_of (Or.inl ⟨by omega, rfl, by simp only [vw_up, vw_up0], ((((Fr.rf.up (by omega) (by omega)).up (by omega) (by omega)).up (by omega) (by omega)).up (by omega) (by omega))⟩)
      · refine ev_iload_3 31 dX10_addLevel_31 ?_
        refine ev_iconst 32 dX10_addLevel_32 ⟨by decide, by decide⟩ ?_
        refine ev_bipush 33 dX10_addLevel_33 ⟨by decide, by decide⟩ ?_
        refine ev_cSp_3 35 dX10_addLevel_35 kmX11_within lk_X10_89 (c_within _ _ _) rfl rfl ?_
        refine ev_ifb_ne 38 43 dX10_addLevel_38 rfl (fun h38 => ?_) (fun h38 => ?_)
        · refine ev_aload_0 43 dX10_addLevel_43 ?_
          refine ev_getA 44 2 dX10_addLevel_44 fa_X10_18 (kdT_0 hZ hT) (prT_2 hP hT) rfl ?_
          refine ev_aload_0 47 dX10_addLevel_47 ?_
          refine ev_gI 48 1 1 dX10_addLevel_48 fa_X10_15 (kdT_0 hZ hT) rfl rfl rfl ?_
          refine ev_iload_1 51 dX10_addLevel_51 ?_
          refine ev_iast 52 dX10_addLevel_52 (kdT_1 hZ hT) ⟨by omega, by have := (lnT_1 hZ hT); omega⟩ ?_
          refine ev_aload_0 53 dX10_addLevel_53 ?_
          refine ev_getA 54 3 dX10_addLevel_54 fa_X10_22 (kdT_0 hZ hT) (prT_3 hP hT) rfl ?_
          refine ev_aload_0 57 dX10_addLevel_57 ?_
          refine ev_gI 58 1 1 dX10_addLevel_58 fa_X10_15 (kdT_0 hZ hT) rfl rfl rfl ?_
          try simp (disch := omega) only [upI_s, upI_a, upI_k]
          refine ev_iload_2 61 dX10_addLevel_61 ?_
          refine ev_iast 62 dX10_addLevel_62 (kdT_2 hZ hT) ⟨by omega, by have := (lnT_2 hZ hT); omega⟩ ?_
          refine ev_aload_0 63 dX10_addLevel_63 ?_
          refine ev_getA 64 4 dX10_addLevel_64 fa_X10_25 (kdT_0 hZ hT) (prT_4 hP hT) rfl ?_
          refine ev_aload_0 67 dX10_addLevel_67 ?_
          refine ev_gI 68 1 1 dX10_addLevel_68 fa_X10_15 (kdT_0 hZ hT) rfl rfl rfl ?_
          try simp (disch := omega) only [upI_s, upI_a, upI_k]
          refine ev_iload_3 71 dX10_addLevel_71 ?_
          refine ev_iast 72 dX10_addLevel_72 (kdT_3 hZ hT) ⟨by omega, by have := (lnT_3 hZ hT); omega⟩ ?_
          refine ev_aload_0 73 dX10_addLevel_73 ?_
          refine ev_dupA 74 dX10_addLevel_74 ?_
          refine ev_gI 75 1 1 dX10_addLevel_75 fa_X10_15 (kdT_0 hZ hT) rfl rfl rfl ?_
          try simp (disch := omega) only [upI_s, upI_a, upI_k]
          refine ev_iconst 78 dX10_addLevel_78 ⟨by decide, by decide⟩ ?_
          refine ev_iadd 79 dX10_addLevel_79 ⟨by omega, by omega⟩ ?_
          refine ev_pI 80 1 1 dX10_addLevel_80 fp_X10_15 (kdT_0 hZ hT) rfl rfl ?_
          refine ev_iconst 83 dX10_addLevel_83 ⟨by decide, by decide⟩ ?_
          refine ev_zret 84 dX10_addLevel_84 (by first | omega | exact b2_or _) ?_ rfl
          first | exact QM_of (Or.inr ⟨by omega, rfl, rfl⟩) | exact QM_of (Or.inl ⟨by omega, rfl, by simp only [vw_up, vw_up0], ((((Fr.rf.up (by omega) (by omega)).up (by omega) (by omega)).up (by omega) (by omega)).up (by omega) (by omega))⟩)
        · refine ev_iconst 41 dX10_addLevel_41 ⟨by decide, by decide⟩ ?_
          refine ev_zret 42 dX10_addLevel_42 (by first | omega | exact b2_or _) ?_ rfl
          first | exact QM_of (Or.inr ⟨by omega, rfl, rfl⟩) | exact QM_of (Or.inl ⟨by omega, rfl, by simp only [vw_up, vw_up0], ((((Fr.rf.up (by omega) (by omega)).up (by omega) (by omega)).up (by omega) (by omega)).up (by omega) (by omega))⟩)
  · refine ev_iconst 9 dX10_addLevel_9 ⟨by decide, by decide⟩ ?_
    refine ev_zret 10 dX10_addLevel_10 (by first | omega | exact b2_or _) ?_ rfl
    first | exact QM_of (Or.inr ⟨by omega, rfl, rfl⟩) | exact QM_of (Or.inl ⟨by omega, rfl, by simp only [vw_up, vw_up0], ((((Fr.rf.up (by omega) (by omega)).up (by omega) (by omega)).up (by omega) (by omega)).up (by omega) (by omega))⟩)
theorem c_addTown {l : Launch} {g : Gt} {d : Nat} {Z : Zt} {I : It} {P : Pt'} (hZ : LayC Z) (hP : LayP P) {T : Nat} (hT : IsT T) (hC : Cn (vw T I)) (a b c e : Int) : Mt l g mX10_addTown (d + 2) 0 0 [vA T, vI a, vI b, vI c, vI e] Z I P (QM (putG T I (I T 5 < 6 ∧ (0 ≤ b ∧ b ≤ 7) ∧ (0 ≤ a ∧ a < I T 0) ∧ (0 ≤ c ∧ c ≤ 20) ∧ (0 ≤ e ∧ e ≤ 20)) (upD (upD (upD (upD (upD (vw T I) 4 (I T 5) b) 5 (I T 5) a) 6 (I T 5) c) 7 (I T 5) e) 0 5 (I T 5 + 1))) Z P) := by
  have hb := hC.v
  refine Mt.of kmX10_addTown (ls := [vA T, vI a, vI b, vI c, vI e]) (fun _ => rfl) (fun _ => rfl) (okf_k (okf_k (okf_k (okf_k (okf_k (okf_n rfl)))))) (fun hok => ?_)
  refine ev_aload_0 0 dX10_addTown_0 ?_
  refine ev_gI 1 5 5 dX10_addTown_1 fa_X10_28 (kdT_0 hZ hT) rfl rfl rfl ?_
  refine ev_bipush 4 dX10_addTown_4 ⟨by decide, by decide⟩ ?_
  refine ev_icmp_ge 6 18 dX10_addTown_6 rfl (fun h6 => ?_) (fun h6 => ?_)
  · refine ev_iconst 18 dX10_addTown_18 ⟨by decide, by decide⟩ ?_
    refine ev_zret 19 dX10_addTown_19 (by first | omega | exact b2_or _) ?_ rfl
    first | exact QM_of (Or.inr ⟨by omega, rfl, rfl⟩) | exact QM_of (Or.inl ⟨by omega, rfl, by simp only [vw_up, vw_up0], (((((Fr.rf.up (by omega) (by omega)).up (by omega) (by omega)).up (by omega) (by omega)).up (by omega) (by omega)).up (by omega) (by omega))⟩)
  · refine ev_aload_0 9 dX10_addTown_9 ?_
    refine ev_iload_2 10 dX10_addTown_10 ?_
    refine ev_iload_1 11 dX10_addTown_11 ?_
    refine ev_cVp_2 12 dX10_addTown_12 kmX10_canBeSpot lk_X10_92 (kdT_0 hZ hT) (c_canBeSpot hZ hT (by omega) _ _) rfl rfl ?_
    refine ev_ifb_ne 15 20 dX10_addTown_15 rfl (fun h15 => ?_) (fun h15 => ?_)
    · refine ev_iload_3 20 dX10_addTown_20 ?_
      refine ev_iconst 21 dX10_addTown_21 ⟨by decide, by decide⟩ ?_
      refine ev_bipush 22 dX10_addTown_22 ⟨by decide, by decide⟩ ?_
      refine ev_cSp_3 24 dX10_addTown_24 kmX11_within lk_X10_89 (c_within _ _ _) rfl rfl ?_
      refine ev_ifb_eq 27 41 dX10_addTown_27 rfl (fun h27 => ?_) (fun h27 => ?_)
      · refine ev_iconst 41 dX10_addTown_41 ⟨by decide, by decide⟩ ?_
        refine ev_zret 42 dX10_addTown_42 (by first | omega | exact b2_or _) ?_ rfl
        first | exact QM_of (Or.inr ⟨by omega, rfl, rfl⟩) | exact QM_of (Or.inl ⟨by omega, rfl, by simp only [vw_up, vw_up0], (((((Fr.rf.up (by omega) (by omega)).up (by omega) (by omega)).up (by omega) (by omega)).up (by omega) (by omega)).up (by omega) (by omega))⟩)
      · refine ev_iload_4 30 dX10_addTown_30 ?_
        refine ev_iconst 32 dX10_addTown_32 ⟨by decide, by decide⟩ ?_
        refine ev_bipush 33 dX10_addTown_33 ⟨by decide, by decide⟩ ?_
        refine ev_cSp_3 35 dX10_addTown_35 kmX11_within lk_X10_89 (c_within _ _ _) rfl rfl ?_
        refine ev_ifb_ne 38 43 dX10_addTown_38 rfl (fun h38 => ?_) (fun h38 => ?_)
        · refine ev_aload_0 43 dX10_addTown_43 ?_
          refine ev_getA 44 6 dX10_addTown_44 fa_X10_31 (kdT_0 hZ hT) (prT_6 hP hT) rfl ?_
          refine ev_aload_0 47 dX10_addTown_47 ?_
          refine ev_gI 48 5 5 dX10_addTown_48 fa_X10_28 (kdT_0 hZ hT) rfl rfl rfl ?_
          refine ev_iload_2 51 dX10_addTown_51 ?_
          refine ev_iast 52 dX10_addTown_52 (kdT_4 hZ hT) ⟨by omega, by have := (lnT_4 hZ hT); omega⟩ ?_
          refine ev_aload_0 53 dX10_addTown_53 ?_
          refine ev_getA 54 7 dX10_addTown_54 fa_X10_34 (kdT_0 hZ hT) (prT_7 hP hT) rfl ?_
          refine ev_aload_0 57 dX10_addTown_57 ?_
          refine ev_gI 58 5 5 dX10_addTown_58 fa_X10_28 (kdT_0 hZ hT) rfl rfl rfl ?_
          try simp (disch := omega) only [upI_s, upI_a, upI_k]
          refine ev_iload_1 61 dX10_addTown_61 ?_
          refine ev_iast 62 dX10_addTown_62 (kdT_5 hZ hT) ⟨by omega, by have := (lnT_5 hZ hT); omega⟩ ?_
          refine ev_aload_0 63 dX10_addTown_63 ?_
          refine ev_getA 64 8 dX10_addTown_64 fa_X10_37 (kdT_0 hZ hT) (prT_8 hP hT) rfl ?_
          refine ev_aload_0 67 dX10_addTown_67 ?_
          refine ev_gI 68 5 5 dX10_addTown_68 fa_X10_28 (kdT_0 hZ hT) rfl rfl rfl ?_
          try simp (disch := omega) only [upI_s, upI_a, upI_k]
          refine ev_iload_3 71 dX10_addTown_71 ?_
          refine ev_iast 72 dX10_addTown_72 (kdT_6 hZ hT) ⟨by omega, by have := (lnT_6 hZ hT); omega⟩ ?_
          refine ev_aload_0 73 dX10_addTown_73 ?_
          refine ev_getA 74 9 dX10_addTown_74 fa_X10_40 (kdT_0 hZ hT) (prT_9 hP hT) rfl ?_
          refine ev_aload_0 77 dX10_addTown_77 ?_
          refine ev_gI 78 5 5 dX10_addTown_78 fa_X10_28 (kdT_0 hZ hT) rfl rfl rfl ?_
          try simp (disch := omega) only [upI_s, upI_a, upI_k]
          refine ev_iload_4 81 dX10_addTown_81 ?_
          refine ev_iast 83 dX10_addTown_83 (kdT_7 hZ hT) ⟨by omega, by have := (lnT_7 hZ hT); omega⟩ ?_
          refine ev_aload_0 84 dX10_addTown_84 ?_
          refine ev_dupA 85 dX10_addTown_85 ?_
          refine ev_gI 86 5 5 dX10_addTown_86 fa_X10_28 (kdT_0 hZ hT) rfl rfl rfl ?_
          try simp (disch := omega) only [upI_s, upI_a, upI_k]
          refine ev_iconst 89 dX10_addTown_89 ⟨by decide, by decide⟩ ?_
          refine ev_iadd 90 dX10_addTown_90 ⟨by omega, by omega⟩ ?_
          refine ev_pI 91 5 5 dX10_addTown_91 fp_X10_28 (kdT_0 hZ hT) rfl rfl ?_
          refine ev_iconst 94 dX10_addTown_94 ⟨by decide, by decide⟩ ?_
          refine ev_zret 95 dX10_addTown_95 (by first | omega | exact b2_or _) ?_ rfl
          first | exact QM_of (Or.inr ⟨by omega, rfl, rfl⟩) | exact QM_of (Or.inl ⟨by omega, rfl, by simp only [vw_up, vw_up0], (((((Fr.rf.up (by omega) (by omega)).up (by omega) (by omega)).up (by omega) (by omega)).up (by omega) (by omega)).up (by omega) (by omega))⟩)
        · refine ev_iconst 41 dX10_addTown_41 ⟨by decide, by decide⟩ ?_
          refine ev_zret 42 dX10_addTown_42 (by first | omega | exact b2_or _) ?_ rfl
          first | exact QM_of (Or.inr ⟨by omega, rfl, rfl⟩) | exact QM_of (Or.inl ⟨by omega, rfl, by simp only [vw_up, vw_up0], (((((Fr.rf.up (by omega) (by omega)).up (by omega) (by omega)).up (by omega) (by omega)).up (by omega) (by omega)).up (by omega) (by omega))⟩)
    · refine ev_iconst 18 dX10_addTown_18 ⟨by decide, by decide⟩ ?_
      refine ev_zret 19 dX10_addTown_19 (by first | omega | exact b2_or _) ?_ rfl
      first | exact QM_of (Or.inr ⟨by omega, rfl, rfl⟩) | exact QM_of (Or.inl ⟨by omega, rfl, by simp only [vw_up, vw_up0], (((((Fr.rf.up (by omega) (by omega)).up (by omega) (by omega)).up (by omega) (by omega)).up (by omega) (by omega)).up (by omega) (by omega))⟩)
theorem c_addMarket {l : Launch} {g : Gt} {d : Nat} {Z : Zt} {I : It} {P : Pt'} (hZ : LayC Z) (hP : LayP P) {T : Nat} (hT : IsT T) (hC : Cn (vw T I)) (a b : Int) : Mt l g mX10_addMarket (d + 2) 0 0 [vA T, vI a, vI b] Z I P (QM (putG T I (I T 10 < 8 ∧ (0 ≤ a ∧ a ≤ 7) ∧ (0 ≤ b ∧ b < I T 0)) (upD (upD (upD (vw T I) 8 (I T 10) a) 9 (I T 10) b) 0 10 (I T 10 + 1))) Z P) := by
  have hb := hC.v
  refine Mt.of kmX10_addMarket (ls := [vA T, vI a, vI b]) (fun _ => rfl) (fun _ => rfl) (okf_k (okf_k (okf_k (okf_n rfl)))) (fun hok => ?_)
  refine ev_aload_0 0 dX10_addMarket_0 ?_
  refine ev_gI 1 10 10 dX10_addMarket_1 fa_X10_43 (kdT_0 hZ hT) rfl rfl rfl ?_
  refine ev_bipush 4 dX10_addMarket_4 ⟨by decide, by decide⟩ ?_
  refine ev_icmp_ge 6 18 dX10_addMarket_6 rfl (fun h6 => ?_) (fun h6 => ?_)
  · refine ev_iconst 18 dX10_addMarket_18 ⟨by decide, by decide⟩ ?_
    refine ev_zret 19 dX10_addMarket_19 (by first | omega | exact b2_or _) ?_ rfl
    first | exact QM_of (Or.inr ⟨by omega, rfl, rfl⟩) | exact QM_of (Or.inl ⟨by omega, rfl, by simp only [vw_up, vw_up0], (((Fr.rf.up (by omega) (by omega)).up (by omega) (by omega)).up (by omega) (by omega))⟩)
  · refine ev_aload_0 9 dX10_addMarket_9 ?_
    refine ev_iload_1 10 dX10_addMarket_10 ?_
    refine ev_iload_2 11 dX10_addMarket_11 ?_
    refine ev_cVp_2 12 dX10_addMarket_12 kmX10_canBeSpot lk_X10_92 (kdT_0 hZ hT) (c_canBeSpot hZ hT (by omega) _ _) rfl rfl ?_
    refine ev_ifb_ne 15 20 dX10_addMarket_15 rfl (fun h15 => ?_) (fun h15 => ?_)
    · refine ev_aload_0 20 dX10_addMarket_20 ?_
      refine ev_getA 21 11 dX10_addMarket_21 fa_X10_46 (kdT_0 hZ hT) (prT_11 hP hT) rfl ?_
      refine ev_aload_0 24 dX10_addMarket_24 ?_
      refine ev_gI 25 10 10 dX10_addMarket_25 fa_X10_43 (kdT_0 hZ hT) rfl rfl rfl ?_
      refine ev_iload_1 28 dX10_addMarket_28 ?_
      refine ev_iast 29 dX10_addMarket_29 (kdT_8 hZ hT) ⟨by omega, by have := (lnT_8 hZ hT); omega⟩ ?_
      refine ev_aload_0 30 dX10_addMarket_30 ?_
      refine ev_getA 31 12 dX10_addMarket_31 fa_X10_49 (kdT_0 hZ hT) (prT_12 hP hT) rfl ?_
      refine ev_aload_0 34 dX10_addMarket_34 ?_
      refine ev_gI 35 10 10 dX10_addMarket_35 fa_X10_43 (kdT_0 hZ hT) rfl rfl rfl ?_
      try simp (disch := omega) only [upI_s, upI_a, upI_k]
      refine ev_iload_2 38 dX10_addMarket_38 ?_
      refine ev_iast 39 dX10_addMarket_39 (kdT_9 hZ hT) ⟨by omega, by have := (lnT_9 hZ hT); omega⟩ ?_
      refine ev_aload_0 40 dX10_addMarket_40 ?_
      refine ev_dupA 41 dX10_addMarket_41 ?_
      refine ev_gI 42 10 10 dX10_addMarket_42 fa_X10_43 (kdT_0 hZ hT) rfl rfl rfl ?_
      try simp (disch := omega) only [upI_s, upI_a, upI_k]
      refine ev_iconst 45 dX10_addMarket_45 ⟨by decide, by decide⟩ ?_
      refine ev_iadd 46 dX10_addMarket_46 ⟨by omega, by omega⟩ ?_
      refine ev_pI 47 10 10 dX10_addMarket_47 fp_X10_43 (kdT_0 hZ hT) rfl rfl ?_
      refine ev_iconst 50 dX10_addMarket_50 ⟨by decide, by decide⟩ ?_
      refine ev_zret 51 dX10_addMarket_51 (by first | omega | exact b2_or _) ?_ rfl
      first | exact QM_of (Or.inr ⟨by omega, rfl, rfl⟩) | exact QM_of (Or.inl ⟨by omega, rfl, by simp only [vw_up, vw_up0], (((Fr.rf.up (by omega) (by omega)).up (by omega) (by omega)).up (by omega) (by omega))⟩)
    · refine ev_iconst 18 dX10_addMarket_18 ⟨by decide, by decide⟩ ?_
      refine ev_zret 19 dX10_addMarket_19 (by first | omega | exact b2_or _) ?_ rfl
      first | exact QM_of (Or.inr ⟨by omega, rfl, rfl⟩) | exact QM_of (Or.inl ⟨by omega, rfl, by simp only [vw_up, vw_up0], (((Fr.rf.up (by omega) (by omega)).up (by omega) (by omega)).up (by omega) (by omega))⟩)
theorem c_addThing {l : Launch} {g : Gt} {d : Nat} {Z : Zt} {I : It} {P : Pt'} (hZ : LayC Z) (hP : LayP P) {T : Nat} (hT : IsT T) (hC : Cn (vw T I)) (a b c : Int) : Mt l g mX10_addThing (d + 2) 0 0 [vA T, vI a, vI b, vI c] Z I P (QM (putG T I (I T 13 < 5 ∧ (0 ≤ a ∧ a ≤ 7) ∧ (0 ≤ b ∧ b < I T 0) ∧ (0 ≤ c ∧ c ≤ 9)) (upD (upD (upD (upD (vw T I) 10 (I T 13) a) 11 (I T 13) b) 12 (I T 13) c) 0 13 (I T 13 + 1))) Z P) := by
  have hb := hC.v
  refine Mt.of kmX10_addThing (ls := [vA T, vI a, vI b, vI c]) (fun _ => rfl) (fun _ => rfl) (okf_k (okf_k (okf_k (okf_k (okf_n rfl))))) (fun hok => ?_)
  refine ev_aload_0 0 dX10_addThing_0 ?_
  refine ev_gI 1 13 13 dX10_addThing_1 fa_X10_52 (kdT_0 hZ hT) rfl rfl rfl ?_
  refine ev_iconst 4 dX10_addThing_4 ⟨by decide, by decide⟩ ?_
  refine ev_icmp_ge 5 27 dX10_addThing_5 rfl (fun h5 => ?_) (fun h5 => ?_)
  · refine ev_iconst 27 dX10_addThing_27 ⟨by decide, by decide⟩ ?_
    refine ev_zret 28 dX10_addThing_28 (by first | omega | exact b2_or _) ?_ rfl
    first | exact QM_of (Or.inr ⟨by omega, rfl, rfl⟩) | exact QM_of (Or.inl ⟨by omega, rfl, by simp only [vw_up, vw_up0], ((((Fr.rf.up (by omega) (by omega)).up (by omega) (by omega)).up (by omega) (by omega)).up (by omega) (by omega))⟩)
  · refine ev_aload_0 8 dX10_addThing_8 ?_
    refine ev_iload_1 9 dX10_addThing_9 ?_
    refine ev_iload_2 10 dX10_addThing_10 ?_
    refine ev_cVp_2 11 dX10_addThing_11 kmX10_canBeSpot lk_X10_92 (kdT_0 hZ hT) (c_canBeSpot hZ hT (by omega) _ _) rfl rfl ?_
    refine ev_ifb_eq 14 27 dX10_addThing_14 rfl (fun h14 => ?_) (fun h14 => ?_)
    · refine ev_iconst 27 dX10_addThing_27 ⟨by decide, by decide⟩ ?_
      refine ev_zret 28 dX10_addThing_28 (by first | omega | exact b2_or _) ?_ rfl
      first | exact QM_of (Or.inr ⟨by omega, rfl, rfl⟩) | exact QM_of (Or.inl ⟨by omega, rfl, by simp only [vw_up, vw_up0], ((((Fr.rf.up (by omega) (by omega)).up (by omega) (by omega)).up (by omega) (by omega)).up (by omega) (by omega))⟩)
    · refine ev_iload_3 17 dX10_addThing_17 ?_
      refine ev_iconst 18 dX10_addThing_18 ⟨by decide, by decide⟩ ?_
      refine ev_bipush 19 dX10_addThing_19 ⟨by decide, by decide⟩ ?_
      refine ev_cSp_3 21 dX10_addThing_21 kmX11_within lk_X10_89 (c_within _ _ _) rfl rfl ?_
      refine ev_ifb_ne 24 29 dX10_addThing_24 rfl (fun h24 => ?_) (fun h24 => ?_)
      · refine ev_aload_0 29 dX10_addThing_29 ?_
        refine ev_getA 30 14 dX10_addThing_30 fa_X10_55 (kdT_0 hZ hT) (prT_14 hP hT) rfl ?_
        refine ev_aload_0 33 dX10_addThing_33 ?_
        refine ev_gI 34 13 13 dX10_addThing_34 fa_X10_52 (kdT_0 hZ hT) rfl rfl rfl ?_
        refine ev_iload_1 37 dX10_addThing_37 ?_
        refine ev_iast 38 dX10_addThing_38 (kdT_10 hZ hT) ⟨by omega, by have := (lnT_10 hZ hT); omega⟩ ?_
        refine ev_aload_0 39 dX10_addThing_39 ?_
        refine ev_getA 40 15 dX10_addThing_40 fa_X10_58 (kdT_0 hZ hT) (prT_15 hP hT) rfl ?_
        refine ev_aload_0 43 dX10_addThing_43 ?_
        refine ev_gI 44 13 13 dX10_addThing_44 fa_X10_52 (kdT_0 hZ hT) rfl rfl rfl ?_
        try simp (disch := omega) only [upI_s, upI_a, upI_k]
        refine ev_iload_2 47 dX10_addThing_47 ?_
        refine ev_iast 48 dX10_addThing_48 (kdT_11 hZ hT) ⟨by omega, by have := (lnT_11 hZ hT); omega⟩ ?_
        refine ev_aload_0 49 dX10_addThing_49 ?_
        refine ev_getA 50 16 dX10_addThing_50 fa_X10_61 (kdT_0 hZ hT) (prT_16 hP hT) rfl ?_
        refine ev_aload_0 53 dX10_addThing_53 ?_
        refine ev_gI 54 13 13 dX10_addThing_54 fa_X10_52 (kdT_0 hZ hT) rfl rfl rfl ?_
        try simp (disch := omega) only [upI_s, upI_a, upI_k]
        refine ev_iload_3 57 dX10_addThing_57 ?_
        refine ev_iast 58 dX10_addThing_58 (kdT_12 hZ hT) ⟨by omega, by have := (lnT_12 hZ hT); omega⟩ ?_
        refine ev_aload_0 59 dX10_addThing_59 ?_
        refine ev_dupA 60 dX10_addThing_60 ?_
        refine ev_gI 61 13 13 dX10_addThing_61 fa_X10_52 (kdT_0 hZ hT) rfl rfl rfl ?_
        try simp (disch := omega) only [upI_s, upI_a, upI_k]
        refine ev_iconst 64 dX10_addThing_64 ⟨by decide, by decide⟩ ?_
        refine ev_iadd 65 dX10_addThing_65 ⟨by omega, by omega⟩ ?_
        refine ev_pI 66 13 13 dX10_addThing_66 fp_X10_52 (kdT_0 hZ hT) rfl rfl ?_
        refine ev_iconst 69 dX10_addThing_69 ⟨by decide, by decide⟩ ?_
        refine ev_zret 70 dX10_addThing_70 (by first | omega | exact b2_or _) ?_ rfl
        first | exact QM_of (Or.inr ⟨by omega, rfl, rfl⟩) | exact QM_of (Or.inl ⟨by omega, rfl, by simp only [vw_up, vw_up0], ((((Fr.rf.up (by omega) (by omega)).up (by omega) (by omega)).up (by omega) (by omega)).up (by omega) (by omega))⟩)
      · refine ev_iconst 27 dX10_addThing_27 ⟨by decide, by decide⟩ ?_
        refine ev_zret 28 dX10_addThing_28 (by first | omega | exact b2_or _) ?_ rfl
        first | exact QM_of (Or.inr ⟨by omega, rfl, rfl⟩) | exact QM_of (Or.inl ⟨by omega, rfl, by simp only [vw_up, vw_up0], ((((Fr.rf.up (by omega) (by omega)).up (by omega) (by omega)).up (by omega) (by omega)).up (by omega) (by omega))⟩)
theorem c_addItem {l : Launch} {g : Gt} {d : Nat} {Z : Zt} {I : It} {P : Pt'} (hZ : LayC Z) (hP : LayP P) {T : Nat} (hT : IsT T) (hC : Cn (vw T I)) (L K : Int) : Mt l g mX10_addItem (d + 3) 0 0 [vA T, vI L, vA 3, vI K] Z I P (QM (fun r I' => (∃ D', addG (vw T I) L K (I 3 0) (I 3 1) (I 3 2) (I 3 3) = some D' ∧ r = 1 ∧ vw T I' = D' ∧ Fr T (T + 13) I I') ∨ (addG (vw T I) L K (I 3 0) (I 3 1) (I 3 2) (I 3 3) = none ∧ r = 0 ∧ I' = I)) Z P) := by
  have hb := hC.v
  refine Mt.of kmX10_addItem (ls := [vA T, vI L, vA 3, vI K]) (fun _ => rfl) (fun _ => rfl) (okf_k (okf_k (okf_k (okf_k (okf_n rfl))))) (fun hok => ?_)
  refine ev_aload_2 0 dX10_addItem_0 ?_
  refine ev_alen 1 dX10_addItem_1 (kd_3 hZ) rfl rfl ?_
  rw [show _ = _ from (ln_3 hZ)]
  refine ev_iconst 2 dX10_addItem_2 ⟨by decide, by decide⟩ ?_
  refine ev_icmp_ge 3 8 dX10_addItem_3 rfl (fun h3 => ?_) (fun h3 => ?_)
  · refine ev_iload_1 8 dX10_addItem_8 ?_
    refine ev_tsw 9 209 dX10_addItem_9 rfl (fun h9 => ?_) (fun c9 hc9 h1 h2 => ?_)
    · refine ev_iconst 209 dX10_addItem_209 ⟨by decide, by decide⟩ ?_
      refine ev_zret 210 dX10_addItem_210 (by first | omega | exact b2_or _) ?_ rfl
      exact QM_of (Or.inr ⟨by unfold addG; rw [if_neg (by omega), if_neg (by omega), if_neg (by omega), if_neg (by omega), if_neg (by omega)], rfl, rfl⟩)
    · rcases (show c9 = 103 ∨ c9 = 104 ∨ c9 = 105 ∨ c9 = 106 ∨ c9 = 107 ∨ c9 = 108 ∨ c9 = 109 ∨ c9 = 110 ∨ c9 = 111 ∨ c9 = 112 ∨ c9 = 113 ∨ c9 = 114 ∨ c9 = 115 ∨ c9 = 116 by omega) with rfl | rfl | rfl | rfl | rfl | rfl | rfl | rfl | rfl | rfl | rfl | rfl | rfl | rfl
      · refine ev_tswIn 9 182 dX10_addItem_9 (by decide) (by decide) rfl rfl ?_
        refine ev_iload_3 182 dX10_addItem_182 ?_
        refine ev_iconst 183 dX10_addItem_183 ⟨by decide, by decide⟩ ?_
        refine ev_jne 184 207 dX10_addItem_184 rfl (fun h184 => ?_) (fun h184 => ?_)
        · refine ev_iconst 207 dX10_addItem_207 ⟨by decide, by decide⟩ ?_
          refine ev_zret 208 dX10_addItem_208 (by first | omega | exact b2_or _) ?_ rfl
          first
            | exact QM_of (Or.inr ⟨by rw [addG_g (by assumption)]; exact if_neg (by omega), rfl, rfl⟩)
            | (rcases f197 with ⟨hq, hx, hv, hf⟩ | ⟨hq, hx, rfl⟩
               all_goals first
                 | (exfalso; omega)
                 | exact QM_of (Or.inl ⟨_, by rw [addG_g (by assumption)]; exact if_pos (by omega), rfl, hv, hf⟩)
                 | exact QM_of (Or.inr ⟨by rw [addG_g (by assumption)]; exact if_neg (by omega), rfl, rfl⟩))
        · refine ev_aload_0 187 dX10_addItem_187 ?_
          refine ev_aload_2 188 dX10_addItem_188 ?_
          refine ev_iconst 189 dX10_addItem_189 ⟨by decide, by decide⟩ ?_
          refine ev_iald 190 dX10_addItem_190 (kd_3 hZ) ⟨by omega, by have := (ln_3 hZ); omega⟩ ?_
          refine ev_aload_2 191 dX10_addItem_191 ?_
          refine ev_iconst 192 dX10_addItem_192 ⟨by decide, by decide⟩ ?_
          refine ev_iald 193 dX10_addItem_193 (kd_3 hZ) ⟨by omega, by have := (ln_3 hZ); omega⟩ ?_
          refine ev_aload_2 194 dX10_addItem_194 ?_
          refine ev_iconst 195 dX10_addItem_195 ⟨by decide, by decide⟩ ?_
          refine ev_iald 196 dX10_addItem_196 (kd_3 hZ) ⟨by omega, by have := (ln_3 hZ); omega⟩ ?_
          refine ev_cVm_3 197 dX10_addItem_197 kmX10_addThing lk_X10_86 (kdT_0 hZ hT) (c_addThing hZ hP hT hC _ _ _) rfl rfl (fun x197 I197 f197 => ?_)
          refine ev_if_eq 200 207 dX10_addItem_200 rfl (fun h200 => ?_) (fun h200 => ?_)
          · refine ev_iconst 207 dX10_addItem_207 ⟨by decide, by decide⟩ ?_
            refine ev_zret 208 dX10_addItem_208 (by first | omega | exact b2_or _) ?_ rfl
            first
              | exact QM_of (Or.inr ⟨by rw [addG_g (by assumption)]; exact if_neg (by omega), rfl, rfl⟩)
              | (rcases f197 with ⟨hq, hx, hv, hf⟩ | ⟨hq, hx, rfl⟩
                 all_goals first
                   | (exfalso; omega)
                   | exact QM_of (Or.inl ⟨_, by rw [addG_g (by assumption)]; exact if_pos (by omega), rfl, hv, hf⟩)
                   | exact QM_of (Or.inr ⟨by rw [addG_g (by assumption)]; exact if_neg (by omega), rfl, rfl⟩))
          · refine ev_iconst 203 dX10_addItem_203 ⟨by decide, by decide⟩ ?_
            refine ev_goto 204 208 dX10_addItem_204 rfl ?_
            refine ev_zret 208 dX10_addItem_208 (by first | omega | exact b2_or _) ?_ rfl
            first
              | exact QM_of (Or.inr ⟨by rw [addG_g (by assumption)]; exact if_neg (by omega), rfl, rfl⟩)
              | (rcases f197 with ⟨hq, hx, hv, hf⟩ | ⟨hq, hx, rfl⟩
                 all_goals first
                   | (exfalso; omega)
                   | exact QM_of (Or.inl ⟨_, by rw [addG_g (by assumption)]; exact if_pos (by omega), rfl, hv, hf⟩)
                   | exact QM_of (Or.inr ⟨by rw [addG_g (by assumption)]; exact if_neg (by omega), rfl, rfl⟩))
      · refine ev_tswIn 9 209 dX10_addItem_9 (by decide) (by decide) rfl rfl ?_
        refine ev_iconst 209 dX10_addItem_209 ⟨by decide, by decide⟩ ?_
        refine ev_zret 210 dX10_addItem_210 (by first | omega | exact b2_or _) ?_ rfl
        exact QM_of (Or.inr ⟨by unfold addG; rw [if_neg (by omega), if_neg (by omega), if_neg (by omega), if_neg (by omega), if_neg (by omega)], rfl, rfl⟩)
      · refine ev_tswIn 9 209 dX10_addItem_9 (by decide) (by decide) rfl rfl ?_
        refine ev_iconst 209 dX10_addItem_209 ⟨by decide, by decide⟩ ?_
        refine ev_zret 210 dX10_addItem_210 (by first | omega | exact b2_or _) ?_ rfl
        exact QM_of (Or.inr ⟨by unfold addG; rw [if_neg (by omega), if_neg (by omega), if_neg (by omega), if_neg (by omega), if_neg (by omega)], rfl, rfl⟩)
      · refine ev_tswIn 9 209 dX10_addItem_9 (by decide) (by decide) rfl rfl ?_
        refine ev_iconst 209 dX10_addItem_209 ⟨by decide, by decide⟩ ?_
        refine ev_zret 210 dX10_addItem_210 (by first | omega | exact b2_or _) ?_ rfl
        exact QM_of (Or.inr ⟨by unfold addG; rw [if_neg (by omega), if_neg (by omega), if_neg (by omega), if_neg (by omega), if_neg (by omega)], rfl, rfl⟩)
      · refine ev_tswIn 9 209 dX10_addItem_9 (by decide) (by decide) rfl rfl ?_
        refine ev_iconst 209 dX10_addItem_209 ⟨by decide, by decide⟩ ?_
        refine ev_zret 210 dX10_addItem_210 (by first | omega | exact b2_or _) ?_ rfl
        exact QM_of (Or.inr ⟨by unfold addG; rw [if_neg (by omega), if_neg (by omega), if_neg (by omega), if_neg (by omega), if_neg (by omega)], rfl, rfl⟩)
      · refine ev_tswIn 9 101 dX10_addItem_9 (by decide) (by decide) rfl rfl ?_
        refine ev_iload_3 101 dX10_addItem_101 ?_
        refine ev_iconst 102 dX10_addItem_102 ⟨by decide, by decide⟩ ?_
        refine ev_jne 103 126 dX10_addItem_103 rfl (fun h103 => ?_) (fun h103 => ?_)
        · refine ev_iconst 126 dX10_addItem_126 ⟨by decide, by decide⟩ ?_
          refine ev_zret 127 dX10_addItem_127 (by first | omega | exact b2_or _) ?_ rfl
          first
            | exact QM_of (Or.inr ⟨by rw [addG_l (by assumption)]; exact if_neg (by omega), rfl, rfl⟩)
            | (rcases f116 with ⟨hq, hx, hv, hf⟩ | ⟨hq, hx, rfl⟩
               all_goals first
                 | (exfalso; omega)
                 | exact QM_of (Or.inl ⟨_, by rw [addG_l (by assumption)]; exact if_pos (by omega), rfl, hv, hf⟩)
                 | exact QM_of (Or.inr ⟨by rw [addG_l (by assumption)]; exact if_neg (by omega), rfl, rfl⟩))
        · refine ev_aload_0 106 dX10_addItem_106 ?_
          refine ev_aload_2 107 dX10_addItem_107 ?_
          refine ev_iconst 108 dX10_addItem_108 ⟨by decide, by decide⟩ ?_
          refine ev_iald 109 dX10_addItem_109 (kd_3 hZ) ⟨by omega, by have := (ln_3 hZ); omega⟩ ?_
          refine ev_aload_2 110 dX10_addItem_110 ?_
          refine ev_iconst 111 dX10_addItem_111 ⟨by decide, by decide⟩ ?_
          refine ev_iald 112 dX10_addItem_112 (kd_3 hZ) ⟨by omega, by have := (ln_3 hZ); omega⟩ ?_
          refine ev_aload_2 113 dX10_addItem_113 ?_
          refine ev_iconst 114 dX10_addItem_114 ⟨by decide, by decide⟩ ?_
          refine ev_iald 115 dX10_addItem_115 (kd_3 hZ) ⟨by omega, by have := (ln_3 hZ); omega⟩ ?_
          refine ev_cVm_3 116 dX10_addItem_116 kmX10_addLevel lk_X10_74 (kdT_0 hZ hT) (c_addLevel hZ hP hT hC _ _ _) rfl rfl (fun x116 I116 f116 => ?_)
          refine ev_if_eq 119 126 dX10_addItem_119 rfl (fun h119 => ?_) (fun h119 => ?_)
          · refine ev_iconst 126 dX10_addItem_126 ⟨by decide, by decide⟩ ?_
            refine ev_zret 127 dX10_addItem_127 (by first | omega | exact b2_or _) ?_ rfl
            first
              | exact QM_of (Or.inr ⟨by rw [addG_l (by assumption)]; exact if_neg (by omega), rfl, rfl⟩)
              | (rcases f116 with ⟨hq, hx, hv, hf⟩ | ⟨hq, hx, rfl⟩
                 all_goals first
                   | (exfalso; omega)
                   | exact QM_of (Or.inl ⟨_, by rw [addG_l (by assumption)]; exact if_pos (by omega), rfl, hv, hf⟩)
                   | exact QM_of (Or.inr ⟨by rw [addG_l (by assumption)]; exact if_neg (by omega), rfl, rfl⟩))
          · refine ev_iconst 122 dX10_addItem_122 ⟨by decide, by decide⟩ ?_
            refine ev_goto 123 127 dX10_addItem_123 rfl ?_
            refine ev_zret 127 dX10_addItem_127 (by first | omega | exact b2_or _) ?_ rfl
            first
              | exact QM_of (Or.inr ⟨by rw [addG_l (by assumption)]; exact if_neg (by omega), rfl, rfl⟩)
              | (rcases f116 with ⟨hq, hx, hv, hf⟩ | ⟨hq, hx, rfl⟩
                 all_goals first
                   | (exfalso; omega)
                   | exact QM_of (Or.inl ⟨_, by rw [addG_l (by assumption)]; exact if_pos (by omega), rfl, hv, hf⟩)
                   | exact QM_of (Or.inr ⟨by rw [addG_l (by assumption)]; exact if_neg (by omega), rfl, rfl⟩))
      · refine ev_tswIn 9 158 dX10_addItem_9 (by decide) (by decide) rfl rfl ?_
        refine ev_iload_3 158 dX10_addItem_158 ?_
        refine ev_iconst 159 dX10_addItem_159 ⟨by decide, by decide⟩ ?_
        refine ev_jne 160 180 dX10_addItem_160 rfl (fun h160 => ?_) (fun h160 => ?_)
        · refine ev_iconst 180 dX10_addItem_180 ⟨by decide, by decide⟩ ?_
          refine ev_zret 181 dX10_addItem_181 (by first | omega | exact b2_or _) ?_ rfl
          first
            | exact QM_of (Or.inr ⟨by rw [addG_m (by assumption)]; exact if_neg (by omega), rfl, rfl⟩)
            | (rcases f170 with ⟨hq, hx, hv, hf⟩ | ⟨hq, hx, rfl⟩
               all_goals first
                 | (exfalso; omega)
                 | exact QM_of (Or.inl ⟨_, by rw [addG_m (by assumption)]; exact if_pos (by omega), rfl, hv, hf⟩)
                 | exact QM_of (Or.inr ⟨by rw [addG_m (by assumption)]; exact if_neg (by omega), rfl, rfl⟩))
        · refine ev_aload_0 163 dX10_addItem_163 ?_
          refine ev_aload_2 164 dX10_addItem_164 ?_
          refine ev_iconst 165 dX10_addItem_165 ⟨by decide, by decide⟩ ?_
          refine ev_iald 166 dX10_addItem_166 (kd_3 hZ) ⟨by omega, by have := (ln_3 hZ); omega⟩ ?_
          refine ev_aload_2 167 dX10_addItem_167 ?_
          refine ev_iconst 168 dX10_addItem_168 ⟨by decide, by decide⟩ ?_
          refine ev_iald 169 dX10_addItem_169 (kd_3 hZ) ⟨by omega, by have := (ln_3 hZ); omega⟩ ?_
          refine ev_cVm_2 170 dX10_addItem_170 kmX10_addMarket lk_X10_82 (kdT_0 hZ hT) (c_addMarket hZ hP hT hC _ _) rfl rfl (fun x170 I170 f170 => ?_)
          refine ev_if_eq 173 180 dX10_addItem_173 rfl (fun h173 => ?_) (fun h173 => ?_)
          · refine ev_iconst 180 dX10_addItem_180 ⟨by decide, by decide⟩ ?_
            refine ev_zret 181 dX10_addItem_181 (by first | omega | exact b2_or _) ?_ rfl
            first
              | exact QM_of (Or.inr ⟨by rw [addG_m (by assumption)]; exact if_neg (by omega), rfl, rfl⟩)
              | (rcases f170 with ⟨hq, hx, hv, hf⟩ | ⟨hq, hx, rfl⟩
                 all_goals first
                   | (exfalso; omega)
                   | exact QM_of (Or.inl ⟨_, by rw [addG_m (by assumption)]; exact if_pos (by omega), rfl, hv, hf⟩)
                   | exact QM_of (Or.inr ⟨by rw [addG_m (by assumption)]; exact if_neg (by omega), rfl, rfl⟩))
          · refine ev_iconst 176 dX10_addItem_176 ⟨by decide, by decide⟩ ?_
            refine ev_goto 177 181 dX10_addItem_177 rfl ?_
            refine ev_zret 181 dX10_addItem_181 (by first | omega | exact b2_or _) ?_ rfl
            first
              | exact QM_of (Or.inr ⟨by rw [addG_m (by assumption)]; exact if_neg (by omega), rfl, rfl⟩)
              | (rcases f170 with ⟨hq, hx, hv, hf⟩ | ⟨hq, hx, rfl⟩
                 all_goals first
                   | (exfalso; omega)
                   | exact QM_of (Or.inl ⟨_, by rw [addG_m (by assumption)]; exact if_pos (by omega), rfl, hv, hf⟩)
                   | exact QM_of (Or.inr ⟨by rw [addG_m (by assumption)]; exact if_neg (by omega), rfl, rfl⟩))
      · refine ev_tswIn 9 80 dX10_addItem_9 (by decide) (by decide) rfl rfl ?_
        refine ev_iload_3 80 dX10_addItem_80 ?_
        refine ev_iconst 81 dX10_addItem_81 ⟨by decide, by decide⟩ ?_
        refine ev_jne 82 99 dX10_addItem_82 rfl (fun h82 => ?_) (fun h82 => ?_)
        · refine ev_iconst 99 dX10_addItem_99 ⟨by decide, by decide⟩ ?_
          refine ev_zret 100 dX10_addItem_100 (by first | omega | exact b2_or _) ?_ rfl
          first
            | exact QM_of (Or.inr ⟨by rw [addG_n (by assumption)]; exact if_neg (by omega), rfl, rfl⟩)
            | (rcases f89 with ⟨hq, hx, hv, hf⟩ | ⟨hq, hx, rfl⟩
               all_goals first
                 | (exfalso; omega)
                 | exact QM_of (Or.inl ⟨_, by rw [addG_n (by assumption)]; exact if_pos (by omega), rfl, hv, hf⟩)
                 | exact QM_of (Or.inr ⟨by rw [addG_n (by assumption)]; exact if_neg (by omega), rfl, rfl⟩))
        · refine ev_aload_0 85 dX10_addItem_85 ?_
          refine ev_aload_2 86 dX10_addItem_86 ?_
          refine ev_iconst 87 dX10_addItem_87 ⟨by decide, by decide⟩ ?_
          refine ev_iald 88 dX10_addItem_88 (kd_3 hZ) ⟨by omega, by have := (ln_3 hZ); omega⟩ ?_
          refine ev_cVm_1 89 dX10_addItem_89 kmX10_addPlaces lk_X10_70 (kdT_0 hZ hT) (c_addPlaces hZ hP hT hC _) rfl rfl (fun x89 I89 f89 => ?_)
          refine ev_if_eq 92 99 dX10_addItem_92 rfl (fun h92 => ?_) (fun h92 => ?_)
          · refine ev_iconst 99 dX10_addItem_99 ⟨by decide, by decide⟩ ?_
            refine ev_zret 100 dX10_addItem_100 (by first | omega | exact b2_or _) ?_ rfl
            first
              | exact QM_of (Or.inr ⟨by rw [addG_n (by assumption)]; exact if_neg (by omega), rfl, rfl⟩)
              | (rcases f89 with ⟨hq, hx, hv, hf⟩ | ⟨hq, hx, rfl⟩
                 all_goals first
                   | (exfalso; omega)
                   | exact QM_of (Or.inl ⟨_, by rw [addG_n (by assumption)]; exact if_pos (by omega), rfl, hv, hf⟩)
                   | exact QM_of (Or.inr ⟨by rw [addG_n (by assumption)]; exact if_neg (by omega), rfl, rfl⟩))
          · refine ev_iconst 95 dX10_addItem_95 ⟨by decide, by decide⟩ ?_
            refine ev_goto 96 100 dX10_addItem_96 rfl ?_
            refine ev_zret 100 dX10_addItem_100 (by first | omega | exact b2_or _) ?_ rfl
            first
              | exact QM_of (Or.inr ⟨by rw [addG_n (by assumption)]; exact if_neg (by omega), rfl, rfl⟩)
              | (rcases f89 with ⟨hq, hx, hv, hf⟩ | ⟨hq, hx, rfl⟩
                 all_goals first
                   | (exfalso; omega)
                   | exact QM_of (Or.inl ⟨_, by rw [addG_n (by assumption)]; exact if_pos (by omega), rfl, hv, hf⟩)
                   | exact QM_of (Or.inr ⟨by rw [addG_n (by assumption)]; exact if_neg (by omega), rfl, rfl⟩))
      · refine ev_tswIn 9 209 dX10_addItem_9 (by decide) (by decide) rfl rfl ?_
        refine ev_iconst 209 dX10_addItem_209 ⟨by decide, by decide⟩ ?_
        refine ev_zret 210 dX10_addItem_210 (by first | omega | exact b2_or _) ?_ rfl
        exact QM_of (Or.inr ⟨by unfold addG; rw [if_neg (by omega), if_neg (by omega), if_neg (by omega), if_neg (by omega), if_neg (by omega)], rfl, rfl⟩)
      · refine ev_tswIn 9 209 dX10_addItem_9 (by decide) (by decide) rfl rfl ?_
        refine ev_iconst 209 dX10_addItem_209 ⟨by decide, by decide⟩ ?_
        refine ev_zret 210 dX10_addItem_210 (by first | omega | exact b2_or _) ?_ rfl
        exact QM_of (Or.inr ⟨by unfold addG; rw [if_neg (by omega), if_neg (by omega), if_neg (by omega), if_neg (by omega), if_neg (by omega)], rfl, rfl⟩)
      · refine ev_tswIn 9 209 dX10_addItem_9 (by decide) (by decide) rfl rfl ?_
        refine ev_iconst 209 dX10_addItem_209 ⟨by decide, by decide⟩ ?_
        refine ev_zret 210 dX10_addItem_210 (by first | omega | exact b2_or _) ?_ rfl
        exact QM_of (Or.inr ⟨by unfold addG; rw [if_neg (by omega), if_neg (by omega), if_neg (by omega), if_neg (by omega), if_neg (by omega)], rfl, rfl⟩)
      · refine ev_tswIn 9 209 dX10_addItem_9 (by decide) (by decide) rfl rfl ?_
        refine ev_iconst 209 dX10_addItem_209 ⟨by decide, by decide⟩ ?_
        refine ev_zret 210 dX10_addItem_210 (by first | omega | exact b2_or _) ?_ rfl
        exact QM_of (Or.inr ⟨by unfold addG; rw [if_neg (by omega), if_neg (by omega), if_neg (by omega), if_neg (by omega), if_neg (by omega)], rfl, rfl⟩)
      · refine ev_tswIn 9 209 dX10_addItem_9 (by decide) (by decide) rfl rfl ?_
        refine ev_iconst 209 dX10_addItem_209 ⟨by decide, by decide⟩ ?_
        refine ev_zret 210 dX10_addItem_210 (by first | omega | exact b2_or _) ?_ rfl
        exact QM_of (Or.inr ⟨by unfold addG; rw [if_neg (by omega), if_neg (by omega), if_neg (by omega), if_neg (by omega), if_neg (by omega)], rfl, rfl⟩)
      · refine ev_tswIn 9 128 dX10_addItem_9 (by decide) (by decide) rfl rfl ?_
        refine ev_iload_3 128 dX10_addItem_128 ?_
        refine ev_iconst 129 dX10_addItem_129 ⟨by decide, by decide⟩ ?_
        refine ev_jne 130 156 dX10_addItem_130 rfl (fun h130 => ?_) (fun h130 => ?_)
        · refine ev_iconst 156 dX10_addItem_156 ⟨by decide, by decide⟩ ?_
          refine ev_zret 157 dX10_addItem_157 (by first | omega | exact b2_or _) ?_ rfl
          first
            | exact QM_of (Or.inr ⟨by rw [addG_t (by assumption)]; exact if_neg (by omega), rfl, rfl⟩)
            | (rcases f146 with ⟨hq, hx, hv, hf⟩ | ⟨hq, hx, rfl⟩
               all_goals first
                 | (exfalso; omega)
                 | exact QM_of (Or.inl ⟨_, by rw [addG_t (by assumption)]; exact if_pos (by omega), rfl, hv, hf⟩)
                 | exact QM_of (Or.inr ⟨by rw [addG_t (by assumption)]; exact if_neg (by omega), rfl, rfl⟩))
        · refine ev_aload_0 133 dX10_addItem_133 ?_
          refine ev_aload_2 134 dX10_addItem_134 ?_
          refine ev_iconst 135 dX10_addItem_135 ⟨by decide, by decide⟩ ?_
          refine ev_iald 136 dX10_addItem_136 (kd_3 hZ) ⟨by omega, by have := (ln_3 hZ); omega⟩ ?_
          refine ev_aload_2 137 dX10_addItem_137 ?_
          refine ev_iconst 138 dX10_addItem_138 ⟨by decide, by decide⟩ ?_
          refine ev_iald 139 dX10_addItem_139 (kd_3 hZ) ⟨by omega, by have := (ln_3 hZ); omega⟩ ?_
          refine ev_aload_2 140 dX10_addItem_140 ?_
          refine ev_iconst 141 dX10_addItem_141 ⟨by decide, by decide⟩ ?_
          refine ev_iald 142 dX10_addItem_142 (kd_3 hZ) ⟨by omega, by have := (ln_3 hZ); omega⟩ ?_
          refine ev_aload_2 143 dX10_addItem_143 ?_
          refine ev_iconst 144 dX10_addItem_144 ⟨by decide, by decide⟩ ?_
          refine ev_iald 145 dX10_addItem_145 (kd_3 hZ) ⟨by omega, by have := (ln_3 hZ); omega⟩ ?_
          refine ev_cVm_4 146 dX10_addItem_146 kmX10_addTown lk_X10_78 (kdT_0 hZ hT) (c_addTown hZ hP hT hC _ _ _ _) rfl rfl (fun x146 I146 f146 => ?_)
          refine ev_if_eq 149 156 dX10_addItem_149 rfl (fun h149 => ?_) (fun h149 => ?_)
          · refine ev_iconst 156 dX10_addItem_156 ⟨by decide, by decide⟩ ?_
            refine ev_zret 157 dX10_addItem_157 (by first | omega | exact b2_or _) ?_ rfl
            first
              | exact QM_of (Or.inr ⟨by rw [addG_t (by assumption)]; exact if_neg (by omega), rfl, rfl⟩)
              | (rcases f146 with ⟨hq, hx, hv, hf⟩ | ⟨hq, hx, rfl⟩
                 all_goals first
                   | (exfalso; omega)
                   | exact QM_of (Or.inl ⟨_, by rw [addG_t (by assumption)]; exact if_pos (by omega), rfl, hv, hf⟩)
                   | exact QM_of (Or.inr ⟨by rw [addG_t (by assumption)]; exact if_neg (by omega), rfl, rfl⟩))
          · refine ev_iconst 152 dX10_addItem_152 ⟨by decide, by decide⟩ ?_
            refine ev_goto 153 157 dX10_addItem_153 rfl ?_
            refine ev_zret 157 dX10_addItem_157 (by first | omega | exact b2_or _) ?_ rfl
            first
              | exact QM_of (Or.inr ⟨by rw [addG_t (by assumption)]; exact if_neg (by omega), rfl, rfl⟩)
              | (rcases f146 with ⟨hq, hx, hv, hf⟩ | ⟨hq, hx, rfl⟩
                 all_goals first
                   | (exfalso; omega)
                   | exact QM_of (Or.inl ⟨_, by rw [addG_t (by assumption)]; exact if_pos (by omega), rfl, hv, hf⟩)
                   | exact QM_of (Or.inr ⟨by rw [addG_t (by assumption)]; exact if_neg (by omega), rfl, rfl⟩))
  · refine ev_iconst 6 dX10_addItem_6 ⟨by decide, by decide⟩ ?_
    refine ev_zret 7 dX10_addItem_7 (by first | omega | exact b2_or _) ?_ rfl
    exfalso; omega
theorem c_allLevels {l : Launch} {g : Gt} {d : Nat} {Z : Zt} {I : It} {P : Pt'} (hZ : LayC Z) (hP : LayP P) {T : Nat} (hT : IsT T) (hC : Cn (vw T I)) : Mt l g mX10_allLevelsThere d 0 0 [vA T] Z I P (QP (b2 ((∀ t, 0 ≤ t → t < I T 5 → I (T + 4) t < I T 1) ∧ (∀ t, 0 ≤ t → t < I T 10 → I (T + 8) t < I T 1) ∧ (∀ t, 0 ≤ t → t < I T 13 → I (T + 10) t < I T 1))) Z I P) := by
  have hb := hC.v
  refine Mt.of kmX10_allLevelsThere (ls := [vA T, vX]) (fun _ => rfl) (fun _ => rfl) (okf_k (okf_n rfl)) (fun hok => ?_)
  have l3 : (∀ j, 0 ≤ j → j < I T 5 → I (T + 4) j < I T 1) → (∀ j, 0 ≤ j → j < I T 10 → I (T + 8) j < I T 1) → ∀ (n : Nat) (t : Int), 0 ≤ t → t + n = I T 13 → (∀ j, 0 ≤ j → j < t → I (T + 10) j < I T 1) → Ev l g mX10_allLevelsThere d 0 0 Z I P 64 [vA T, vI t] [] (QP (b2 ((∀ t, 0 ≤ t → t < I T 5 → I (T + 4) t < I T 1) ∧ (∀ t, 0 ≤ t → t < I T 10 → I (T + 8) t < I T 1) ∧ (∀ t, 0 ≤ t → t < I T 13 → I (T + 10) t < I T 1))) Z I P) := by
    intro a1 a2 n
    induction n with
    | zero =>
      intro t h0 h1 hi
      obtain rfl : t = I T 13 := by omega
      refine ev_iload_1 64 dX10_allLevelsThere_64 ?_
      refine ev_aload_0 65 dX10_allLevelsThere_65 ?_
      refine ev_gI 66 13 13 dX10_allLevelsThere_66 fa_X10_52 (kdT_0 hZ hT) rfl rfl rfl ?_
      refine ev_icmp_ge 69 93 dX10_allLevelsThere_69 rfl (fun h69 => ?_) (fun h69 => ?_)
      · refine ev_iconst 93 dX10_allLevelsThere_93 ⟨by decide, by decide⟩ ?_
        refine ev_zret 94 dX10_allLevelsThere_94 (by first | omega | exact b2_or _) ?_ rfl
        exact QP_of (b2_t ⟨a1, a2, hi⟩).symm
      · exfalso; omega
    | succ n ih =>
      intro t h0 h1 hi
      refine ev_iload_1 64 dX10_allLevelsThere_64 ?_
      refine ev_aload_0 65 dX10_allLevelsThere_65 ?_
      refine ev_gI 66 13 13 dX10_allLevelsThere_66 fa_X10_52 (kdT_0 hZ hT) rfl rfl rfl ?_
      refine ev_icmp_ge 69 93 dX10_allLevelsThere_69 rfl (fun h69 => ?_) (fun h69 => ?_)
      · exfalso; omega
      · refine ev_aload_0 72 dX10_allLevelsThere_72 ?_
        refine ev_getA 73 14 dX10_allLevelsThere_73 fa_X10_55 (kdT_0 hZ hT) (prT_14 hP hT) rfl ?_
        refine ev_iload_1 76 dX10_allLevelsThere_76 ?_
        refine ev_iald 77 dX10_allLevelsThere_77 (kdT_10 hZ hT) ⟨by omega, by have := (lnT_10 hZ hT); omega⟩ ?_
        refine ev_aload_0 78 dX10_allLevelsThere_78 ?_
        refine ev_gI 79 1 1 dX10_allLevelsThere_79 fa_X10_15 (kdT_0 hZ hT) rfl rfl rfl ?_
        refine ev_icmp_lt 82 87 dX10_allLevelsThere_82 rfl (fun h82 => ?_) (fun h82 => ?_)
        · refine ev_iinc_1 87 dX10_allLevelsThere_87 ⟨by omega, by omega⟩ rfl rfl ?_
          refine ev_goto 90 64 dX10_allLevelsThere_90 rfl ?_
          exact ih _ (by omega) (by omega) (all_s hi (by omega))
        · refine ev_iconst 85 dX10_allLevelsThere_85 ⟨by decide, by decide⟩ ?_
          refine ev_zret 86 dX10_allLevelsThere_86 (by first | omega | exact b2_or _) ?_ rfl
          exact QP_of (b2_f (fun h => by have := h.2.2 t (by omega) (by omega); omega)).symm
  have l2 : (∀ j, 0 ≤ j → j < I T 5 → I (T + 4) j < I T 1) → ∀ (n : Nat) (t : Int), 0 ≤ t → t + n = I T 10 → (∀ j, 0 ≤ j → j < t → I (T + 8) j < I T 1) → Ev l g mX10_allLevelsThere d 0 0 Z I P 33 [vA T, vI t] [] (QP (b2 ((∀ t, 0 ≤ t → t < I T 5 → I (T + 4) t < I T 1) ∧ (∀ t, 0 ≤ t → t < I T 10 → I (T + 8) t < I T 1) ∧ (∀ t, 0 ≤ t → t < I T 13 → I (T + 10) t < I T 1))) Z I P) := by
    intro a1 n
    induction n with
    | zero =>
      intro t h0 h1 hi
      obtain rfl : t = I T 10 := by omega
      refine ev_iload_1 33 dX10_allLevelsThere_33 ?_
      refine ev_aload_0 34 dX10_allLevelsThere_34 ?_
      refine ev_gI 35 10 10 dX10_allLevelsThere_35 fa_X10_43 (kdT_0 hZ hT) rfl rfl rfl ?_
      refine ev_icmp_ge 38 62 dX10_allLevelsThere_38 rfl (fun h38 => ?_) (fun h38 => ?_)
      · refine ev_iconst 62 dX10_allLevelsThere_62 ⟨by decide, by decide⟩ ?_
        refine ev_istore_1 63 dX10_allLevelsThere_63 rfl rfl ?_
        exact l3 a1 hi (I T 13).toNat 0 (by omega) (by omega) all_0
      · exfalso; omega
    | succ n ih =>
      intro t h0 h1 hi
      refine ev_iload_1 33 dX10_allLevelsThere_33 ?_
      refine ev_aload_0 34 dX10_allLevelsThere_34 ?_
      refine ev_gI 35 10 10 dX10_allLevelsThere_35 fa_X10_43 (kdT_0 hZ hT) rfl rfl rfl ?_
      refine ev_icmp_ge 38 62 dX10_allLevelsThere_38 rfl (fun h38 => ?_) (fun h38 => ?_)
      · exfalso; omega
      · refine ev_aload_0 41 dX10_allLevelsThere_41 ?_
        refine ev_getA 42 11 dX10_allLevelsThere_42 fa_X10_46 (kdT_0 hZ hT) (prT_11 hP hT) rfl ?_
        refine ev_iload_1 45 dX10_allLevelsThere_45 ?_
        refine ev_iald 46 dX10_allLevelsThere_46 (kdT_8 hZ hT) ⟨by omega, by have := (lnT_8 hZ hT); omega⟩ ?_
        refine ev_aload_0 47 dX10_allLevelsThere_47 ?_
        refine ev_gI 48 1 1 dX10_allLevelsThere_48 fa_X10_15 (kdT_0 hZ hT) rfl rfl rfl ?_
        refine ev_icmp_lt 51 56 dX10_allLevelsThere_51 rfl (fun h51 => ?_) (fun h51 => ?_)
        · refine ev_iinc_1 56 dX10_allLevelsThere_56 ⟨by omega, by omega⟩ rfl rfl ?_
          refine ev_goto 59 33 dX10_allLevelsThere_59 rfl ?_
          exact ih _ (by omega) (by omega) (all_s hi (by omega))
        · refine ev_iconst 54 dX10_allLevelsThere_54 ⟨by decide, by decide⟩ ?_
          refine ev_zret 55 dX10_allLevelsThere_55 (by first | omega | exact b2_or _) ?_ rfl
          exact QP_of (b2_f (fun h => by have := h.2.1 t (by omega) (by omega); omega)).symm
  have l1 : ∀ (n : Nat) (t : Int), 0 ≤ t → t + n = I T 5 → (∀ j, 0 ≤ j → j < t → I (T + 4) j < I T 1) → Ev l g mX10_allLevelsThere d 0 0 Z I P 2 [vA T, vI t] [] (QP (b2 ((∀ t, 0 ≤ t → t < I T 5 → I (T + 4) t < I T 1) ∧ (∀ t, 0 ≤ t → t < I T 10 → I (T + 8) t < I T 1) ∧ (∀ t, 0 ≤ t → t < I T 13 → I (T + 10) t < I T 1))) Z I P) := by
    intro n
    induction n with
    | zero =>
      intro t h0 h1 hi
      obtain rfl : t = I T 5 := by omega
      refine ev_iload_1 2 dX10_allLevelsThere_2 ?_
      refine ev_aload_0 3 dX10_allLevelsThere_3 ?_
      refine ev_gI 4 5 5 dX10_allLevelsThere_4 fa_X10_28 (kdT_0 hZ hT) rfl rfl rfl ?_
      refine ev_icmp_ge 7 31 dX10_allLevelsThere_7 rfl (fun h7 => ?_) (fun h7 => ?_)
      · refine ev_iconst 31 dX10_allLevelsThere_31 ⟨by decide, by decide⟩ ?_
        refine ev_istore_1 32 dX10_allLevelsThere_32 rfl rfl ?_
        exact l2 hi (I T 10).toNat 0 (by omega) (by omega) all_0
      · exfalso; omega
    | succ n ih =>
      intro t h0 h1 hi
      refine ev_iload_1 2 dX10_allLevelsThere_2 ?_
      refine ev_aload_0 3 dX10_allLevelsThere_3 ?_
      refine ev_gI 4 5 5 dX10_allLevelsThere_4 fa_X10_28 (kdT_0 hZ hT) rfl rfl rfl ?_
      refine ev_icmp_ge 7 31 dX10_allLevelsThere_7 rfl (fun h7 => ?_) (fun h7 => ?_)
      · exfalso; omega
      · refine ev_aload_0 10 dX10_allLevelsThere_10 ?_
        refine ev_getA 11 6 dX10_allLevelsThere_11 fa_X10_31 (kdT_0 hZ hT) (prT_6 hP hT) rfl ?_
        refine ev_iload_1 14 dX10_allLevelsThere_14 ?_
        refine ev_iald 15 dX10_allLevelsThere_15 (kdT_4 hZ hT) ⟨by omega, by have := (lnT_4 hZ hT); omega⟩ ?_
        refine ev_aload_0 16 dX10_allLevelsThere_16 ?_
        refine ev_gI 17 1 1 dX10_allLevelsThere_17 fa_X10_15 (kdT_0 hZ hT) rfl rfl rfl ?_
        refine ev_icmp_lt 20 25 dX10_allLevelsThere_20 rfl (fun h20 => ?_) (fun h20 => ?_)
        · refine ev_iinc_1 25 dX10_allLevelsThere_25 ⟨by omega, by omega⟩ rfl rfl ?_
          refine ev_goto 28 2 dX10_allLevelsThere_28 rfl ?_
          exact ih _ (by omega) (by omega) (all_s hi (by omega))
        · refine ev_iconst 23 dX10_allLevelsThere_23 ⟨by decide, by decide⟩ ?_
          refine ev_zret 24 dX10_allLevelsThere_24 (by first | omega | exact b2_or _) ?_ rfl
          exact QP_of (b2_f (fun h => by have := h.1 t (by omega) (by omega); omega)).symm
  refine ev_iconst 0 dX10_allLevelsThere_0 ⟨by decide, by decide⟩ ?_
  refine ev_istore_1 1 dX10_allLevelsThere_1 rfl rfl ?_
  exact l1 (I T 5).toNat 0 (by omega) (by omega) all_0
theorem c_townsApart {l : Launch} {g : Gt} {d : Nat} {Z : Zt} {I : It} {P : Pt'} (hZ : LayC Z) (hP : LayP P) {T : Nat} (hT : IsT T) (hC : Cn (vw T I)) : Mt l g mX10_townsApart d 0 0 [vA T] Z I P (QP (b2 (∀ t, 0 ≤ t → t < I T 5 → (∀ u, 0 ≤ u → u < t → ¬ (I (T + 4) t = I (T + 4) u ∧ I (T + 5) t = I (T + 5) u)) ∧ (∀ u, 0 ≤ u → u < I T 10 → ¬ (I (T + 4) t = I (T + 8) u ∧ I (T + 5) t = I (T + 9) u)))) Z I P) := by
  have hb := hC.v
  refine Mt.of kmX10_townsApart (ls := [vA T, vX, vX]) (fun _ => rfl) (fun _ => rfl) (okf_k (okf_n rfl)) (fun hok => ?_)
  have l1 : ∀ (n : Nat) (t : Int), 0 ≤ t → t + n = I T 5 → (∀ t', 0 ≤ t' → t' < t → (∀ u, 0 ≤ u → u < t' → ¬ (I (T + 4) t' = I (T + 4) u ∧ I (T + 5) t' = I (T + 5) u)) ∧ (∀ u, 0 ≤ u → u < I T 10 → ¬ (I (T + 4) t' = I (T + 8) u ∧ I (T + 5) t' = I (T + 9) u))) → Ev l g mX10_townsApart d 0 0 Z I P 2 [vA T, vI t, vX] [] (QP (b2 (∀ t, 0 ≤ t → t < I T 5 → (∀ u, 0 ≤ u → u < t → ¬ (I (T + 4) t = I (T + 4) u ∧ I (T + 5) t = I (T + 5) u)) ∧ (∀ u, 0 ≤ u → u < I T 10 → ¬ (I (T + 4) t = I (T + 8) u ∧ I (T + 5) t = I (T + 9) u)))) Z I P) := by
    intro n
    induction n with
    | zero =>
      intro t h0 h1 hi
      obtain rfl : t = I T 5 := by omega
      refine ev_iload_1 2 dX10_townsApart_2 ?_
      refine ev_aload_0 3 dX10_townsApart_3 ?_
      refine ev_gI 4 5 5 dX10_townsApart_4 fa_X10_28 (kdT_0 hZ hT) rfl rfl rfl ?_
      refine ev_icmp_ge 7 109 dX10_townsApart_7 rfl (fun h7 => ?_) (fun h7 => ?_)
      · refine ev_iconst 109 dX10_townsApart_109 ⟨by decide, by decide⟩ ?_
        refine ev_zret 110 dX10_townsApart_110 (by first | omega | exact b2_or _) ?_ rfl
        exact QP_of (b2_t hi).symm
      · exfalso; omega
    | succ n ih =>
      intro t h0 h1 hi
      have l3 : (∀ u, 0 ≤ u → u < t → ¬ (I (T + 4) t = I (T + 4) u ∧ I (T + 5) t = I (T + 5) u)) → ∀ (k : Nat) (u : Int), 0 ≤ u → u + k = I T 10 → (∀ j, 0 ≤ j → j < u → ¬ (I (T + 4) t = I (T + 8) j ∧ I (T + 5) t = I (T + 9) j)) → Ev l g mX10_townsApart d 0 0 Z I P 57 [vA T, vI t, vI u] [] (QP (b2 (∀ t, 0 ≤ t → t < I T 5 → (∀ u, 0 ≤ u → u < t → ¬ (I (T + 4) t = I (T + 4) u ∧ I (T + 5) t = I (T + 5) u)) ∧ (∀ u, 0 ≤ u → u < I T 10 → ¬ (I (T + 4) t = I (T + 8) u ∧ I (T + 5) t = I (T + 9) u)))) Z I P) := by
        intro a1 k
        induction k with
        | zero =>
          intro u g0 g1 gi
          obtain rfl : u = I T 10 := by omega
          refine ev_iload_2 57 dX10_townsApart_57 ?_
          refine ev_aload_0 58 dX10_townsApart_58 ?_
          refine ev_gI 59 10 10 dX10_townsApart_59 fa_X10_43 (kdT_0 hZ hT) rfl rfl rfl ?_
          refine ev_icmp_ge 62 103 dX10_townsApart_62 rfl (fun h62 => ?_) (fun h62 => ?_)
          · refine ev_iinc_1 103 dX10_townsApart_103 ⟨by omega, by omega⟩ rfl rfl ?_
            refine ev_goto 106 2 dX10_townsApart_106 rfl ?_
            refine ev_forget (fg_k (fg_k (fg_x fg_n))) ?_
            exact ih _ (by omega) (by omega) (all_s hi ⟨a1, gi⟩)
          · exfalso; omega
        | succ k ihk =>
          intro u g0 g1 gi
          refine ev_iload_2 57 dX10_townsApart_57 ?_
          refine ev_aload_0 58 dX10_townsApart_58 ?_
          refine ev_gI 59 10 10 dX10_townsApart_59 fa_X10_43 (kdT_0 hZ hT) rfl rfl rfl ?_
          refine ev_icmp_ge 62 103 dX10_townsApart_62 rfl (fun h62 => ?_) (fun h62 => ?_)
          · exfalso; omega
          · refine ev_aload_0 65 dX10_townsApart_65 ?_
            refine ev_getA 66 6 dX10_townsApart_66 fa_X10_31 (kdT_0 hZ hT) (prT_6 hP hT) rfl ?_
            refine ev_iload_1 69 dX10_townsApart_69 ?_
            refine ev_iald 70 dX10_townsApart_70 (kdT_4 hZ hT) ⟨by omega, by have := (lnT_4 hZ hT); omega⟩ ?_
            refine ev_aload_0 71 dX10_townsApart_71 ?_
            refine ev_getA 72 11 dX10_townsApart_72 fa_X10_46 (kdT_0 hZ hT) (prT_11 hP hT) rfl ?_
            refine ev_iload_2 75 dX10_townsApart_75 ?_
            refine ev_iald 76 dX10_townsApart_76 (kdT_8 hZ hT) ⟨by omega, by have := (lnT_8 hZ hT); omega⟩ ?_
            refine ev_jne 77 97 dX10_townsApart_77 rfl (fun h77 => ?_) (fun h77 => ?_)
            · refine ev_iinc_2 97 dX10_townsApart_97 ⟨by omega, by omega⟩ rfl rfl ?_
              refine ev_goto 100 57 dX10_townsApart_100 rfl ?_
              exact ihk _ (by omega) (by omega) (all_s gi (by omega))
            · refine ev_aload_0 80 dX10_townsApart_80 ?_
              refine ev_getA 81 7 dX10_townsApart_81 fa_X10_34 (kdT_0 hZ hT) (prT_7 hP hT) rfl ?_
              refine ev_iload_1 84 dX10_townsApart_84 ?_
              refine ev_iald 85 dX10_townsApart_85 (kdT_5 hZ hT) ⟨by omega, by have := (lnT_5 hZ hT); omega⟩ ?_
              refine ev_aload_0 86 dX10_townsApart_86 ?_
              refine ev_getA 87 12 dX10_townsApart_87 fa_X10_49 (kdT_0 hZ hT) (prT_12 hP hT) rfl ?_
              refine ev_iload_2 90 dX10_townsApart_90 ?_
              refine ev_iald 91 dX10_townsApart_91 (kdT_9 hZ hT) ⟨by omega, by have := (lnT_9 hZ hT); omega⟩ ?_
              refine ev_jne 92 97 dX10_townsApart_92 rfl (fun h92 => ?_) (fun h92 => ?_)
              · refine ev_iinc_2 97 dX10_townsApart_97 ⟨by omega, by omega⟩ rfl rfl ?_
                refine ev_goto 100 57 dX10_townsApart_100 rfl ?_
                exact ihk _ (by omega) (by omega) (all_s gi (by omega))
              · refine ev_iconst 95 dX10_townsApart_95 ⟨by decide, by decide⟩ ?_
                refine ev_zret 96 dX10_townsApart_96 (by first | omega | exact b2_or _) ?_ rfl
                exact QP_of (b2_f (fun h => (h t (by omega) (by omega)).2 u (by omega) (by omega) (by omega))).symm
      have l2 : ∀ (k : Nat) (u : Int), 0 ≤ u → u + k = t → (∀ j, 0 ≤ j → j < u → ¬ (I (T + 4) t = I (T + 4) j ∧ I (T + 5) t = I (T + 5) j)) → Ev l g mX10_townsApart d 0 0 Z I P 12 [vA T, vI t, vI u] [] (QP (b2 (∀ t, 0 ≤ t → t < I T 5 → (∀ u, 0 ≤ u → u < t → ¬ (I (T + 4) t = I (T + 4) u ∧ I (T + 5) t = I (T + 5) u)) ∧ (∀ u, 0 ≤ u → u < I T 10 → ¬ (I (T + 4) t = I (T + 8) u ∧ I (T + 5) t = I (T + 9) u)))) Z I P) := by
        intro k
        induction k with
        | zero =>
          intro u g0 g1 gi
          obtain rfl : u = t := by omega
          refine ev_iload_2 12 dX10_townsApart_12 ?_
          refine ev_iload_1 13 dX10_townsApart_13 ?_
          refine ev_icmp_ge 14 55 dX10_townsApart_14 rfl (fun h14 => ?_) (fun h14 => ?_)
          · refine ev_iconst 55 dX10_townsApart_55 ⟨by decide, by decide⟩ ?_
            refine ev_istore_2 56 dX10_townsApart_56 rfl rfl ?_
            exact l3 gi (I T 10).toNat 0 (by omega) (by omega) all_0
          · exfalso; omega
        | succ k ihk =>
          intro u g0 g1 gi
          refine ev_iload_2 12 dX10_townsApart_12 ?_
          refine ev_iload_1 13 dX10_townsApart_13 ?_
          refine ev_icmp_ge 14 55 dX10_townsApart_14 rfl (fun h14 => ?_) (fun h14 => ?_)
          · exfalso; omega
          · refine ev_aload_0 17 dX10_townsApart_17 ?_
            refine ev_getA 18 6 dX10_townsApart_18 fa_X10_31 (kdT_0 hZ hT) (prT_6 hP hT) rfl ?_
            refine ev_iload_1 21 dX10_townsApart_21 ?_
            refine ev_iald 22 dX10_townsApart_22 (kdT_4 hZ hT) ⟨by omega, by have := (lnT_4 hZ hT); omega⟩ ?_
            refine ev_aload_0 23 dX10_townsApart_23 ?_
            refine ev_getA 24 6 dX10_townsApart_24 fa_X10_31 (kdT_0 hZ hT) (prT_6 hP hT) rfl ?_
            refine ev_iload_2 27 dX10_townsApart_27 ?_
            refine ev_iald 28 dX10_townsApart_28 (kdT_4 hZ hT) ⟨by omega, by have := (lnT_4 hZ hT); omega⟩ ?_
            refine ev_jne 29 49 dX10_townsApart_29 rfl (fun h29 => ?_) (fun h29 => ?_)
            · refine ev_iinc_2 49 dX10_townsApart_49 ⟨by omega, by omega⟩ rfl rfl ?_
              refine ev_goto 52 12 dX10_townsApart_52 rfl ?_
              exact ihk _ (by omega) (by omega) (all_s gi (by omega))
            · refine ev_aload_0 32 dX10_townsApart_32 ?_
              refine ev_getA 33 7 dX10_townsApart_33 fa_X10_34 (kdT_0 hZ hT) (prT_7 hP hT) rfl ?_
              refine ev_iload_1 36 dX10_townsApart_36 ?_
              refine ev_iald 37 dX10_townsApart_37 (kdT_5 hZ hT) ⟨by omega, by have := (lnT_5 hZ hT); omega⟩ ?_
              refine ev_aload_0 38 dX10_townsApart_38 ?_
              refine ev_getA 39 7 dX10_townsApart_39 fa_X10_34 (kdT_0 hZ hT) (prT_7 hP hT) rfl ?_
              refine ev_iload_2 42 dX10_townsApart_42 ?_
              refine ev_iald 43 dX10_townsApart_43 (kdT_5 hZ hT) ⟨by omega, by have := (lnT_5 hZ hT); omega⟩ ?_
              refine ev_jne 44 49 dX10_townsApart_44 rfl (fun h44 => ?_) (fun h44 => ?_)
              · refine ev_iinc_2 49 dX10_townsApart_49 ⟨by omega, by omega⟩ rfl rfl ?_
                refine ev_goto 52 12 dX10_townsApart_52 rfl ?_
                exact ihk _ (by omega) (by omega) (all_s gi (by omega))
              · refine ev_iconst 47 dX10_townsApart_47 ⟨by decide, by decide⟩ ?_
                refine ev_zret 48 dX10_townsApart_48 (by first | omega | exact b2_or _) ?_ rfl
                exact QP_of (b2_f (fun h => (h t (by omega) (by omega)).1 u (by omega) (by omega) (by omega))).symm
      refine ev_iload_1 2 dX10_townsApart_2 ?_
      refine ev_aload_0 3 dX10_townsApart_3 ?_
      refine ev_gI 4 5 5 dX10_townsApart_4 fa_X10_28 (kdT_0 hZ hT) rfl rfl rfl ?_
      refine ev_icmp_ge 7 109 dX10_townsApart_7 rfl (fun h7 => ?_) (fun h7 => ?_)
      · exfalso; omega
      · refine ev_iconst 10 dX10_townsApart_10 ⟨by decide, by decide⟩ ?_
        refine ev_istore_2 11 dX10_townsApart_11 rfl rfl ?_
        exact l2 t.toNat 0 (by omega) (by omega) all_0
  refine ev_iconst 0 dX10_townsApart_0 ⟨by decide, by decide⟩ ?_
  refine ev_istore_1 1 dX10_townsApart_1 rfl rfl ?_
  exact l1 (I T 5).toNat 0 (by omega) (by omega) all_0
/-- all that is told can be laid together -/
def hold (D : Nat → Int → Int) : Prop := 0 < D 0 1 ∧ ((∀ t, 0 ≤ t → t < D 0 5 → D 4 t < D 0 1) ∧ (∀ t, 0 ≤ t → t < D 0 10 → D 8 t < D 0 1) ∧ (∀ t, 0 ≤ t → t < D 0 13 → D 10 t < D 0 1)) ∧
  (∀ t, 0 ≤ t → t < D 0 5 → (∀ u, 0 ≤ u → u < t → ¬ (D 4 t = D 4 u ∧ D 5 t = D 5 u)) ∧ (∀ u, 0 ≤ u → u < D 0 10 → ¬ (D 4 t = D 8 u ∧ D 5 t = D 9 u)))
theorem c_holds {l : Launch} {g : Gt} {d : Nat} {Z : Zt} {I : It} {P : Pt'} (hZ : LayC Z) (hP : LayP P) {T : Nat} (hT : IsT T) (hC : Cn (vw T I)) : Mt l g mX10_holds (d + 1) 0 0 [vA T] Z I P (QP (b2 (hold (vw T I))) Z I P) := by
  have hb := hC.v
  refine Mt.of kmX10_holds (ls := [vA T]) (fun _ => rfl) (fun _ => rfl) (okf_k (okf_n rfl)) (fun hok => ?_)
  refine ev_aload_0 0 dX10_holds_0 ?_
  refine ev_gI 1 1 1 dX10_holds_1 fa_X10_15 (kdT_0 hZ hT) rfl rfl rfl ?_
  refine ev_if_le 4 25 dX10_holds_4 rfl (fun h4 => ?_) (fun h4 => ?_)
  · refine ev_iconst 25 dX10_holds_25 ⟨by decide, by decide⟩ ?_
    refine ev_zret 26 dX10_holds_26 (by first | omega | exact b2_or _) ?_ rfl
    first | exact QP_of (b2_t ⟨(show 0 < I T 1 by omega), by assumption, by assumption⟩).symm | exact QP_of (b2_f (fun h => by first | exact absurd h.1 (by assumption) | exact absurd h.2.1 (by assumption) | exact absurd h.2.2 (by assumption) | (have := h.1; simp only [vw_0] at this; omega))).symm
  · refine ev_aload_0 7 dX10_holds_7 ?_
    refine ev_cVp_0 8 dX10_holds_8 kmX10_allLevelsThere lk_X10_95 (kdT_0 hZ hT) (c_allLevels hZ hP hT hC) rfl rfl ?_
    refine ev_ifb_eq 11 25 dX10_holds_11 rfl (fun h11 => ?_) (fun h11 => ?_)
    · refine ev_iconst 25 dX10_holds_25 ⟨by decide, by decide⟩ ?_
      refine ev_zret 26 dX10_holds_26 (by first | omega | exact b2_or _) ?_ rfl
      first | exact QP_of (b2_t ⟨(show 0 < I T 1 by omega), by assumption, by assumption⟩).symm | exact QP_of (b2_f (fun h => by first | exact absurd h.1 (by assumption) | exact absurd h.2.1 (by assumption) | exact absurd h.2.2 (by assumption) | (have := h.1; simp only [vw_0] at this; omega))).symm
    · refine ev_aload_0 14 dX10_holds_14 ?_
      refine ev_cVp_0 15 dX10_holds_15 kmX10_townsApart lk_X10_99 (kdT_0 hZ hT) (c_townsApart hZ hP hT hC) rfl rfl ?_
      refine ev_ifb_eq 18 25 dX10_holds_18 rfl (fun h18 => ?_) (fun h18 => ?_)
      · refine ev_iconst 25 dX10_holds_25 ⟨by decide, by decide⟩ ?_
        refine ev_zret 26 dX10_holds_26 (by first | omega | exact b2_or _) ?_ rfl
        first | exact QP_of (b2_t ⟨(show 0 < I T 1 by omega), by assumption, by assumption⟩).symm | exact QP_of (b2_f (fun h => by first | exact absurd h.1 (by assumption) | exact absurd h.2.1 (by assumption) | exact absurd h.2.2 (by assumption) | (have := h.1; simp only [vw_0] at this; omega))).symm
      · refine ev_iconst 21 dX10_holds_21 ⟨by decide, by decide⟩ ?_
        refine ev_goto 22 26 dX10_holds_22 rfl ?_
        refine ev_zret 26 dX10_holds_26 (by first | omega | exact b2_or _) ?_ rfl
        first | exact QP_of (b2_t ⟨(show 0 < I T 1 by omega), by assumption, by assumption⟩).symm | exact QP_of (b2_f (fun h => by first | exact absurd h.1 (by assumption) | exact absurd h.2.1 (by assumption) | exact absurd h.2.2 (by assumption) | (have := h.1; simp only [vw_0] at this; omega))).symm
