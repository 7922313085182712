/-! facts of this claim, out of the tables: what each method, field, call is -/
theorem iu_0 : ∀ w ∈ u_ws RX0 TX0 5, w ∈ tbl := fun w h => by
  have h1 := List.all_eq_true.mp (show (u_ws RX0 TX0 5).all (fun w => decide (w ∈ lw_tbl) && goodWord w) = true by decide +kernel) w h
  simp only [Bool.and_eq_true, decide_eq_true_eq] at h1
  exact tbl_of h1.1 h1.2
theorem ck_0 : CK 0 RX0 TX0 5 tyX0 := ⟨rfl, rfl, iu_0, tyX0_ok, nmX0, by decide +kernel, by decide⟩
theorem iu_1 : ∀ w ∈ u_ws RX1 TX1 5, w ∈ tbl := fun w h => by
  have h1 := List.all_eq_true.mp (show (u_ws RX1 TX1 5).all (fun w => decide (w ∈ lw_tbl) && goodWord w) = true by decide +kernel) w h
  simp only [Bool.and_eq_true, decide_eq_true_eq] at h1
  exact tbl_of h1.1 h1.2
theorem ck_1 : CK 1 RX1 TX1 5 tyX1 := ⟨rfl, rfl, iu_1, tyX1_ok, nmX1, by decide +kernel, by decide⟩
theorem iu_2 : ∀ w ∈ u_ws RX2 TX2 7, w ∈ tbl := fun w h => by
  have h1 := List.all_eq_true.mp (show (u_ws RX2 TX2 7).all (fun w => decide (w ∈ lw_tbl) && goodWord w) = true by decide +kernel) w h
  simp only [Bool.and_eq_true, decide_eq_true_eq] at h1
  exact tbl_of h1.1 h1.2
theorem ck_2 : CK 2 RX2 TX2 7 tyX2 := ⟨rfl, rfl, iu_2, tyX2_ok, nmX2, by decide +kernel, by decide⟩
theorem iu_3 : ∀ w ∈ u_ws RX3 TX3 8, w ∈ tbl := fun w h => by
  have h1 := List.all_eq_true.mp (show (u_ws RX3 TX3 8).all (fun w => decide (w ∈ lw_tbl) && goodWord w) = true by decide +kernel) w h
  simp only [Bool.and_eq_true, decide_eq_true_eq] at h1
  exact tbl_of h1.1 h1.2
theorem ck_3 : CK 3 RX3 TX3 8 tyX3 := ⟨rfl, rfl, iu_3, tyX3_ok, nmX3, by decide +kernel, by decide⟩
theorem iu_4 : ∀ w ∈ u_ws RX4 TX4 3, w ∈ tbl := fun w h => by
  have h1 := List.all_eq_true.mp (show (u_ws RX4 TX4 3).all (fun w => decide (w ∈ lw_tbl) && goodWord w) = true by decide +kernel) w h
  simp only [Bool.and_eq_true, decide_eq_true_eq] at h1
  exact tbl_of h1.1 h1.2
theorem ck_4 : CK 4 RX4 TX4 3 tyX4 := ⟨rfl, rfl, iu_4, tyX4_ok, nmX4, by decide +kernel, by decide⟩
theorem iu_5 : ∀ w ∈ u_ws RX5 TX5 2, w ∈ tbl := fun w h => by
  have h1 := List.all_eq_true.mp (show (u_ws RX5 TX5 2).all (fun w => decide (w ∈ lw_tbl) && goodWord w) = true by decide +kernel) w h
  simp only [Bool.and_eq_true, decide_eq_true_eq] at h1
  exact tbl_of h1.1 h1.2
theorem ck_5 : CK 5 RX5 TX5 2 tyX5 := ⟨rfl, rfl, iu_5, tyX5_ok, nmX5, by decide +kernel, by decide⟩
theorem iu_6 : ∀ w ∈ u_ws RX6 TX6 2, w ∈ tbl := fun w h => by
  have h1 := List.all_eq_true.mp (show (u_ws RX6 TX6 2).all (fun w => decide (w ∈ lw_tbl) && goodWord w) = true by decide +kernel) w h
  simp only [Bool.and_eq_true, decide_eq_true_eq] at h1
  exact tbl_of h1.1 h1.2
theorem ck_6 : CK 6 RX6 TX6 2 tyX6 := ⟨rfl, rfl, iu_6, tyX6_ok, nmX6, by decide +kernel, by decide⟩
theorem iu_7 : ∀ w ∈ u_ws RX7 TX7 4, w ∈ tbl := fun w h => by
  have h1 := List.all_eq_true.mp (show (u_ws RX7 TX7 4).all (fun w => decide (w ∈ lw_tbl) && goodWord w) = true by decide +kernel) w h
  simp only [Bool.and_eq_true, decide_eq_true_eq] at h1
  exact tbl_of h1.1 h1.2
theorem ck_7 : CK 7 RX7 TX7 4 tyX7 := ⟨rfl, rfl, iu_7, tyX7_ok, nmX7, by decide +kernel, by decide⟩
theorem iu_8 : ∀ w ∈ u_ws RX8 TX8 8, w ∈ tbl := fun w h => by
  have h1 := List.all_eq_true.mp (show (u_ws RX8 TX8 8).all (fun w => decide (w ∈ lw_tbl) && goodWord w) = true by decide +kernel) w h
  simp only [Bool.and_eq_true, decide_eq_true_eq] at h1
  exact tbl_of h1.1 h1.2
theorem ck_8 : CK 8 RX8 TX8 8 tyX8 := ⟨rfl, rfl, iu_8, tyX8_ok, nmX8, by decide +kernel, by decide⟩
theorem iu_9 : ∀ w ∈ u_ws RX9 TX9 4, w ∈ tbl := fun w h => by
  have h1 := List.all_eq_true.mp (show (u_ws RX9 TX9 4).all (fun w => decide (w ∈ lw_tbl) && goodWord w) = true by decide +kernel) w h
  simp only [Bool.and_eq_true, decide_eq_true_eq] at h1
  exact tbl_of h1.1 h1.2
theorem ck_9 : CK 9 RX9 TX9 4 tyX9 := ⟨rfl, rfl, iu_9, tyX9_ok, nmX9, by decide +kernel, by decide⟩
theorem iu_10 : ∀ w ∈ u_ws RX10 TX10 17, w ∈ tbl := fun w h => by
  have h1 := List.all_eq_true.mp (show (u_ws RX10 TX10 17).all (fun w => decide (w ∈ lw_tbl) && goodWord w) = true by decide +kernel) w h
  simp only [Bool.and_eq_true, decide_eq_true_eq] at h1
  exact tbl_of h1.1 h1.2
theorem ck_10 : CK 10 RX10 TX10 17 tyX10 := ⟨rfl, rfl, iu_10, tyX10_ok, nmX10, by decide +kernel, by decide⟩
theorem iu_11 : ∀ w ∈ u_ws RX11 TX11 12, w ∈ tbl := fun w h => by
  have h1 := List.all_eq_true.mp (show (u_ws RX11 TX11 12).all (fun w => decide (w ∈ lw_tbl) && goodWord w) = true by decide +kernel) w h
  simp only [Bool.and_eq_true, decide_eq_true_eq] at h1
  exact tbl_of h1.1 h1.2
theorem ck_11 : CK 11 RX11 TX11 12 tyX11 := ⟨rfl, rfl, iu_11, tyX11_ok, nmX11, by decide +kernel, by decide⟩
theorem iu_12 : ∀ w ∈ u_ws RX12 TX12 23, w ∈ tbl := fun w h => by
  have h1 := List.all_eq_true.mp (show (u_ws RX12 TX12 23).all (fun w => decide (w ∈ lw_tbl) && goodWord w) = true by decide +kernel) w h
  simp only [Bool.and_eq_true, decide_eq_true_eq] at h1
  exact tbl_of h1.1 h1.2
theorem ck_12 : CK 12 RX12 TX12 23 tyX12 := ⟨rfl, rfl, iu_12, tyX12_ok, nmX12, by decide +kernel, by decide⟩
def mX0_init : Mm := (yX0_init, cX0_init, 2, none)
theorem kmX0_init : MK mX0_init 1 := ⟨by decide +kernel, tbl_of (List.mem_of_getElem? (i := 302) (by decide +kernel)) rfl, tbl_of (List.mem_of_getElem? (i := 77) (by decide +kernel)) rfl, by decide +kernel, by decide +kernel, by decide +kernel, rfl⟩
def mX0_put : Mm := (yX0_put, cX0_put, 4, none)
theorem kmX0_put : MK mX0_put 3 := ⟨by decide +kernel, tbl_of (List.mem_of_getElem? (i := 718) (by decide +kernel)) rfl, tbl_of (List.mem_of_getElem? (i := 77) (by decide +kernel)) rfl, by decide +kernel, by decide +kernel, by decide +kernel, rfl⟩
def mX0_take : Mm := (yX0_take, cX0_take, 2, none)
theorem kmX0_take : MK mX0_take 1 := ⟨by decide +kernel, tbl_of (List.mem_of_getElem? (i := 714) (by decide +kernel)) rfl, tbl_of (List.mem_of_getElem? (i := 77) (by decide +kernel)) rfl, by decide +kernel, by decide +kernel, by decide +kernel, rfl⟩
def mX0_give : Mm := (yX0_give, cX0_give, 2, none)
theorem kmX0_give : MK mX0_give 1 := ⟨by decide +kernel, tbl_of (List.mem_of_getElem? (i := 746) (by decide +kernel)) rfl, tbl_of (List.mem_of_getElem? (i := 77) (by decide +kernel)) rfl, by decide +kernel, by decide +kernel, by decide +kernel, rfl⟩
def mX0_isWhere : Mm := (yX0_isWhere, cX0_isWhere, 3, (some .boolean))
theorem kmX0_isWhere : MK mX0_isWhere 2 := ⟨by decide +kernel, tbl_of (List.mem_of_getElem? (i := 797) (by decide +kernel)) rfl, tbl_of (List.mem_of_getElem? (i := 77) (by decide +kernel)) rfl, by decide +kernel, by decide +kernel, by decide +kernel, rfl⟩
def mX6_isLevel : Mm := (yX6_isLevel, cX6_isLevel, 2, (some .boolean))
theorem kmX6_isLevel : MK mX6_isLevel 1 := ⟨by decide +kernel, tbl_of (List.mem_of_getElem? (i := 678) (by decide +kernel)) rfl, tbl_of (List.mem_of_getElem? (i := 72) (by decide +kernel)) rfl, by decide +kernel, by decide +kernel, by decide +kernel, rfl⟩
def mJ9_floorMod_7cf53 : Mm := (yJ9_floorMod_7cf53, cJ9_floorMod_7cf53, 3, (some .int))
theorem kmJ9_floorMod_7cf53 : MK mJ9_floorMod_7cf53 2 := ⟨by decide +kernel, tbl_of (List.mem_of_getElem? (i := 738) (by decide +kernel)) rfl, tbl_of (List.mem_of_getElem? (i := 76) (by decide +kernel)) rfl, by decide +kernel, by decide +kernel, by decide +kernel, rfl⟩
def mX10_wrap : Mm := (yX10_wrap, cX10_wrap, 2, (some .int))
theorem kmX10_wrap : MK mX10_wrap 1 := ⟨by decide +kernel, tbl_of (List.mem_of_getElem? (i := 735) (by decide +kernel)) rfl, tbl_of (List.mem_of_getElem? (i := 73) (by decide +kernel)) rfl, by decide +kernel, by decide +kernel, by decide +kernel, rfl⟩
def mX0_flow : Mm := (yX0_flow, cX0_flow, 2, none)
theorem kmX0_flow : MK mX0_flow 0 := ⟨by decide +kernel, tbl_of (List.mem_of_getElem? (i := 730) (by decide +kernel)) rfl, tbl_of (List.mem_of_getElem? (i := 77) (by decide +kernel)) rfl, by decide +kernel, by decide +kernel, by decide +kernel, rfl⟩
def mX6_townAt : Mm := (yX6_townAt, cX6_townAt, 5, (some .int))
theorem kmX6_townAt : MK mX6_townAt 3 := ⟨by decide +kernel, tbl_of (List.mem_of_getElem? (i := 742) (by decide +kernel)) rfl, tbl_of (List.mem_of_getElem? (i := 72) (by decide +kernel)) rfl, by decide +kernel, by decide +kernel, by decide +kernel, rfl⟩
def mX0_pass : Mm := (yX0_pass, cX0_pass, 2, none)
theorem kmX0_pass : MK mX0_pass 1 := ⟨by decide +kernel, tbl_of (List.mem_of_getElem? (i := 726) (by decide +kernel)) rfl, tbl_of (List.mem_of_getElem? (i := 77) (by decide +kernel)) rfl, by decide +kernel, by decide +kernel, by decide +kernel, rfl⟩
def mX0_passMany : Mm := (yX0_passMany, cX0_passMany, 3, none)
theorem kmX0_passMany : MK mX0_passMany 1 := ⟨by decide +kernel, tbl_of (List.mem_of_getElem? (i := 722) (by decide +kernel)) rfl, tbl_of (List.mem_of_getElem? (i := 77) (by decide +kernel)) rfl, by decide +kernel, by decide +kernel, by decide +kernel, rfl⟩
def mX0_passUntilCaught : Mm := (yX0_passUntilCaught, cX0_passUntilCaught, 3, (some .int))
theorem kmX0_passUntilCaught : MK mX0_passUntilCaught 1 := ⟨by decide +kernel, tbl_of (List.mem_of_getElem? (i := 930) (by decide +kernel)) rfl, tbl_of (List.mem_of_getElem? (i := 77) (by decide +kernel)) rfl, by decide +kernel, by decide +kernel, by decide +kernel, rfl⟩
def mX1_init : Mm := (yX1_init, cX1_init, 1, none)
theorem kmX1_init : MK mX1_init 0 := ⟨by decide +kernel, tbl_of (List.mem_of_getElem? (i := 434) (by decide +kernel)) rfl, tbl_of (List.mem_of_getElem? (i := 82) (by decide +kernel)) rfl, by decide +kernel, by decide +kernel, by decide +kernel, rfl⟩
def mX1_add : Mm := (yX1_add, cX1_add, 5, (some .boolean))
theorem kmX1_add : MK mX1_add 4 := ⟨by decide +kernel, tbl_of (List.mem_of_getElem? (i := 963) (by decide +kernel)) rfl, tbl_of (List.mem_of_getElem? (i := 82) (by decide +kernel)) rfl, by decide +kernel, by decide +kernel, by decide +kernel, rfl⟩
def mX1_empty : Mm := (yX1_empty, cX1_empty, 2, (some .int))
theorem kmX1_empty : MK mX1_empty 0 := ⟨by decide +kernel, tbl_of (List.mem_of_getElem? (i := 606) (by decide +kernel)) rfl, tbl_of (List.mem_of_getElem? (i := 82) (by decide +kernel)) rfl, by decide +kernel, by decide +kernel, by decide +kernel, rfl⟩
def mX1_allBy : Mm := (yX1_allBy, cX1_allBy, 5, (some .boolean))
theorem kmX1_allBy : MK mX1_allBy 3 := ⟨by decide +kernel, tbl_of (List.mem_of_getElem? (i := 975) (by decide +kernel)) rfl, tbl_of (List.mem_of_getElem? (i := 82) (by decide +kernel)) rfl, by decide +kernel, by decide +kernel, by decide +kernel, rfl⟩
def mX2_init : Mm := (yX2_init, cX2_init, 3, none)
theorem kmX2_init : MK mX2_init 2 := ⟨by decide +kernel, tbl_of (List.mem_of_getElem? (i := 368) (by decide +kernel)) rfl, tbl_of (List.mem_of_getElem? (i := 80) (by decide +kernel)) rfl, by decide +kernel, by decide +kernel, by decide +kernel, rfl⟩
def mX2_add : Mm := (yX2_add, cX2_add, 3, (some .boolean))
theorem kmX2_add : MK mX2_add 2 := ⟨by decide +kernel, tbl_of (List.mem_of_getElem? (i := 846) (by decide +kernel)) rfl, tbl_of (List.mem_of_getElem? (i := 80) (by decide +kernel)) rfl, by decide +kernel, by decide +kernel, by decide +kernel, rfl⟩
def mX2_empty : Mm := (yX2_empty, cX2_empty, 2, (some .int))
theorem kmX2_empty : MK mX2_empty 0 := ⟨by decide +kernel, tbl_of (List.mem_of_getElem? (i := 602) (by decide +kernel)) rfl, tbl_of (List.mem_of_getElem? (i := 80) (by decide +kernel)) rfl, by decide +kernel, by decide +kernel, by decide +kernel, rfl⟩
def mX11_spotOf : Mm := (yX11_spotOf, cX11_spotOf, 2, (some .int))
theorem kmX11_spotOf : MK mX11_spotOf 2 := ⟨by decide +kernel, tbl_of (List.mem_of_getElem? (i := 598) (by decide +kernel)) rfl, tbl_of (List.mem_of_getElem? (i := 70) (by decide +kernel)) rfl, by decide +kernel, by decide +kernel, by decide +kernel, rfl⟩
def mX7_isOpen : Mm := (yX7_isOpen, cX7_isOpen, 2, (some .boolean))
theorem kmX7_isOpen : MK mX7_isOpen 1 := ⟨by decide +kernel, tbl_of (List.mem_of_getElem? (i := 764) (by decide +kernel)) rfl, tbl_of (List.mem_of_getElem? (i := 78) (by decide +kernel)) rfl, by decide +kernel, by decide +kernel, by decide +kernel, rfl⟩
def mX6_townSpot : Mm := (yX6_townSpot, cX6_townSpot, 2, (some .int))
theorem kmX6_townSpot : MK mX6_townSpot 1 := ⟨by decide +kernel, tbl_of (List.mem_of_getElem? (i := 833) (by decide +kernel)) rfl, tbl_of (List.mem_of_getElem? (i := 72) (by decide +kernel)) rfl, by decide +kernel, by decide +kernel, by decide +kernel, rfl⟩
def mX5_init : Mm := (yX5_init, cX5_init, 1, none)
theorem kmX5_init : MK mX5_init 0 := ⟨by decide +kernel, tbl_of (List.mem_of_getElem? (i := 334) (by decide +kernel)) rfl, tbl_of (List.mem_of_getElem? (i := 79) (by decide +kernel)) rfl, by decide +kernel, by decide +kernel, by decide +kernel, rfl⟩
def mX5_silence : Mm := (yX5_silence, cX5_silence, 2, none)
theorem kmX5_silence : MK mX5_silence 0 := ⟨by decide +kernel, tbl_of (List.mem_of_getElem? (i := 349) (by decide +kernel)) rfl, tbl_of (List.mem_of_getElem? (i := 79) (by decide +kernel)) rfl, by decide +kernel, by decide +kernel, by decide +kernel, rfl⟩
def mX7_improve : Mm := (yX7_improve, cX7_improve, 9, (some .boolean))
theorem kmX7_improve : MK mX7_improve 3 := ⟨by decide +kernel, tbl_of (List.mem_of_getElem? (i := 820) (by decide +kernel)) rfl, tbl_of (List.mem_of_getElem? (i := 78) (by decide +kernel)) rfl, by decide +kernel, by decide +kernel, by decide +kernel, rfl⟩
def mX7_fill : Mm := (yX7_fill, cX7_fill, 10, none)
theorem kmX7_fill : MK mX7_fill 2 := ⟨by decide +kernel, tbl_of (List.mem_of_getElem? (i := 816) (by decide +kernel)) rfl, tbl_of (List.mem_of_getElem? (i := 78) (by decide +kernel)) rfl, by decide +kernel, by decide +kernel, by decide +kernel, rfl⟩
def mX7_rowFrom : Mm := (yX7_rowFrom, cX7_rowFrom, 3, (some (.object "HungFromIce$Row")))
theorem kmX7_rowFrom : MK mX7_rowFrom 1 := ⟨by decide +kernel, tbl_of (List.mem_of_getElem? (i := 811) (by decide +kernel)) rfl, tbl_of (List.mem_of_getElem? (i := 78) (by decide +kernel)) rfl, by decide +kernel, by decide +kernel, by decide +kernel, rfl⟩
def mX5_beatsTo : Mm := (yX5_beatsTo, cX5_beatsTo, 2, (some .int))
theorem kmX5_beatsTo : MK mX5_beatsTo 1 := ⟨by decide +kernel, tbl_of (List.mem_of_getElem? (i := 824) (by decide +kernel)) rfl, tbl_of (List.mem_of_getElem? (i := 79) (by decide +kernel)) rfl, by decide +kernel, by decide +kernel, by decide +kernel, rfl⟩
def mX2_canBeSource : Mm := (yX2_canBeSource, cX2_canBeSource, 5, (some .boolean))
theorem kmX2_canBeSource : MK mX2_canBeSource 1 := ⟨by decide +kernel, tbl_of (List.mem_of_getElem? (i := 864) (by decide +kernel)) rfl, tbl_of (List.mem_of_getElem? (i := 80) (by decide +kernel)) rfl, by decide +kernel, by decide +kernel, by decide +kernel, rfl⟩
def mX2_seek : Mm := (yX2_seek, cX2_seek, 4, none)
theorem kmX2_seek : MK mX2_seek 0 := ⟨by decide +kernel, tbl_of (List.mem_of_getElem? (i := 858) (by decide +kernel)) rfl, tbl_of (List.mem_of_getElem? (i := 80) (by decide +kernel)) rfl, by decide +kernel, by decide +kernel, by decide +kernel, rfl⟩
def mX3_init : Mm := (yX3_init, cX3_init, 3, none)
theorem kmX3_init : MK mX3_init 2 := ⟨by decide +kernel, tbl_of (List.mem_of_getElem? (i := 399) (by decide +kernel)) rfl, tbl_of (List.mem_of_getElem? (i := 81) (by decide +kernel)) rfl, by decide +kernel, by decide +kernel, by decide +kernel, rfl⟩
def mX3_hangAt : Mm := (yX3_hangAt, cX3_hangAt, 3, none)
theorem kmX3_hangAt : MK mX3_hangAt 2 := ⟨by decide +kernel, tbl_of (List.mem_of_getElem? (i := 881) (by decide +kernel)) rfl, tbl_of (List.mem_of_getElem? (i := 81) (by decide +kernel)) rfl, by decide +kernel, by decide +kernel, by decide +kernel, rfl⟩
def mX3_beatsFrom : Mm := (yX3_beatsFrom, cX3_beatsFrom, 4, (some .int))
theorem kmX3_beatsFrom : MK mX3_beatsFrom 2 := ⟨by decide +kernel, tbl_of (List.mem_of_getElem? (i := 890) (by decide +kernel)) rfl, tbl_of (List.mem_of_getElem? (i := 81) (by decide +kernel)) rfl, by decide +kernel, by decide +kernel, by decide +kernel, rfl⟩
def mX3_allHear : Mm := (yX3_allHear, cX3_allHear, 4, (some .boolean))
theorem kmX3_allHear : MK mX3_allHear 1 := ⟨by decide +kernel, tbl_of (List.mem_of_getElem? (i := 886) (by decide +kernel)) rfl, tbl_of (List.mem_of_getElem? (i := 81) (by decide +kernel)) rfl, by decide +kernel, by decide +kernel, by decide +kernel, rfl⟩
def mX3_isFree : Mm := (yX3_isFree, cX3_isFree, 5, (some .boolean))
theorem kmX3_isFree : MK mX3_isFree 2 := ⟨by decide +kernel, tbl_of (List.mem_of_getElem? (i := 907) (by decide +kernel)) rfl, tbl_of (List.mem_of_getElem? (i := 81) (by decide +kernel)) rfl, by decide +kernel, by decide +kernel, by decide +kernel, rfl⟩
def mX3_allHearAt : Mm := (yX3_allHearAt, cX3_allHearAt, 4, (some .boolean))
theorem kmX3_allHearAt : MK mX3_allHearAt 2 := ⟨by decide +kernel, tbl_of (List.mem_of_getElem? (i := 913) (by decide +kernel)) rfl, tbl_of (List.mem_of_getElem? (i := 81) (by decide +kernel)) rfl, by decide +kernel, by decide +kernel, by decide +kernel, rfl⟩
def mX3_placeFor : Mm := (yX3_placeFor, cX3_placeFor, 3, (some .int))
theorem kmX3_placeFor : MK mX3_placeFor 1 := ⟨by decide +kernel, tbl_of (List.mem_of_getElem? (i := 903) (by decide +kernel)) rfl, tbl_of (List.mem_of_getElem? (i := 81) (by decide +kernel)) rfl, by decide +kernel, by decide +kernel, by decide +kernel, rfl⟩
def mX3_seekAbove : Mm := (yX3_seekAbove, cX3_seekAbove, 4, (some .int))
theorem kmX3_seekAbove : MK mX3_seekAbove 1 := ⟨by decide +kernel, tbl_of (List.mem_of_getElem? (i := 899) (by decide +kernel)) rfl, tbl_of (List.mem_of_getElem? (i := 81) (by decide +kernel)) rfl, by decide +kernel, by decide +kernel, by decide +kernel, rfl⟩
def mX3_seekOne : Mm := (yX3_seekOne, cX3_seekOne, 1, (some .boolean))
theorem kmX3_seekOne : MK mX3_seekOne 0 := ⟨by decide +kernel, tbl_of (List.mem_of_getElem? (i := 895) (by decide +kernel)) rfl, tbl_of (List.mem_of_getElem? (i := 81) (by decide +kernel)) rfl, by decide +kernel, by decide +kernel, by decide +kernel, rfl⟩
def mX3_seekWith : Mm := (yX3_seekWith, cX3_seekWith, 4, (some .boolean))
theorem kmX3_seekWith : MK mX3_seekWith 1 := ⟨by decide +kernel, tbl_of (List.mem_of_getElem? (i := 921) (by decide +kernel)) rfl, tbl_of (List.mem_of_getElem? (i := 81) (by decide +kernel)) rfl, by decide +kernel, by decide +kernel, by decide +kernel, rfl⟩
def mX3_seekTwo : Mm := (yX3_seekTwo, cX3_seekTwo, 2, (some .boolean))
theorem kmX3_seekTwo : MK mX3_seekTwo 0 := ⟨by decide +kernel, tbl_of (List.mem_of_getElem? (i := 917) (by decide +kernel)) rfl, tbl_of (List.mem_of_getElem? (i := 81) (by decide +kernel)) rfl, by decide +kernel, by decide +kernel, by decide +kernel, rfl⟩
def mX3_seek : Mm := (yX3_seek, cX3_seek, 3, none)
theorem kmX3_seek : MK mX3_seek 1 := ⟨by decide +kernel, tbl_of (List.mem_of_getElem? (i := 876) (by decide +kernel)) rfl, tbl_of (List.mem_of_getElem? (i := 81) (by decide +kernel)) rfl, by decide +kernel, by decide +kernel, by decide +kernel, rfl⟩
def mX8_init : Mm := (yX8_init, cX8_init, 1, none)
theorem kmX8_init : MK mX8_init 0 := ⟨by decide +kernel, tbl_of (List.mem_of_getElem? (i := 216) (by decide +kernel)) rfl, tbl_of (List.mem_of_getElem? (i := 74) (by decide +kernel)) rfl, by decide +kernel, by decide +kernel, by decide +kernel, rfl⟩
def mX4_init : Mm := (yX4_init, cX4_init, 3, none)
theorem kmX4_init : MK mX4_init 1 := ⟨by decide +kernel, tbl_of (List.mem_of_getElem? (i := 279) (by decide +kernel)) rfl, tbl_of (List.mem_of_getElem? (i := 75) (by decide +kernel)) rfl, by decide +kernel, by decide +kernel, by decide +kernel, rfl⟩
def mX4_empty : Mm := (yX4_empty, cX4_empty, 1, none)
theorem kmX4_empty : MK mX4_empty 0 := ⟨by decide +kernel, tbl_of (List.mem_of_getElem? (i := 610) (by decide +kernel)) rfl, tbl_of (List.mem_of_getElem? (i := 75) (by decide +kernel)) rfl, by decide +kernel, by decide +kernel, by decide +kernel, rfl⟩
def mX4_slot : Mm := (yX4_slot, cX4_slot, 3, (some .int))
theorem kmX4_slot : MK mX4_slot 1 := ⟨by decide +kernel, tbl_of (List.mem_of_getElem? (i := 706) (by decide +kernel)) rfl, tbl_of (List.mem_of_getElem? (i := 75) (by decide +kernel)) rfl, by decide +kernel, by decide +kernel, by decide +kernel, rfl⟩
def mX8_copyFrom : Mm := (yX8_copyFrom, cX8_copyFrom, 3, none)
theorem kmX8_copyFrom : MK mX8_copyFrom 1 := ⟨by decide +kernel, tbl_of (List.mem_of_getElem? (i := 710) (by decide +kernel)) rfl, tbl_of (List.mem_of_getElem? (i := 74) (by decide +kernel)) rfl, by decide +kernel, by decide +kernel, by decide +kernel, rfl⟩
def mX4_push : Mm := (yX4_push, cX4_push, 2, none)
theorem kmX4_push : MK mX4_push 1 := ⟨by decide +kernel, tbl_of (List.mem_of_getElem? (i := 702) (by decide +kernel)) rfl, tbl_of (List.mem_of_getElem? (i := 75) (by decide +kernel)) rfl, by decide +kernel, by decide +kernel, by decide +kernel, rfl⟩
def mX4_pop : Mm := (yX4_pop, cX4_pop, 2, (some .boolean))
theorem kmX4_pop : MK mX4_pop 1 := ⟨by decide +kernel, tbl_of (List.mem_of_getElem? (i := 785) (by decide +kernel)) rfl, tbl_of (List.mem_of_getElem? (i := 75) (by decide +kernel)) rfl, by decide +kernel, by decide +kernel, by decide +kernel, rfl⟩
def mX10_init : Mm := (yX10_init, cX10_init, 1, none)
theorem kmX10_init : MK mX10_init 0 := ⟨by decide +kernel, tbl_of (List.mem_of_getElem? (i := 127) (by decide +kernel)) rfl, tbl_of (List.mem_of_getElem? (i := 73) (by decide +kernel)) rfl, by decide +kernel, by decide +kernel, by decide +kernel, rfl⟩
def mX6_init : Mm := (yX6_init, cX6_init, 1, none)
theorem kmX6_init : MK mX6_init 0 := ⟨by decide +kernel, tbl_of (List.mem_of_getElem? (i := 121) (by decide +kernel)) rfl, tbl_of (List.mem_of_getElem? (i := 72) (by decide +kernel)) rfl, by decide +kernel, by decide +kernel, by decide +kernel, rfl⟩
def mX8_addThing : Mm := (yX8_addThing, cX8_addThing, 4, (some .int))
theorem kmX8_addThing : MK mX8_addThing 3 := ⟨by decide +kernel, tbl_of (List.mem_of_getElem? (i := 591) (by decide +kernel)) rfl, tbl_of (List.mem_of_getElem? (i := 74) (by decide +kernel)) rfl, by decide +kernel, by decide +kernel, by decide +kernel, rfl⟩
def mX8_start : Mm := (yX8_start, cX8_start, 3, none)
theorem kmX8_start : MK mX8_start 1 := ⟨by decide +kernel, tbl_of (List.mem_of_getElem? (i := 587) (by decide +kernel)) rfl, tbl_of (List.mem_of_getElem? (i := 74) (by decide +kernel)) rfl, by decide +kernel, by decide +kernel, by decide +kernel, rfl⟩
def mX6_start : Mm := (yX6_start, cX6_start, 1, none)
theorem kmX6_start : MK mX6_start 0 := ⟨by decide +kernel, tbl_of (List.mem_of_getElem? (i := 583) (by decide +kernel)) rfl, tbl_of (List.mem_of_getElem? (i := 72) (by decide +kernel)) rfl, by decide +kernel, by decide +kernel, by decide +kernel, rfl⟩
def mX6_isPlace : Mm := (yX6_isPlace, cX6_isPlace, 2, (some .boolean))
theorem kmX6_isPlace : MK mX6_isPlace 1 := ⟨by decide +kernel, tbl_of (List.mem_of_getElem? (i := 759) (by decide +kernel)) rfl, tbl_of (List.mem_of_getElem? (i := 72) (by decide +kernel)) rfl, by decide +kernel, by decide +kernel, by decide +kernel, rfl⟩
def mX6_isTown : Mm := (yX6_isTown, cX6_isTown, 2, (some .boolean))
theorem kmX6_isTown : MK mX6_isTown 1 := ⟨by decide +kernel, tbl_of (List.mem_of_getElem? (i := 686) (by decide +kernel)) rfl, tbl_of (List.mem_of_getElem? (i := 72) (by decide +kernel)) rfl, by decide +kernel, by decide +kernel, by decide +kernel, rfl⟩
def mX6_isThing : Mm := (yX6_isThing, cX6_isThing, 2, (some .boolean))
theorem kmX6_isThing : MK mX6_isThing 1 := ⟨by decide +kernel, tbl_of (List.mem_of_getElem? (i := 694) (by decide +kernel)) rfl, tbl_of (List.mem_of_getElem? (i := 72) (by decide +kernel)) rfl, by decide +kernel, by decide +kernel, by decide +kernel, rfl⟩
def mX7_init : Mm := (yX7_init, cX7_init, 2, none)
theorem kmX7_init : MK mX7_init 1 := ⟨by decide +kernel, tbl_of (List.mem_of_getElem? (i := 327) (by decide +kernel)) rfl, tbl_of (List.mem_of_getElem? (i := 78) (by decide +kernel)) rfl, by decide +kernel, by decide +kernel, by decide +kernel, rfl⟩
def mX7_start : Mm := (yX7_start, cX7_start, 2, none)
theorem kmX7_start : MK mX7_start 0 := ⟨by decide +kernel, tbl_of (List.mem_of_getElem? (i := 595) (by decide +kernel)) rfl, tbl_of (List.mem_of_getElem? (i := 78) (by decide +kernel)) rfl, by decide +kernel, by decide +kernel, by decide +kernel, rfl⟩
def mX8_hangTown : Mm := (yX8_hangTown, cX8_hangTown, 4, none)
theorem kmX8_hangTown : MK mX8_hangTown 2 := ⟨by decide +kernel, tbl_of (List.mem_of_getElem? (i := 769) (by decide +kernel)) rfl, tbl_of (List.mem_of_getElem? (i := 74) (by decide +kernel)) rfl, by decide +kernel, by decide +kernel, by decide +kernel, rfl⟩
def mX8_cutTown : Mm := (yX8_cutTown, cX8_cutTown, 3, none)
theorem kmX8_cutTown : MK mX8_cutTown 1 := ⟨by decide +kernel, tbl_of (List.mem_of_getElem? (i := 777) (by decide +kernel)) rfl, tbl_of (List.mem_of_getElem? (i := 74) (by decide +kernel)) rfl, by decide +kernel, by decide +kernel, by decide +kernel, rfl⟩
def mX9_init : Mm := (yX9_init, cX9_init, 1, none)
theorem kmX9_init : MK mX9_init 0 := ⟨by decide +kernel, tbl_of (List.mem_of_getElem? (i := 100) (by decide +kernel)) rfl, tbl_of (List.mem_of_getElem? (i := 71) (by decide +kernel)) rfl, by decide +kernel, by decide +kernel, by decide +kernel, rfl⟩
def mX9_add : Mm := (yX9_add, cX9_add, 2, (some .boolean))
theorem kmX9_add : MK mX9_add 1 := ⟨by decide +kernel, tbl_of (List.mem_of_getElem? (i := 507) (by decide +kernel)) rfl, tbl_of (List.mem_of_getElem? (i := 71) (by decide +kernel)) rfl, by decide +kernel, by decide +kernel, by decide +kernel, rfl⟩
def mX9_empty : Mm := (yX9_empty, cX9_empty, 2, (some .int))
theorem kmX9_empty : MK mX9_empty 0 := ⟨by decide +kernel, tbl_of (List.mem_of_getElem? (i := 614) (by decide +kernel)) rfl, tbl_of (List.mem_of_getElem? (i := 71) (by decide +kernel)) rfl, by decide +kernel, by decide +kernel, by decide +kernel, rfl⟩
def mX10_start : Mm := (yX10_start, cX10_start, 1, none)
theorem kmX10_start : MK mX10_start 0 := ⟨by decide +kernel, tbl_of (List.mem_of_getElem? (i := 519) (by decide +kernel)) rfl, tbl_of (List.mem_of_getElem? (i := 73) (by decide +kernel)) rfl, by decide +kernel, by decide +kernel, by decide +kernel, rfl⟩
def mX9_letterAt : Mm := (yX9_letterAt, cX9_letterAt, 2, (some .int))
theorem kmX9_letterAt : MK mX9_letterAt 1 := ⟨by decide +kernel, tbl_of (List.mem_of_getElem? (i := 531) (by decide +kernel)) rfl, tbl_of (List.mem_of_getElem? (i := 71) (by decide +kernel)) rfl, by decide +kernel, by decide +kernel, by decide +kernel, rfl⟩
def mX11_within : Mm := (yX11_within, cX11_within, 3, (some .boolean))
theorem kmX11_within : MK mX11_within 3 := ⟨by decide +kernel, tbl_of (List.mem_of_getElem? (i := 534) (by decide +kernel)) rfl, tbl_of (List.mem_of_getElem? (i := 70) (by decide +kernel)) rfl, by decide +kernel, by decide +kernel, by decide +kernel, rfl⟩
def mX9_figuresFrom : Mm := (yX9_figuresFrom, cX9_figuresFrom, 3, (some .int))
theorem kmX9_figuresFrom : MK mX9_figuresFrom 1 := ⟨by decide +kernel, tbl_of (List.mem_of_getElem? (i := 527) (by decide +kernel)) rfl, tbl_of (List.mem_of_getElem? (i := 71) (by decide +kernel)) rfl, by decide +kernel, by decide +kernel, by decide +kernel, rfl⟩
def mX9_numberFrom : Mm := (yX9_numberFrom, cX9_numberFrom, 5, (some .int))
theorem kmX9_numberFrom : MK mX9_numberFrom 2 := ⟨by decide +kernel, tbl_of (List.mem_of_getElem? (i := 538) (by decide +kernel)) rfl, tbl_of (List.mem_of_getElem? (i := 71) (by decide +kernel)) rfl, by decide +kernel, by decide +kernel, by decide +kernel, rfl⟩
def mX9_splitItem : Mm := (yX9_splitItem, cX9_splitItem, 6, (some .int))
theorem kmX9_splitItem : MK mX9_splitItem 1 := ⟨by decide +kernel, tbl_of (List.mem_of_getElem? (i := 523) (by decide +kernel)) rfl, tbl_of (List.mem_of_getElem? (i := 71) (by decide +kernel)) rfl, by decide +kernel, by decide +kernel, by decide +kernel, rfl⟩
def mX10_addPlaces : Mm := (yX10_addPlaces, cX10_addPlaces, 2, (some .boolean))
theorem kmX10_addPlaces : MK mX10_addPlaces 1 := ⟨by decide +kernel, tbl_of (List.mem_of_getElem? (i := 546) (by decide +kernel)) rfl, tbl_of (List.mem_of_getElem? (i := 73) (by decide +kernel)) rfl, by decide +kernel, by decide +kernel, by decide +kernel, rfl⟩
def mX10_addLevel : Mm := (yX10_addLevel, cX10_addLevel, 4, (some .boolean))
theorem kmX10_addLevel : MK mX10_addLevel 3 := ⟨by decide +kernel, tbl_of (List.mem_of_getElem? (i := 551) (by decide +kernel)) rfl, tbl_of (List.mem_of_getElem? (i := 73) (by decide +kernel)) rfl, by decide +kernel, by decide +kernel, by decide +kernel, rfl⟩
def mX10_canBeSpot : Mm := (yX10_canBeSpot, cX10_canBeSpot, 3, (some .boolean))
theorem kmX10_canBeSpot : MK mX10_canBeSpot 2 := ⟨by decide +kernel, tbl_of (List.mem_of_getElem? (i := 559) (by decide +kernel)) rfl, tbl_of (List.mem_of_getElem? (i := 73) (by decide +kernel)) rfl, by decide +kernel, by decide +kernel, by decide +kernel, rfl⟩
def mX10_addTown : Mm := (yX10_addTown, cX10_addTown, 5, (some .boolean))
theorem kmX10_addTown : MK mX10_addTown 4 := ⟨by decide +kernel, tbl_of (List.mem_of_getElem? (i := 555) (by decide +kernel)) rfl, tbl_of (List.mem_of_getElem? (i := 73) (by decide +kernel)) rfl, by decide +kernel, by decide +kernel, by decide +kernel, rfl⟩
def mX10_addMarket : Mm := (yX10_addMarket, cX10_addMarket, 3, (some .boolean))
theorem kmX10_addMarket : MK mX10_addMarket 2 := ⟨by decide +kernel, tbl_of (List.mem_of_getElem? (i := 563) (by decide +kernel)) rfl, tbl_of (List.mem_of_getElem? (i := 73) (by decide +kernel)) rfl, by decide +kernel, by decide +kernel, by decide +kernel, rfl⟩
def mX10_addThing : Mm := (yX10_addThing, cX10_addThing, 4, (some .boolean))
theorem kmX10_addThing : MK mX10_addThing 3 := ⟨by decide +kernel, tbl_of (List.mem_of_getElem? (i := 567) (by decide +kernel)) rfl, tbl_of (List.mem_of_getElem? (i := 73) (by decide +kernel)) rfl, by decide +kernel, by decide +kernel, by decide +kernel, rfl⟩
def mX10_addItem : Mm := (yX10_addItem, cX10_addItem, 4, (some .boolean))
theorem kmX10_addItem : MK mX10_addItem 3 := ⟨by decide +kernel, tbl_of (List.mem_of_getElem? (i := 542) (by decide +kernel)) rfl, tbl_of (List.mem_of_getElem? (i := 73) (by decide +kernel)) rfl, by decide +kernel, by decide +kernel, by decide +kernel, rfl⟩
def mX9_readInto : Mm := (yX9_readInto, cX9_readInto, 5, (some .int))
theorem kmX9_readInto : MK mX9_readInto 1 := ⟨by decide +kernel, tbl_of (List.mem_of_getElem? (i := 515) (by decide +kernel)) rfl, tbl_of (List.mem_of_getElem? (i := 71) (by decide +kernel)) rfl, by decide +kernel, by decide +kernel, by decide +kernel, rfl⟩
def mX10_allLevelsThere : Mm := (yX10_allLevelsThere, cX10_allLevelsThere, 2, (some .boolean))
theorem kmX10_allLevelsThere : MK mX10_allLevelsThere 0 := ⟨by decide +kernel, tbl_of (List.mem_of_getElem? (i := 575) (by decide +kernel)) rfl, tbl_of (List.mem_of_getElem? (i := 73) (by decide +kernel)) rfl, by decide +kernel, by decide +kernel, by decide +kernel, rfl⟩
def mX10_townsApart : Mm := (yX10_townsApart, cX10_townsApart, 3, (some .boolean))
theorem kmX10_townsApart : MK mX10_townsApart 0 := ⟨by decide +kernel, tbl_of (List.mem_of_getElem? (i := 579) (by decide +kernel)) rfl, tbl_of (List.mem_of_getElem? (i := 73) (by decide +kernel)) rfl, by decide +kernel, by decide +kernel, by decide +kernel, rfl⟩
def mX10_holds : Mm := (yX10_holds, cX10_holds, 1, (some .boolean))
theorem kmX10_holds : MK mX10_holds 0 := ⟨by decide +kernel, tbl_of (List.mem_of_getElem? (i := 571) (by decide +kernel)) rfl, tbl_of (List.mem_of_getElem? (i := 73) (by decide +kernel)) rfl, by decide +kernel, by decide +kernel, by decide +kernel, rfl⟩
def mX11_layText : Mm := (yX11_layText, cX11_layText, 2, (some .boolean))
theorem kmX11_layText : MK mX11_layText 0 := ⟨by decide +kernel, tbl_of (List.mem_of_getElem? (i := 511) (by decide +kernel)) rfl, tbl_of (List.mem_of_getElem? (i := 70) (by decide +kernel)) rfl, by decide +kernel, by decide +kernel, by decide +kernel, rfl⟩
def mX11_init : Mm := (yX11_init, cX11_init, 2, none)
theorem kmX11_init : MK mX11_init 0 := ⟨by decide +kernel, tbl_of (List.mem_of_getElem? (i := 92) (by decide +kernel)) rfl, tbl_of (List.mem_of_getElem? (i := 70) (by decide +kernel)) rfl, by decide +kernel, by decide +kernel, by decide +kernel, rfl⟩
def mX11_write : Mm := (yX11_write, cX11_write, 2, (some .int))
theorem kmX11_write : MK mX11_write 1 := ⟨by decide +kernel, tbl_of (List.mem_of_getElem? (i := 657) (by decide +kernel)) rfl, tbl_of (List.mem_of_getElem? (i := 70) (by decide +kernel)) rfl, by decide +kernel, by decide +kernel, by decide +kernel, rfl⟩
def mX11_wipe : Mm := (yX11_wipe, cX11_wipe, 1, (some .int))
theorem kmX11_wipe : MK mX11_wipe 0 := ⟨by decide +kernel, tbl_of (List.mem_of_getElem? (i := 662) (by decide +kernel)) rfl, tbl_of (List.mem_of_getElem? (i := 70) (by decide +kernel)) rfl, by decide +kernel, by decide +kernel, by decide +kernel, rfl⟩
def mX11_fault : Mm := (yX11_fault, cX11_fault, 1, (some .int))
theorem kmX11_fault : MK mX11_fault 0 := ⟨by decide +kernel, tbl_of (List.mem_of_getElem? (i := 666) (by decide +kernel)) rfl, tbl_of (List.mem_of_getElem? (i := 70) (by decide +kernel)) rfl, by decide +kernel, by decide +kernel, by decide +kernel, rfl⟩
def mX11_lay : Mm := (yX11_lay, cX11_lay, 1, (some .int))
theorem kmX11_lay : MK mX11_lay 0 := ⟨by decide +kernel, tbl_of (List.mem_of_getElem? (i := 670) (by decide +kernel)) rfl, tbl_of (List.mem_of_getElem? (i := 70) (by decide +kernel)) rfl, by decide +kernel, by decide +kernel, by decide +kernel, rfl⟩
def mX11_level : Mm := (yX11_level, cX11_level, 3, (some .int))
theorem kmX11_level : MK mX11_level 2 := ⟨by decide +kernel, tbl_of (List.mem_of_getElem? (i := 674) (by decide +kernel)) rfl, tbl_of (List.mem_of_getElem? (i := 70) (by decide +kernel)) rfl, by decide +kernel, by decide +kernel, by decide +kernel, rfl⟩
def mX11_town : Mm := (yX11_town, cX11_town, 3, (some .int))
theorem kmX11_town : MK mX11_town 2 := ⟨by decide +kernel, tbl_of (List.mem_of_getElem? (i := 682) (by decide +kernel)) rfl, tbl_of (List.mem_of_getElem? (i := 70) (by decide +kernel)) rfl, by decide +kernel, by decide +kernel, by decide +kernel, rfl⟩
def mX11_thing : Mm := (yX11_thing, cX11_thing, 3, (some .int))
theorem kmX11_thing : MK mX11_thing 2 := ⟨by decide +kernel, tbl_of (List.mem_of_getElem? (i := 690) (by decide +kernel)) rfl, tbl_of (List.mem_of_getElem? (i := 70) (by decide +kernel)) rfl, by decide +kernel, by decide +kernel, by decide +kernel, rfl⟩
def mX11_steps : Mm := (yX11_steps, cX11_steps, 3, (some .int))
theorem kmX11_steps : MK mX11_steps 1 := ⟨by decide +kernel, tbl_of (List.mem_of_getElem? (i := 698) (by decide +kernel)) rfl, tbl_of (List.mem_of_getElem? (i := 70) (by decide +kernel)) rfl, by decide +kernel, by decide +kernel, by decide +kernel, rfl⟩
def mX11_letGo : Mm := (yX11_letGo, cX11_letGo, 3, (some .int))
theorem kmX11_letGo : MK mX11_letGo 2 := ⟨by decide +kernel, tbl_of (List.mem_of_getElem? (i := 750) (by decide +kernel)) rfl, tbl_of (List.mem_of_getElem? (i := 70) (by decide +kernel)) rfl, by decide +kernel, by decide +kernel, by decide +kernel, rfl⟩
def mX11_hang : Mm := (yX11_hang, cX11_hang, 5, (some .int))
theorem kmX11_hang : MK mX11_hang 2 := ⟨by decide +kernel, tbl_of (List.mem_of_getElem? (i := 755) (by decide +kernel)) rfl, tbl_of (List.mem_of_getElem? (i := 70) (by decide +kernel)) rfl, by decide +kernel, by decide +kernel, by decide +kernel, rfl⟩
def mX11_cut : Mm := (yX11_cut, cX11_cut, 2, (some .int))
theorem kmX11_cut : MK mX11_cut 1 := ⟨by decide +kernel, tbl_of (List.mem_of_getElem? (i := 773) (by decide +kernel)) rfl, tbl_of (List.mem_of_getElem? (i := 70) (by decide +kernel)) rfl, by decide +kernel, by decide +kernel, by decide +kernel, rfl⟩
def mX11_undo : Mm := (yX11_undo, cX11_undo, 1, (some .int))
theorem kmX11_undo : MK mX11_undo 0 := ⟨by decide +kernel, tbl_of (List.mem_of_getElem? (i := 781) (by decide +kernel)) rfl, tbl_of (List.mem_of_getElem? (i := 70) (by decide +kernel)) rfl, by decide +kernel, by decide +kernel, by decide +kernel, rfl⟩
def mX11_behind : Mm := (yX11_behind, cX11_behind, 4, (some .int))
theorem kmX11_behind : MK mX11_behind 3 := ⟨by decide +kernel, tbl_of (List.mem_of_getElem? (i := 789) (by decide +kernel)) rfl, tbl_of (List.mem_of_getElem? (i := 70) (by decide +kernel)) rfl, by decide +kernel, by decide +kernel, by decide +kernel, rfl⟩
def mX11_meet : Mm := (yX11_meet, cX11_meet, 4, (some .int))
theorem kmX11_meet : MK mX11_meet 2 := ⟨by decide +kernel, tbl_of (List.mem_of_getElem? (i := 793) (by decide +kernel)) rfl, tbl_of (List.mem_of_getElem? (i := 70) (by decide +kernel)) rfl, by decide +kernel, by decide +kernel, by decide +kernel, rfl⟩
def mX11_round : Mm := (yX11_round, cX11_round, 5, (some .int))
theorem kmX11_round : MK mX11_round 1 := ⟨by decide +kernel, tbl_of (List.mem_of_getElem? (i := 802) (by decide +kernel)) rfl, tbl_of (List.mem_of_getElem? (i := 70) (by decide +kernel)) rfl, by decide +kernel, by decide +kernel, by decide +kernel, rfl⟩
def mX11_time : Mm := (yX11_time, cX11_time, 6, (some .int))
theorem kmX11_time : MK mX11_time 4 := ⟨by decide +kernel, tbl_of (List.mem_of_getElem? (i := 807) (by decide +kernel)) rfl, tbl_of (List.mem_of_getElem? (i := 70) (by decide +kernel)) rfl, by decide +kernel, by decide +kernel, by decide +kernel, rfl⟩
def mX11_hears : Mm := (yX11_hears, cX11_hears, 6, (some .int))
theorem kmX11_hears : MK mX11_hears 2 := ⟨by decide +kernel, tbl_of (List.mem_of_getElem? (i := 829) (by decide +kernel)) rfl, tbl_of (List.mem_of_getElem? (i := 70) (by decide +kernel)) rfl, by decide +kernel, by decide +kernel, by decide +kernel, rfl⟩
def mX11_shadow : Mm := (yX11_shadow, cX11_shadow, 7, (some .int))
theorem kmX11_shadow : MK mX11_shadow 1 := ⟨by decide +kernel, tbl_of (List.mem_of_getElem? (i := 838) (by decide +kernel)) rfl, tbl_of (List.mem_of_getElem? (i := 70) (by decide +kernel)) rfl, by decide +kernel, by decide +kernel, by decide +kernel, rfl⟩
def mX11_heard : Mm := (yX11_heard, cX11_heard, 3, (some .int))
theorem kmX11_heard : MK mX11_heard 2 := ⟨by decide +kernel, tbl_of (List.mem_of_getElem? (i := 842) (by decide +kernel)) rfl, tbl_of (List.mem_of_getElem? (i := 70) (by decide +kernel)) rfl, by decide +kernel, by decide +kernel, by decide +kernel, rfl⟩
def mX11_hush : Mm := (yX11_hush, cX11_hush, 1, (some .int))
theorem kmX11_hush : MK mX11_hush 0 := ⟨by decide +kernel, tbl_of (List.mem_of_getElem? (i := 850) (by decide +kernel)) rfl, tbl_of (List.mem_of_getElem? (i := 70) (by decide +kernel)) rfl, by decide +kernel, by decide +kernel, by decide +kernel, rfl⟩
def mX11_whence : Mm := (yX11_whence, cX11_whence, 2, (some .int))
theorem kmX11_whence : MK mX11_whence 1 := ⟨by decide +kernel, tbl_of (List.mem_of_getElem? (i := 854) (by decide +kernel)) rfl, tbl_of (List.mem_of_getElem? (i := 70) (by decide +kernel)) rfl, by decide +kernel, by decide +kernel, by decide +kernel, rfl⟩
def mX11_moved : Mm := (yX11_moved, cX11_moved, 3, (some .int))
theorem kmX11_moved : MK mX11_moved 2 := ⟨by decide +kernel, tbl_of (List.mem_of_getElem? (i := 872) (by decide +kernel)) rfl, tbl_of (List.mem_of_getElem? (i := 70) (by decide +kernel)) rfl, by decide +kernel, by decide +kernel, by decide +kernel, rfl⟩
def mX11_sent : Mm := (yX11_sent, cX11_sent, 8, (some .int))
theorem kmX11_sent : MK mX11_sent 3 := ⟨by decide +kernel, tbl_of (List.mem_of_getElem? (i := 925) (by decide +kernel)) rfl, tbl_of (List.mem_of_getElem? (i := 70) (by decide +kernel)) rfl, by decide +kernel, by decide +kernel, by decide +kernel, rfl⟩
def mX11_fall : Mm := (yX11_fall, cX11_fall, 4, (some .int))
theorem kmX11_fall : MK mX11_fall 2 := ⟨by decide +kernel, tbl_of (List.mem_of_getElem? (i := 934) (by decide +kernel)) rfl, tbl_of (List.mem_of_getElem? (i := 70) (by decide +kernel)) rfl, by decide +kernel, by decide +kernel, by decide +kernel, rfl⟩
def mX11_anyTown : Mm := (yX11_anyTown, cX11_anyTown, 4, (some .boolean))
theorem kmX11_anyTown : MK mX11_anyTown 2 := ⟨by decide +kernel, tbl_of (List.mem_of_getElem? (i := 946) (by decide +kernel)) rfl, tbl_of (List.mem_of_getElem? (i := 70) (by decide +kernel)) rfl, by decide +kernel, by decide +kernel, by decide +kernel, rfl⟩
def mX11_lackAt : Mm := (yX11_lackAt, cX11_lackAt, 6, (some .int))
theorem kmX11_lackAt : MK mX11_lackAt 3 := ⟨by decide +kernel, tbl_of (List.mem_of_getElem? (i := 950) (by decide +kernel)) rfl, tbl_of (List.mem_of_getElem? (i := 70) (by decide +kernel)) rfl, by decide +kernel, by decide +kernel, by decide +kernel, rfl⟩
def mX11_clearingPrice : Mm := (yX11_clearingPrice, cX11_clearingPrice, 4, (some .int))
theorem kmX11_clearingPrice : MK mX11_clearingPrice 2 := ⟨by decide +kernel, tbl_of (List.mem_of_getElem? (i := 942) (by decide +kernel)) rfl, tbl_of (List.mem_of_getElem? (i := 70) (by decide +kernel)) rfl, by decide +kernel, by decide +kernel, by decide +kernel, rfl⟩
def mX11_clear : Mm := (yX11_clear, cX11_clear, 3, (some .int))
theorem kmX11_clear : MK mX11_clear 2 := ⟨by decide +kernel, tbl_of (List.mem_of_getElem? (i := 938) (by decide +kernel)) rfl, tbl_of (List.mem_of_getElem? (i := 70) (by decide +kernel)) rfl, by decide +kernel, by decide +kernel, by decide +kernel, rfl⟩
def mX11_gain : Mm := (yX11_gain, cX11_gain, 4, (some .int))
theorem kmX11_gain : MK mX11_gain 1 := ⟨by decide +kernel, tbl_of (List.mem_of_getElem? (i := 955) (by decide +kernel)) rfl, tbl_of (List.mem_of_getElem? (i := 70) (by decide +kernel)) rfl, by decide +kernel, by decide +kernel, by decide +kernel, rfl⟩
def mX11_drifted : Mm := (yX11_drifted, cX11_drifted, 5, (some .int))
theorem kmX11_drifted : MK mX11_drifted 4 := ⟨by decide +kernel, tbl_of (List.mem_of_getElem? (i := 959) (by decide +kernel)) rfl, tbl_of (List.mem_of_getElem? (i := 70) (by decide +kernel)) rfl, by decide +kernel, by decide +kernel, by decide +kernel, rfl⟩
def mX11_forget : Mm := (yX11_forget, cX11_forget, 1, (some .int))
theorem kmX11_forget : MK mX11_forget 0 := ⟨by decide +kernel, tbl_of (List.mem_of_getElem? (i := 967) (by decide +kernel)) rfl, tbl_of (List.mem_of_getElem? (i := 70) (by decide +kernel)) rfl, by decide +kernel, by decide +kernel, by decide +kernel, rfl⟩
def mX11_currents : Mm := (yX11_currents, cX11_currents, 4, (some .int))
theorem kmX11_currents : MK mX11_currents 1 := ⟨by decide +kernel, tbl_of (List.mem_of_getElem? (i := 971) (by decide +kernel)) rfl, tbl_of (List.mem_of_getElem? (i := 70) (by decide +kernel)) rfl, by decide +kernel, by decide +kernel, by decide +kernel, rfl⟩
def mX11_spreadOdds : Mm := (yX11_spreadOdds, cX11_spreadOdds, 8, none)
theorem kmX11_spreadOdds : MK mX11_spreadOdds 3 := ⟨by decide +kernel, tbl_of (List.mem_of_getElem? (i := 985) (by decide +kernel)) rfl, tbl_of (List.mem_of_getElem? (i := 70) (by decide +kernel)) rfl, by decide +kernel, by decide +kernel, by decide +kernel, rfl⟩
def mX11_commonDivisor : Mm := (yX11_commonDivisor, cX11_commonDivisor, 7, (some .long))
theorem kmX11_commonDivisor : MK mX11_commonDivisor 2 := ⟨by decide +kernel, tbl_of (List.mem_of_getElem? (i := 989) (by decide +kernel)) rfl, tbl_of (List.mem_of_getElem? (i := 70) (by decide +kernel)) rfl, by decide +kernel, by decide +kernel, by decide +kernel, rfl⟩
def mX11_leak : Mm := (yX11_leak, cX11_leak, 12, (some .long))
theorem kmX11_leak : MK mX11_leak 5 := ⟨by decide +kernel, tbl_of (List.mem_of_getElem? (i := 980) (by decide +kernel)) rfl, tbl_of (List.mem_of_getElem? (i := 70) (by decide +kernel)) rfl, by decide +kernel, by decide +kernel, by decide +kernel, rfl⟩
def mX11_putDrawn : Mm := (yX11_putDrawn, cX11_putDrawn, 6, none)
theorem kmX11_putDrawn : MK mX11_putDrawn 2 := ⟨by decide +kernel, tbl_of (List.mem_of_getElem? (i := 997) (by decide +kernel)) rfl, tbl_of (List.mem_of_getElem? (i := 70) (by decide +kernel)) rfl, by decide +kernel, by decide +kernel, by decide +kernel, rfl⟩
def mX11_year : Mm := (yX11_year, cX11_year, 6, (some .int))
theorem kmX11_year : MK mX11_year 3 := ⟨by decide +kernel, tbl_of (List.mem_of_getElem? (i := 993) (by decide +kernel)) rfl, tbl_of (List.mem_of_getElem? (i := 70) (by decide +kernel)) rfl, by decide +kernel, by decide +kernel, by decide +kernel, rfl⟩
def mX11_keep : Mm := (yX11_keep, cX11_keep, 1, (some .int))
theorem kmX11_keep : MK mX11_keep 0 := ⟨by decide +kernel, tbl_of (List.mem_of_getElem? (i := 1005) (by decide +kernel)) rfl, tbl_of (List.mem_of_getElem? (i := 70) (by decide +kernel)) rfl, by decide +kernel, by decide +kernel, by decide +kernel, rfl⟩
def mX11_back : Mm := (yX11_back, cX11_back, 1, (some .int))
theorem kmX11_back : MK mX11_back 0 := ⟨by decide +kernel, tbl_of (List.mem_of_getElem? (i := 1009) (by decide +kernel)) rfl, tbl_of (List.mem_of_getElem? (i := 70) (by decide +kernel)) rfl, by decide +kernel, by decide +kernel, by decide +kernel, rfl⟩
def mX11_count : Mm := (yX11_count, cX11_count, 2, (some .int))
theorem kmX11_count : MK mX11_count 1 := ⟨by decide +kernel, tbl_of (List.mem_of_getElem? (i := 1013) (by decide +kernel)) rfl, tbl_of (List.mem_of_getElem? (i := 70) (by decide +kernel)) rfl, by decide +kernel, by decide +kernel, by decide +kernel, rfl⟩
def mX12_begins : Mm := (yX12_begins, cX12_begins, 2, none)
theorem kmX12_begins : MK mX12_begins 0 := ⟨by decide +kernel, tbl_of (List.mem_of_getElem? (i := 1024) (by decide +kernel)) rfl, tbl_of (List.mem_of_getElem? (i := 87) (by decide +kernel)) rfl, by decide +kernel, by decide +kernel, by decide +kernel, rfl⟩
def mX12_takes : Mm := (yX12_takes, cX12_takes, 2, none)
theorem kmX12_takes : MK mX12_takes 0 := ⟨by decide +kernel, tbl_of (List.mem_of_getElem? (i := 1028) (by decide +kernel)) rfl, tbl_of (List.mem_of_getElem? (i := 87) (by decide +kernel)) rfl, by decide +kernel, by decide +kernel, by decide +kernel, rfl⟩
def mX12_init : Mm := (yX12_init, cX12_init, 1, none)
theorem kmX12_init : MK mX12_init 0 := ⟨by decide +kernel, tbl_of (List.mem_of_getElem? (i := 1018) (by decide +kernel)) rfl, tbl_of (List.mem_of_getElem? (i := 87) (by decide +kernel)) rfl, by decide +kernel, by decide +kernel, by decide +kernel, rfl⟩
def mX12_in : Mm := (yX12_in, cX12_in, 6, (some .boolean))
theorem kmX12_in : MK mX12_in 3 := ⟨by decide +kernel, tbl_of (List.mem_of_getElem? (i := 1107) (by decide +kernel)) rfl, tbl_of (List.mem_of_getElem? (i := 87) (by decide +kernel)) rfl, by decide +kernel, by decide +kernel, by decide +kernel, rfl⟩
def mX12_write : Mm := (yX12_write, cX12_write, 2, (some .int))
theorem kmX12_write : MK mX12_write 1 := ⟨by decide +kernel, tbl_of (List.mem_of_getElem? (i := 1102) (by decide +kernel)) rfl, tbl_of (List.mem_of_getElem? (i := 87) (by decide +kernel)) rfl, by decide +kernel, by decide +kernel, by decide +kernel, rfl⟩
def mX12_wipe : Mm := (yX12_wipe, cX12_wipe, 2, (some .int))
theorem kmX12_wipe : MK mX12_wipe 0 := ⟨by decide +kernel, tbl_of (List.mem_of_getElem? (i := 1111) (by decide +kernel)) rfl, tbl_of (List.mem_of_getElem? (i := 87) (by decide +kernel)) rfl, by decide +kernel, by decide +kernel, by decide +kernel, rfl⟩
def mX12_number : Mm := (yX12_number, cX12_number, 3, (some .int))
theorem kmX12_number : MK mX12_number 0 := ⟨by decide +kernel, tbl_of (List.mem_of_getElem? (i := 1126) (by decide +kernel)) rfl, tbl_of (List.mem_of_getElem? (i := 87) (by decide +kernel)) rfl, by decide +kernel, by decide +kernel, by decide +kernel, rfl⟩
def mX12_numbers : Mm := (yX12_numbers, cX12_numbers, 1, (some .int))
theorem kmX12_numbers : MK mX12_numbers 1 := ⟨by decide +kernel, tbl_of (List.mem_of_getElem? (i := 1122) (by decide +kernel)) rfl, tbl_of (List.mem_of_getElem? (i := 87) (by decide +kernel)) rfl, by decide +kernel, by decide +kernel, by decide +kernel, rfl⟩
def mX12_isPut : Mm := (yX12_isPut, cX12_isPut, 7, (some .boolean))
theorem kmX12_isPut : MK mX12_isPut 5 := ⟨by decide +kernel, tbl_of (List.mem_of_getElem? (i := 1140) (by decide +kernel)) rfl, tbl_of (List.mem_of_getElem? (i := 87) (by decide +kernel)) rfl, by decide +kernel, by decide +kernel, by decide +kernel, rfl⟩
def mX12_isGood : Mm := (yX12_isGood, cX12_isGood, 5, (some .boolean))
theorem kmX12_isGood : MK mX12_isGood 1 := ⟨by decide +kernel, tbl_of (List.mem_of_getElem? (i := 1133) (by decide +kernel)) rfl, tbl_of (List.mem_of_getElem? (i := 87) (by decide +kernel)) rfl, by decide +kernel, by decide +kernel, by decide +kernel, rfl⟩
def mX12_isItem : Mm := (yX12_isItem, cX12_isItem, 5, (some .boolean))
theorem kmX12_isItem : MK mX12_isItem 0 := ⟨by decide +kernel, tbl_of (List.mem_of_getElem? (i := 1119) (by decide +kernel)) rfl, tbl_of (List.mem_of_getElem? (i := 87) (by decide +kernel)) rfl, by decide +kernel, by decide +kernel, by decide +kernel, rfl⟩
def mX12_fault : Mm := (yX12_fault, cX12_fault, 2, (some .int))
theorem kmX12_fault : MK mX12_fault 0 := ⟨by decide +kernel, tbl_of (List.mem_of_getElem? (i := 1115) (by decide +kernel)) rfl, tbl_of (List.mem_of_getElem? (i := 87) (by decide +kernel)) rfl, by decide +kernel, by decide +kernel, by decide +kernel, rfl⟩
def mX12_isSound : Mm := (yX12_isSound, cX12_isSound, 6, (some .boolean))
theorem kmX12_isSound : MK mX12_isSound 0 := ⟨by decide +kernel, tbl_of (List.mem_of_getElem? (i := 1149) (by decide +kernel)) rfl, tbl_of (List.mem_of_getElem? (i := 87) (by decide +kernel)) rfl, by decide +kernel, by decide +kernel, by decide +kernel, rfl⟩
def mX12_lay : Mm := (yX12_lay, cX12_lay, 1, (some .int))
theorem kmX12_lay : MK mX12_lay 0 := ⟨by decide +kernel, tbl_of (List.mem_of_getElem? (i := 1144) (by decide +kernel)) rfl, tbl_of (List.mem_of_getElem? (i := 87) (by decide +kernel)) rfl, by decide +kernel, by decide +kernel, by decide +kernel, rfl⟩
def mX12_isLevel : Mm := (yX12_isLevel, cX12_isLevel, 2, (some .boolean))
theorem kmX12_isLevel : MK mX12_isLevel 1 := ⟨by decide +kernel, tbl_of (List.mem_of_getElem? (i := 1157) (by decide +kernel)) rfl, tbl_of (List.mem_of_getElem? (i := 87) (by decide +kernel)) rfl, by decide +kernel, by decide +kernel, by decide +kernel, rfl⟩
def mX12_isPlace : Mm := (yX12_isPlace, cX12_isPlace, 2, (some .boolean))
theorem kmX12_isPlace : MK mX12_isPlace 1 := ⟨by decide +kernel, tbl_of (List.mem_of_getElem? (i := 1231) (by decide +kernel)) rfl, tbl_of (List.mem_of_getElem? (i := 87) (by decide +kernel)) rfl, by decide +kernel, by decide +kernel, by decide +kernel, rfl⟩
def mX12_isTown : Mm := (yX12_isTown, cX12_isTown, 2, (some .boolean))
theorem kmX12_isTown : MK mX12_isTown 1 := ⟨by decide +kernel, tbl_of (List.mem_of_getElem? (i := 1165) (by decide +kernel)) rfl, tbl_of (List.mem_of_getElem? (i := 87) (by decide +kernel)) rfl, by decide +kernel, by decide +kernel, by decide +kernel, rfl⟩
def mX12_isThing : Mm := (yX12_isThing, cX12_isThing, 2, (some .boolean))
theorem kmX12_isThing : MK mX12_isThing 1 := ⟨by decide +kernel, tbl_of (List.mem_of_getElem? (i := 1177) (by decide +kernel)) rfl, tbl_of (List.mem_of_getElem? (i := 87) (by decide +kernel)) rfl, by decide +kernel, by decide +kernel, by decide +kernel, rfl⟩
def mX12_isCut : Mm := (yX12_isCut, cX12_isCut, 2, (some .boolean))
theorem kmX12_isCut : MK mX12_isCut 1 := ⟨by decide +kernel, tbl_of (List.mem_of_getElem? (i := 1219) (by decide +kernel)) rfl, tbl_of (List.mem_of_getElem? (i := 87) (by decide +kernel)) rfl, by decide +kernel, by decide +kernel, by decide +kernel, rfl⟩
def mX12_isMarket : Mm := (yX12_isMarket, cX12_isMarket, 5, (some .boolean))
theorem kmX12_isMarket : MK mX12_isMarket 2 := ⟨by decide +kernel, tbl_of (List.mem_of_getElem? (i := 1235) (by decide +kernel)) rfl, tbl_of (List.mem_of_getElem? (i := 87) (by decide +kernel)) rfl, by decide +kernel, by decide +kernel, by decide +kernel, rfl⟩
def mX12_levelOf : Mm := (yX12_levelOf, cX12_levelOf, 2, (some .int))
theorem kmX12_levelOf : MK mX12_levelOf 1 := ⟨by decide +kernel, tbl_of (List.mem_of_getElem? (i := 1169) (by decide +kernel)) rfl, tbl_of (List.mem_of_getElem? (i := 87) (by decide +kernel)) rfl, by decide +kernel, by decide +kernel, by decide +kernel, rfl⟩
def mX12_townAt : Mm := (yX12_townAt, cX12_townAt, 5, (some .int))
theorem kmX12_townAt : MK mX12_townAt 3 := ⟨by decide +kernel, tbl_of (List.mem_of_getElem? (i := 1211) (by decide +kernel)) rfl, tbl_of (List.mem_of_getElem? (i := 87) (by decide +kernel)) rfl, by decide +kernel, by decide +kernel, by decide +kernel, rfl⟩
def mX12_level : Mm := (yX12_level, cX12_level, 3, (some .int))
theorem kmX12_level : MK mX12_level 2 := ⟨by decide +kernel, tbl_of (List.mem_of_getElem? (i := 1153) (by decide +kernel)) rfl, tbl_of (List.mem_of_getElem? (i := 87) (by decide +kernel)) rfl, by decide +kernel, by decide +kernel, by decide +kernel, rfl⟩
def mX12_town : Mm := (yX12_town, cX12_town, 3, (some .int))
theorem kmX12_town : MK mX12_town 2 := ⟨by decide +kernel, tbl_of (List.mem_of_getElem? (i := 1161) (by decide +kernel)) rfl, tbl_of (List.mem_of_getElem? (i := 87) (by decide +kernel)) rfl, by decide +kernel, by decide +kernel, by decide +kernel, rfl⟩
def mX12_tells : Mm := (yX12_tells, cX12_tells, 6, (some .int))
theorem kmX12_tells : MK mX12_tells 3 := ⟨by decide +kernel, tbl_of (List.mem_of_getElem? (i := 1182) (by decide +kernel)) rfl, tbl_of (List.mem_of_getElem? (i := 87) (by decide +kernel)) rfl, by decide +kernel, by decide +kernel, by decide +kernel, rfl⟩
def mX12_thing : Mm := (yX12_thing, cX12_thing, 3, (some .int))
theorem kmX12_thing : MK mX12_thing 2 := ⟨by decide +kernel, tbl_of (List.mem_of_getElem? (i := 1173) (by decide +kernel)) rfl, tbl_of (List.mem_of_getElem? (i := 87) (by decide +kernel)) rfl, by decide +kernel, by decide +kernel, by decide +kernel, rfl⟩
def mX12_copies : Mm := (yX12_copies, cX12_copies, 4, none)
theorem kmX12_copies : MK mX12_copies 2 := ⟨by decide +kernel, tbl_of (List.mem_of_getElem? (i := 1195) (by decide +kernel)) rfl, tbl_of (List.mem_of_getElem? (i := 87) (by decide +kernel)) rfl, by decide +kernel, by decide +kernel, by decide +kernel, rfl⟩
def mX12_known : Mm := (yX12_known, cX12_known, 2, none)
theorem kmX12_known : MK mX12_known 0 := ⟨by decide +kernel, tbl_of (List.mem_of_getElem? (i := 1191) (by decide +kernel)) rfl, tbl_of (List.mem_of_getElem? (i := 87) (by decide +kernel)) rfl, by decide +kernel, by decide +kernel, by decide +kernel, rfl⟩
def mX12_drifts : Mm := (yX12_drifts, cX12_drifts, 7, none)
theorem kmX12_drifts : MK mX12_drifts 2 := ⟨by decide +kernel, tbl_of (List.mem_of_getElem? (i := 1207) (by decide +kernel)) rfl, tbl_of (List.mem_of_getElem? (i := 87) (by decide +kernel)) rfl, by decide +kernel, by decide +kernel, by decide +kernel, rfl⟩
def mX12_goes : Mm := (yX12_goes, cX12_goes, 5, (some .int))
theorem kmX12_goes : MK mX12_goes 3 := ⟨by decide +kernel, tbl_of (List.mem_of_getElem? (i := 1203) (by decide +kernel)) rfl, tbl_of (List.mem_of_getElem? (i := 87) (by decide +kernel)) rfl, by decide +kernel, by decide +kernel, by decide +kernel, rfl⟩
def mX12_step : Mm := (yX12_step, cX12_step, 4, (some .int))
theorem kmX12_step : MK mX12_step 1 := ⟨by decide +kernel, tbl_of (List.mem_of_getElem? (i := 1199) (by decide +kernel)) rfl, tbl_of (List.mem_of_getElem? (i := 87) (by decide +kernel)) rfl, by decide +kernel, by decide +kernel, by decide +kernel, rfl⟩
def mX12_steps : Mm := (yX12_steps, cX12_steps, 4, (some .int))
theorem kmX12_steps : MK mX12_steps 1 := ⟨by decide +kernel, tbl_of (List.mem_of_getElem? (i := 1186) (by decide +kernel)) rfl, tbl_of (List.mem_of_getElem? (i := 87) (by decide +kernel)) rfl, by decide +kernel, by decide +kernel, by decide +kernel, rfl⟩
def mX12_more : Mm := (yX12_more, cX12_more, 6, (some .int))
theorem kmX12_more : MK mX12_more 4 := ⟨by decide +kernel, tbl_of (List.mem_of_getElem? (i := 1223) (by decide +kernel)) rfl, tbl_of (List.mem_of_getElem? (i := 87) (by decide +kernel)) rfl, by decide +kernel, by decide +kernel, by decide +kernel, rfl⟩
def mX12_letGo : Mm := (yX12_letGo, cX12_letGo, 3, (some .int))
theorem kmX12_letGo : MK mX12_letGo 2 := ⟨by decide +kernel, tbl_of (List.mem_of_getElem? (i := 1215) (by decide +kernel)) rfl, tbl_of (List.mem_of_getElem? (i := 87) (by decide +kernel)) rfl, by decide +kernel, by decide +kernel, by decide +kernel, rfl⟩
def mX12_hang : Mm := (yX12_hang, cX12_hang, 4, (some .int))
theorem kmX12_hang : MK mX12_hang 2 := ⟨by decide +kernel, tbl_of (List.mem_of_getElem? (i := 1227) (by decide +kernel)) rfl, tbl_of (List.mem_of_getElem? (i := 87) (by decide +kernel)) rfl, by decide +kernel, by decide +kernel, by decide +kernel, rfl⟩
def mX12_cut : Mm := (yX12_cut, cX12_cut, 3, (some .int))
theorem kmX12_cut : MK mX12_cut 1 := ⟨by decide +kernel, tbl_of (List.mem_of_getElem? (i := 1239) (by decide +kernel)) rfl, tbl_of (List.mem_of_getElem? (i := 87) (by decide +kernel)) rfl, by decide +kernel, by decide +kernel, by decide +kernel, rfl⟩
def mX12_undo : Mm := (yX12_undo, cX12_undo, 1, (some .int))
theorem kmX12_undo : MK mX12_undo 0 := ⟨by decide +kernel, tbl_of (List.mem_of_getElem? (i := 1243) (by decide +kernel)) rfl, tbl_of (List.mem_of_getElem? (i := 87) (by decide +kernel)) rfl, by decide +kernel, by decide +kernel, by decide +kernel, rfl⟩
def mX12_behind : Mm := (yX12_behind, cX12_behind, 6, (some .int))
theorem kmX12_behind : MK mX12_behind 3 := ⟨by decide +kernel, tbl_of (List.mem_of_getElem? (i := 1247) (by decide +kernel)) rfl, tbl_of (List.mem_of_getElem? (i := 87) (by decide +kernel)) rfl, by decide +kernel, by decide +kernel, by decide +kernel, rfl⟩
def mX12_areMet : Mm := (yX12_areMet, cX12_areMet, 5, (some .boolean))
theorem kmX12_areMet : MK mX12_areMet 2 := ⟨by decide +kernel, tbl_of (List.mem_of_getElem? (i := 1255) (by decide +kernel)) rfl, tbl_of (List.mem_of_getElem? (i := 87) (by decide +kernel)) rfl, by decide +kernel, by decide +kernel, by decide +kernel, rfl⟩
def mX12_meet : Mm := (yX12_meet, cX12_meet, 5, (some .int))
theorem kmX12_meet : MK mX12_meet 2 := ⟨by decide +kernel, tbl_of (List.mem_of_getElem? (i := 1251) (by decide +kernel)) rfl, tbl_of (List.mem_of_getElem? (i := 87) (by decide +kernel)) rfl, by decide +kernel, by decide +kernel, by decide +kernel, rfl⟩
def mX12_round : Mm := (yX12_round, cX12_round, 6, (some .int))
theorem kmX12_round : MK mX12_round 1 := ⟨by decide +kernel, tbl_of (List.mem_of_getElem? (i := 1259) (by decide +kernel)) rfl, tbl_of (List.mem_of_getElem? (i := 87) (by decide +kernel)) rfl, by decide +kernel, by decide +kernel, by decide +kernel, rfl⟩
def mX12_isSpot : Mm := (yX12_isSpot, cX12_isSpot, 2, (some .boolean))
theorem kmX12_isSpot : MK mX12_isSpot 1 := ⟨by decide +kernel, tbl_of (List.mem_of_getElem? (i := 1271) (by decide +kernel)) rfl, tbl_of (List.mem_of_getElem? (i := 87) (by decide +kernel)) rfl, by decide +kernel, by decide +kernel, by decide +kernel, rfl⟩
def mX12_isSooner : Mm := (yX12_isSooner, cX12_isSooner, 5, (some .boolean))
theorem kmX12_isSooner : MK mX12_isSooner 4 := ⟨by decide +kernel, tbl_of (List.mem_of_getElem? (i := 1280) (by decide +kernel)) rfl, tbl_of (List.mem_of_getElem? (i := 87) (by decide +kernel)) rfl, by decide +kernel, by decide +kernel, by decide +kernel, rfl⟩
def mX12_isSpread : Mm := (yX12_isSpread, cX12_isSpread, 6, (some .boolean))
theorem kmX12_isSpread : MK mX12_isSpread 1 := ⟨by decide +kernel, tbl_of (List.mem_of_getElem? (i := 1276) (by decide +kernel)) rfl, tbl_of (List.mem_of_getElem? (i := 87) (by decide +kernel)) rfl, by decide +kernel, by decide +kernel, by decide +kernel, rfl⟩
def mX12_sounds : Mm := (yX12_sounds, cX12_sounds, 3, none)
theorem kmX12_sounds : MK mX12_sounds 0 := ⟨by decide +kernel, tbl_of (List.mem_of_getElem? (i := 1267) (by decide +kernel)) rfl, tbl_of (List.mem_of_getElem? (i := 87) (by decide +kernel)) rfl, by decide +kernel, by decide +kernel, by decide +kernel, rfl⟩
def mX12_timeOf : Mm := (yX12_timeOf, cX12_timeOf, 3, (some .int))
theorem kmX12_timeOf : MK mX12_timeOf 2 := ⟨by decide +kernel, tbl_of (List.mem_of_getElem? (i := 1284) (by decide +kernel)) rfl, tbl_of (List.mem_of_getElem? (i := 87) (by decide +kernel)) rfl, by decide +kernel, by decide +kernel, by decide +kernel, rfl⟩
def mX12_spot : Mm := (yX12_spot, cX12_spot, 2, (some .int))
theorem kmX12_spot : MK mX12_spot 1 := ⟨by decide +kernel, tbl_of (List.mem_of_getElem? (i := 1293) (by decide +kernel)) rfl, tbl_of (List.mem_of_getElem? (i := 87) (by decide +kernel)) rfl, by decide +kernel, by decide +kernel, by decide +kernel, rfl⟩
def mX12_time : Mm := (yX12_time, cX12_time, 6, (some .int))
theorem kmX12_time : MK mX12_time 4 := ⟨by decide +kernel, tbl_of (List.mem_of_getElem? (i := 1263) (by decide +kernel)) rfl, tbl_of (List.mem_of_getElem? (i := 87) (by decide +kernel)) rfl, by decide +kernel, by decide +kernel, by decide +kernel, rfl⟩
def mX12_hears : Mm := (yX12_hears, cX12_hears, 5, (some .int))
theorem kmX12_hears : MK mX12_hears 2 := ⟨by decide +kernel, tbl_of (List.mem_of_getElem? (i := 1288) (by decide +kernel)) rfl, tbl_of (List.mem_of_getElem? (i := 87) (by decide +kernel)) rfl, by decide +kernel, by decide +kernel, by decide +kernel, rfl⟩
def mX12_shadow : Mm := (yX12_shadow, cX12_shadow, 4, (some .int))
theorem kmX12_shadow : MK mX12_shadow 1 := ⟨by decide +kernel, tbl_of (List.mem_of_getElem? (i := 1297) (by decide +kernel)) rfl, tbl_of (List.mem_of_getElem? (i := 87) (by decide +kernel)) rfl, by decide +kernel, by decide +kernel, by decide +kernel, rfl⟩
def mX12_heard : Mm := (yX12_heard, cX12_heard, 3, (some .int))
theorem kmX12_heard : MK mX12_heard 2 := ⟨by decide +kernel, tbl_of (List.mem_of_getElem? (i := 1301) (by decide +kernel)) rfl, tbl_of (List.mem_of_getElem? (i := 87) (by decide +kernel)) rfl, by decide +kernel, by decide +kernel, by decide +kernel, rfl⟩
def mX12_hush : Mm := (yX12_hush, cX12_hush, 2, (some .int))
theorem kmX12_hush : MK mX12_hush 0 := ⟨by decide +kernel, tbl_of (List.mem_of_getElem? (i := 1305) (by decide +kernel)) rfl, tbl_of (List.mem_of_getElem? (i := 87) (by decide +kernel)) rfl, by decide +kernel, by decide +kernel, by decide +kernel, rfl⟩
def mX12_isWhence : Mm := (yX12_isWhence, cX12_isWhence, 6, (some .boolean))
theorem kmX12_isWhence : MK mX12_isWhence 1 := ⟨by decide +kernel, tbl_of (List.mem_of_getElem? (i := 1313) (by decide +kernel)) rfl, tbl_of (List.mem_of_getElem? (i := 87) (by decide +kernel)) rfl, by decide +kernel, by decide +kernel, by decide +kernel, rfl⟩
def mX12_whence : Mm := (yX12_whence, cX12_whence, 5, (some .int))
theorem kmX12_whence : MK mX12_whence 1 := ⟨by decide +kernel, tbl_of (List.mem_of_getElem? (i := 1309) (by decide +kernel)) rfl, tbl_of (List.mem_of_getElem? (i := 87) (by decide +kernel)) rfl, by decide +kernel, by decide +kernel, by decide +kernel, rfl⟩
def mX12_isAll : Mm := (yX12_isAll, cX12_isAll, 6, (some .boolean))
theorem kmX12_isAll : MK mX12_isAll 1 := ⟨by decide +kernel, tbl_of (List.mem_of_getElem? (i := 1325) (by decide +kernel)) rfl, tbl_of (List.mem_of_getElem? (i := 87) (by decide +kernel)) rfl, by decide +kernel, by decide +kernel, by decide +kernel, rfl⟩
def mX12_canHang : Mm := (yX12_canHang, cX12_canHang, 5, (some .boolean))
theorem kmX12_canHang : MK mX12_canHang 2 := ⟨by decide +kernel, tbl_of (List.mem_of_getElem? (i := 1333) (by decide +kernel)) rfl, tbl_of (List.mem_of_getElem? (i := 87) (by decide +kernel)) rfl, by decide +kernel, by decide +kernel, by decide +kernel, rfl⟩
def mX12_hangs : Mm := (yX12_hangs, cX12_hangs, 7, (some .int))
theorem kmX12_hangs : MK mX12_hangs 2 := ⟨by decide +kernel, tbl_of (List.mem_of_getElem? (i := 1329) (by decide +kernel)) rfl, tbl_of (List.mem_of_getElem? (i := 87) (by decide +kernel)) rfl, by decide +kernel, by decide +kernel, by decide +kernel, rfl⟩
def mX12_movedOf : Mm := (yX12_movedOf, cX12_movedOf, 5, (some .int))
theorem kmX12_movedOf : MK mX12_movedOf 1 := ⟨by decide +kernel, tbl_of (List.mem_of_getElem? (i := 1321) (by decide +kernel)) rfl, tbl_of (List.mem_of_getElem? (i := 87) (by decide +kernel)) rfl, by decide +kernel, by decide +kernel, by decide +kernel, rfl⟩
def mX12_moved : Mm := (yX12_moved, cX12_moved, 4, (some .int))
theorem kmX12_moved : MK mX12_moved 2 := ⟨by decide +kernel, tbl_of (List.mem_of_getElem? (i := 1317) (by decide +kernel)) rfl, tbl_of (List.mem_of_getElem? (i := 87) (by decide +kernel)) rfl, by decide +kernel, by decide +kernel, by decide +kernel, rfl⟩
def mX12_lands : Mm := (yX12_lands, cX12_lands, 7, (some .int))
theorem kmX12_lands : MK mX12_lands 4 := ⟨by decide +kernel, tbl_of (List.mem_of_getElem? (i := 1345) (by decide +kernel)) rfl, tbl_of (List.mem_of_getElem? (i := 87) (by decide +kernel)) rfl, by decide +kernel, by decide +kernel, by decide +kernel, rfl⟩
def mX12_alone : Mm := (yX12_alone, cX12_alone, 1, none)
theorem kmX12_alone : MK mX12_alone 0 := ⟨by decide +kernel, tbl_of (List.mem_of_getElem? (i := 1341) (by decide +kernel)) rfl, tbl_of (List.mem_of_getElem? (i := 87) (by decide +kernel)) rfl, by decide +kernel, by decide +kernel, by decide +kernel, rfl⟩
def mX12_sent : Mm := (yX12_sent, cX12_sent, 7, (some .int))
theorem kmX12_sent : MK mX12_sent 3 := ⟨by decide +kernel, tbl_of (List.mem_of_getElem? (i := 1337) (by decide +kernel)) rfl, tbl_of (List.mem_of_getElem? (i := 87) (by decide +kernel)) rfl, by decide +kernel, by decide +kernel, by decide +kernel, rfl⟩
def mX12_fall : Mm := (yX12_fall, cX12_fall, 4, (some .int))
theorem kmX12_fall : MK mX12_fall 2 := ⟨by decide +kernel, tbl_of (List.mem_of_getElem? (i := 1349) (by decide +kernel)) rfl, tbl_of (List.mem_of_getElem? (i := 87) (by decide +kernel)) rfl, by decide +kernel, by decide +kernel, by decide +kernel, rfl⟩
def mX12_clearOf : Mm := (yX12_clearOf, cX12_clearOf, 9, (some .int))
theorem kmX12_clearOf : MK mX12_clearOf 2 := ⟨by decide +kernel, tbl_of (List.mem_of_getElem? (i := 1357) (by decide +kernel)) rfl, tbl_of (List.mem_of_getElem? (i := 87) (by decide +kernel)) rfl, by decide +kernel, by decide +kernel, by decide +kernel, rfl⟩
def mX12_clear : Mm := (yX12_clear, cX12_clear, 3, (some .int))
theorem kmX12_clear : MK mX12_clear 2 := ⟨by decide +kernel, tbl_of (List.mem_of_getElem? (i := 1353) (by decide +kernel)) rfl, tbl_of (List.mem_of_getElem? (i := 87) (by decide +kernel)) rfl, by decide +kernel, by decide +kernel, by decide +kernel, rfl⟩
def mX12_gain : Mm := (yX12_gain, cX12_gain, 4, (some .int))
theorem kmX12_gain : MK mX12_gain 1 := ⟨by decide +kernel, tbl_of (List.mem_of_getElem? (i := 1361) (by decide +kernel)) rfl, tbl_of (List.mem_of_getElem? (i := 87) (by decide +kernel)) rfl, by decide +kernel, by decide +kernel, by decide +kernel, rfl⟩
def mX12_drifted : Mm := (yX12_drifted, cX12_drifted, 5, (some .int))
theorem kmX12_drifted : MK mX12_drifted 4 := ⟨by decide +kernel, tbl_of (List.mem_of_getElem? (i := 1365) (by decide +kernel)) rfl, tbl_of (List.mem_of_getElem? (i := 87) (by decide +kernel)) rfl, by decide +kernel, by decide +kernel, by decide +kernel, rfl⟩
def mX12_forget : Mm := (yX12_forget, cX12_forget, 2, (some .int))
theorem kmX12_forget : MK mX12_forget 0 := ⟨by decide +kernel, tbl_of (List.mem_of_getElem? (i := 1370) (by decide +kernel)) rfl, tbl_of (List.mem_of_getElem? (i := 87) (by decide +kernel)) rfl, by decide +kernel, by decide +kernel, by decide +kernel, rfl⟩
def mX12_currents : Mm := (yX12_currents, cX12_currents, 7, (some .int))
theorem kmX12_currents : MK mX12_currents 1 := ⟨by decide +kernel, tbl_of (List.mem_of_getElem? (i := 1374) (by decide +kernel)) rfl, tbl_of (List.mem_of_getElem? (i := 87) (by decide +kernel)) rfl, by decide +kernel, by decide +kernel, by decide +kernel, rfl⟩
def mX12_leak : Mm := (yX12_leak, cX12_leak, 16, (some .long))
theorem kmX12_leak : MK mX12_leak 5 := ⟨by decide +kernel, tbl_of (List.mem_of_getElem? (i := 1378) (by decide +kernel)) rfl, tbl_of (List.mem_of_getElem? (i := 87) (by decide +kernel)) rfl, by decide +kernel, by decide +kernel, by decide +kernel, rfl⟩
def mX12_year : Mm := (yX12_year, cX12_year, 10, (some .int))
theorem kmX12_year : MK mX12_year 3 := ⟨by decide +kernel, tbl_of (List.mem_of_getElem? (i := 1384) (by decide +kernel)) rfl, tbl_of (List.mem_of_getElem? (i := 87) (by decide +kernel)) rfl, by decide +kernel, by decide +kernel, by decide +kernel, rfl⟩
def mX12_keep : Mm := (yX12_keep, cX12_keep, 1, (some .int))
theorem kmX12_keep : MK mX12_keep 0 := ⟨by decide +kernel, tbl_of (List.mem_of_getElem? (i := 1392) (by decide +kernel)) rfl, tbl_of (List.mem_of_getElem? (i := 87) (by decide +kernel)) rfl, by decide +kernel, by decide +kernel, by decide +kernel, rfl⟩
def mX12_back : Mm := (yX12_back, cX12_back, 1, (some .int))
theorem kmX12_back : MK mX12_back 0 := ⟨by decide +kernel, tbl_of (List.mem_of_getElem? (i := 1396) (by decide +kernel)) rfl, tbl_of (List.mem_of_getElem? (i := 87) (by decide +kernel)) rfl, by decide +kernel, by decide +kernel, by decide +kernel, rfl⟩
def mX12_count : Mm := (yX12_count, cX12_count, 2, (some .int))
theorem kmX12_count : MK mX12_count 1 := ⟨by decide +kernel, tbl_of (List.mem_of_getElem? (i := 1400) (by decide +kernel)) rfl, tbl_of (List.mem_of_getElem? (i := 87) (by decide +kernel)) rfl, by decide +kernel, by decide +kernel, by decide +kernel, rfl⟩
def mJ9_max_7cf53 : Mm := (yJ9_max_7cf53, cJ9_max_7cf53, 2, (some .int))
theorem kmJ9_max_7cf53 : MK mJ9_max_7cf53 2 := ⟨by decide +kernel, tbl_of (List.mem_of_getElem? (i := 283) (by decide +kernel)) rfl, tbl_of (List.mem_of_getElem? (i := 76) (by decide +kernel)) rfl, by decide +kernel, by decide +kernel, by decide +kernel, rfl⟩
theorem fa_X9_9 : FA RX9 9 9 0 := ⟨RX9, TX9, 4, tyX9, ck_9, by decide, Or.inl (tbl_of (List.mem_of_getElem? (i := 102) (by decide +kernel)) rfl)⟩
theorem fp_X9_9 : FPR RX9 9 9 0 := ⟨RX9, TX9, 4, tyX9, ck_9, by decide, tbl_of (List.mem_of_getElem? (i := 102) (by decide +kernel)) rfl, Or.inr ⟨_, rfl⟩, Or.inr ⟨rfl, rfl⟩⟩
theorem fa_X9_15 : FA RX9 15 9 1 := ⟨RX9, TX9, 4, tyX9, ck_9, by decide, Or.inl (tbl_of (List.mem_of_getElem? (i := 103) (by decide +kernel)) rfl)⟩
theorem fp_X9_15 : FPR RX9 15 9 1 := ⟨RX9, TX9, 4, tyX9, ck_9, by decide, tbl_of (List.mem_of_getElem? (i := 103) (by decide +kernel)) rfl, Or.inr ⟨_, rfl⟩, Or.inr ⟨rfl, rfl⟩⟩
theorem fa_X9_18 : FA RX9 18 9 2 := ⟨RX9, TX9, 4, tyX9, ck_9, by decide, Or.inl (tbl_of (List.mem_of_getElem? (i := 104) (by decide +kernel)) rfl)⟩
theorem fp_X9_18 : FPI RX9 18 9 2 .int := ⟨RX9, TX9, 4, tyX9, ck_9, by decide, tbl_of (List.mem_of_getElem? (i := 104) (by decide +kernel)) rfl, rfl, rfl⟩
theorem fa_X9_22 : FA RX9 22 9 3 := ⟨RX9, TX9, 4, tyX9, ck_9, by decide, Or.inl (tbl_of (List.mem_of_getElem? (i := 105) (by decide +kernel)) rfl)⟩
theorem fp_X9_22 : FPI RX9 22 9 3 .int := ⟨RX9, TX9, 4, tyX9, ck_9, by decide, tbl_of (List.mem_of_getElem? (i := 105) (by decide +kernel)) rfl, rfl, rfl⟩
theorem fa_X11_115 : FA RX11 115 9 3 := ⟨RX9, TX9, 4, tyX9, ck_9, by decide, Or.inr ⟨"HungFromIce", ntbl_of (List.mem_of_getElem? (i := 106) (by decide +kernel)) rfl⟩⟩
theorem fa_X10_9 : FA RX10 9 10 0 := ⟨RX10, TX10, 17, tyX10, ck_10, by decide, Or.inl (tbl_of (List.mem_of_getElem? (i := 129) (by decide +kernel)) rfl)⟩
theorem fp_X10_9 : FPI RX10 9 10 0 .int := ⟨RX10, TX10, 17, tyX10, ck_10, by decide, tbl_of (List.mem_of_getElem? (i := 129) (by decide +kernel)) rfl, rfl, rfl⟩
theorem fa_X6_33 : FA RX6 33 10 0 := ⟨RX10, TX10, 17, tyX10, ck_10, by decide, Or.inl (tbl_of (List.mem_of_getElem? (i := 130) (by decide +kernel)) rfl)⟩
theorem fp_X6_33 : FPI RX6 33 10 0 .int := ⟨RX10, TX10, 17, tyX10, ck_10, by decide, tbl_of (List.mem_of_getElem? (i := 130) (by decide +kernel)) rfl, rfl, rfl⟩
theorem fa_X2_47 : FA RX2 47 10 0 := ⟨RX10, TX10, 17, tyX10, ck_10, by decide, Or.inl (tbl_of (List.mem_of_getElem? (i := 131) (by decide +kernel)) rfl)⟩
theorem fp_X2_47 : FPI RX2 47 10 0 .int := ⟨RX10, TX10, 17, tyX10, ck_10, by decide, tbl_of (List.mem_of_getElem? (i := 131) (by decide +kernel)) rfl, rfl, rfl⟩
theorem fa_X7_71 : FA RX7 71 10 0 := ⟨RX10, TX10, 17, tyX10, ck_10, by decide, Or.inl (tbl_of (List.mem_of_getElem? (i := 132) (by decide +kernel)) rfl)⟩
theorem fp_X7_71 : FPI RX7 71 10 0 .int := ⟨RX10, TX10, 17, tyX10, ck_10, by decide, tbl_of (List.mem_of_getElem? (i := 132) (by decide +kernel)) rfl, rfl, rfl⟩
theorem fa_X3_94 : FA RX3 94 10 0 := ⟨RX10, TX10, 17, tyX10, ck_10, by decide, Or.inl (tbl_of (List.mem_of_getElem? (i := 133) (by decide +kernel)) rfl)⟩
theorem fp_X3_94 : FPI RX3 94 10 0 .int := ⟨RX10, TX10, 17, tyX10, ck_10, by decide, tbl_of (List.mem_of_getElem? (i := 133) (by decide +kernel)) rfl, rfl, rfl⟩
theorem fa_X11_267 : FA RX11 267 10 0 := ⟨RX10, TX10, 17, tyX10, ck_10, by decide, Or.inl (tbl_of (List.mem_of_getElem? (i := 134) (by decide +kernel)) rfl)⟩
theorem fp_X11_267 : FPI RX11 267 10 0 .int := ⟨RX10, TX10, 17, tyX10, ck_10, by decide, tbl_of (List.mem_of_getElem? (i := 134) (by decide +kernel)) rfl, rfl, rfl⟩
theorem fa_X10_15 : FA RX10 15 10 1 := ⟨RX10, TX10, 17, tyX10, ck_10, by decide, Or.inl (tbl_of (List.mem_of_getElem? (i := 135) (by decide +kernel)) rfl)⟩
theorem fp_X10_15 : FPI RX10 15 10 1 .int := ⟨RX10, TX10, 17, tyX10, ck_10, by decide, tbl_of (List.mem_of_getElem? (i := 135) (by decide +kernel)) rfl, rfl, rfl⟩
theorem fa_X6_29 : FA RX6 29 10 1 := ⟨RX10, TX10, 17, tyX10, ck_10, by decide, Or.inl (tbl_of (List.mem_of_getElem? (i := 136) (by decide +kernel)) rfl)⟩
theorem fp_X6_29 : FPI RX6 29 10 1 .int := ⟨RX10, TX10, 17, tyX10, ck_10, by decide, tbl_of (List.mem_of_getElem? (i := 136) (by decide +kernel)) rfl, rfl, rfl⟩
theorem fa_X2_42 : FA RX2 42 10 1 := ⟨RX10, TX10, 17, tyX10, ck_10, by decide, Or.inl (tbl_of (List.mem_of_getElem? (i := 137) (by decide +kernel)) rfl)⟩
theorem fp_X2_42 : FPI RX2 42 10 1 .int := ⟨RX10, TX10, 17, tyX10, ck_10, by decide, tbl_of (List.mem_of_getElem? (i := 137) (by decide +kernel)) rfl, rfl, rfl⟩
theorem fa_X7_68 : FA RX7 68 10 1 := ⟨RX10, TX10, 17, tyX10, ck_10, by decide, Or.inl (tbl_of (List.mem_of_getElem? (i := 138) (by decide +kernel)) rfl)⟩
theorem fp_X7_68 : FPI RX7 68 10 1 .int := ⟨RX10, TX10, 17, tyX10, ck_10, by decide, tbl_of (List.mem_of_getElem? (i := 138) (by decide +kernel)) rfl, rfl, rfl⟩
theorem fa_X11_125 : FA RX11 125 10 1 := ⟨RX10, TX10, 17, tyX10, ck_10, by decide, Or.inl (tbl_of (List.mem_of_getElem? (i := 139) (by decide +kernel)) rfl)⟩
theorem fp_X11_125 : FPI RX11 125 10 1 .int := ⟨RX10, TX10, 17, tyX10, ck_10, by decide, tbl_of (List.mem_of_getElem? (i := 139) (by decide +kernel)) rfl, rfl, rfl⟩
theorem fa_X10_18 : FA RX10 18 10 2 := ⟨RX10, TX10, 17, tyX10, ck_10, by decide, Or.inl (tbl_of (List.mem_of_getElem? (i := 140) (by decide +kernel)) rfl)⟩
theorem fp_X10_18 : FPR RX10 18 10 2 := ⟨RX10, TX10, 17, tyX10, ck_10, by decide, tbl_of (List.mem_of_getElem? (i := 140) (by decide +kernel)) rfl, Or.inr ⟨_, rfl⟩, Or.inr ⟨rfl, rfl⟩⟩
theorem fa_X11_131 : FA RX11 131 10 2 := ⟨RX10, TX10, 17, tyX10, ck_10, by decide, Or.inl (tbl_of (List.mem_of_getElem? (i := 141) (by decide +kernel)) rfl)⟩
theorem fa_X0_66 : FA RX0 66 10 2 := ⟨RX10, TX10, 17, tyX10, ck_10, by decide, Or.inl (tbl_of (List.mem_of_getElem? (i := 142) (by decide +kernel)) rfl)⟩
theorem fa_X10_22 : FA RX10 22 10 3 := ⟨RX10, TX10, 17, tyX10, ck_10, by decide, Or.inl (tbl_of (List.mem_of_getElem? (i := 143) (by decide +kernel)) rfl)⟩
theorem fp_X10_22 : FPR RX10 22 10 3 := ⟨RX10, TX10, 17, tyX10, ck_10, by decide, tbl_of (List.mem_of_getElem? (i := 143) (by decide +kernel)) rfl, Or.inr ⟨_, rfl⟩, Or.inr ⟨rfl, rfl⟩⟩
theorem fa_X0_61 : FA RX0 61 10 3 := ⟨RX10, TX10, 17, tyX10, ck_10, by decide, Or.inl (tbl_of (List.mem_of_getElem? (i := 144) (by decide +kernel)) rfl)⟩
theorem fa_X11_135 : FA RX11 135 10 3 := ⟨RX10, TX10, 17, tyX10, ck_10, by decide, Or.inl (tbl_of (List.mem_of_getElem? (i := 145) (by decide +kernel)) rfl)⟩
theorem fa_X10_25 : FA RX10 25 10 4 := ⟨RX10, TX10, 17, tyX10, ck_10, by decide, Or.inl (tbl_of (List.mem_of_getElem? (i := 146) (by decide +kernel)) rfl)⟩
theorem fp_X10_25 : FPR RX10 25 10 4 := ⟨RX10, TX10, 17, tyX10, ck_10, by decide, tbl_of (List.mem_of_getElem? (i := 146) (by decide +kernel)) rfl, Or.inr ⟨_, rfl⟩, Or.inr ⟨rfl, rfl⟩⟩
theorem fa_X11_138 : FA RX11 138 10 4 := ⟨RX10, TX10, 17, tyX10, ck_10, by decide, Or.inl (tbl_of (List.mem_of_getElem? (i := 147) (by decide +kernel)) rfl)⟩
theorem fa_X7_81 : FA RX7 81 10 4 := ⟨RX10, TX10, 17, tyX10, ck_10, by decide, Or.inl (tbl_of (List.mem_of_getElem? (i := 148) (by decide +kernel)) rfl)⟩
theorem fa_X10_28 : FA RX10 28 10 5 := ⟨RX10, TX10, 17, tyX10, ck_10, by decide, Or.inl (tbl_of (List.mem_of_getElem? (i := 149) (by decide +kernel)) rfl)⟩
theorem fp_X10_28 : FPI RX10 28 10 5 .int := ⟨RX10, TX10, 17, tyX10, ck_10, by decide, tbl_of (List.mem_of_getElem? (i := 149) (by decide +kernel)) rfl, rfl, rfl⟩
theorem fa_X3_48 : FA RX3 48 10 5 := ⟨RX10, TX10, 17, tyX10, ck_10, by decide, Or.inl (tbl_of (List.mem_of_getElem? (i := 150) (by decide +kernel)) rfl)⟩
theorem fp_X3_48 : FPI RX3 48 10 5 .int := ⟨RX10, TX10, 17, tyX10, ck_10, by decide, tbl_of (List.mem_of_getElem? (i := 150) (by decide +kernel)) rfl, rfl, rfl⟩
theorem fa_X6_36 : FA RX6 36 10 5 := ⟨RX10, TX10, 17, tyX10, ck_10, by decide, Or.inl (tbl_of (List.mem_of_getElem? (i := 151) (by decide +kernel)) rfl)⟩
theorem fp_X6_36 : FPI RX6 36 10 5 .int := ⟨RX10, TX10, 17, tyX10, ck_10, by decide, tbl_of (List.mem_of_getElem? (i := 151) (by decide +kernel)) rfl, rfl, rfl⟩
theorem fa_X11_264 : FA RX11 264 10 5 := ⟨RX10, TX10, 17, tyX10, ck_10, by decide, Or.inl (tbl_of (List.mem_of_getElem? (i := 152) (by decide +kernel)) rfl)⟩
theorem fp_X11_264 : FPI RX11 264 10 5 .int := ⟨RX10, TX10, 17, tyX10, ck_10, by decide, tbl_of (List.mem_of_getElem? (i := 152) (by decide +kernel)) rfl, rfl, rfl⟩
theorem fa_X10_31 : FA RX10 31 10 6 := ⟨RX10, TX10, 17, tyX10, ck_10, by decide, Or.inl (tbl_of (List.mem_of_getElem? (i := 153) (by decide +kernel)) rfl)⟩
theorem fp_X10_31 : FPR RX10 31 10 6 := ⟨RX10, TX10, 17, tyX10, ck_10, by decide, tbl_of (List.mem_of_getElem? (i := 153) (by decide +kernel)) rfl, Or.inr ⟨_, rfl⟩, Or.inr ⟨rfl, rfl⟩⟩
theorem fa_X3_101 : FA RX3 101 10 6 := ⟨RX10, TX10, 17, tyX10, ck_10, by decide, Or.inl (tbl_of (List.mem_of_getElem? (i := 154) (by decide +kernel)) rfl)⟩
theorem fa_X6_42 : FA RX6 42 10 6 := ⟨RX10, TX10, 17, tyX10, ck_10, by decide, Or.inl (tbl_of (List.mem_of_getElem? (i := 155) (by decide +kernel)) rfl)⟩
theorem fa_X11_144 : FA RX11 144 10 6 := ⟨RX10, TX10, 17, tyX10, ck_10, by decide, Or.inl (tbl_of (List.mem_of_getElem? (i := 156) (by decide +kernel)) rfl)⟩
theorem fa_X10_34 : FA RX10 34 10 7 := ⟨RX10, TX10, 17, tyX10, ck_10, by decide, Or.inl (tbl_of (List.mem_of_getElem? (i := 157) (by decide +kernel)) rfl)⟩
theorem fp_X10_34 : FPR RX10 34 10 7 := ⟨RX10, TX10, 17, tyX10, ck_10, by decide, tbl_of (List.mem_of_getElem? (i := 157) (by decide +kernel)) rfl, Or.inr ⟨_, rfl⟩, Or.inr ⟨rfl, rfl⟩⟩
theorem fa_X8_38 : FA RX8 38 10 7 := ⟨RX10, TX10, 17, tyX10, ck_10, by decide, Or.inl (tbl_of (List.mem_of_getElem? (i := 158) (by decide +kernel)) rfl)⟩
theorem fa_X10_37 : FA RX10 37 10 8 := ⟨RX10, TX10, 17, tyX10, ck_10, by decide, Or.inl (tbl_of (List.mem_of_getElem? (i := 159) (by decide +kernel)) rfl)⟩
theorem fp_X10_37 : FPR RX10 37 10 8 := ⟨RX10, TX10, 17, tyX10, ck_10, by decide, tbl_of (List.mem_of_getElem? (i := 159) (by decide +kernel)) rfl, Or.inr ⟨_, rfl⟩, Or.inr ⟨rfl, rfl⟩⟩
theorem fa_X11_156 : FA RX11 156 10 8 := ⟨RX10, TX10, 17, tyX10, ck_10, by decide, Or.inl (tbl_of (List.mem_of_getElem? (i := 160) (by decide +kernel)) rfl)⟩
theorem fa_X10_40 : FA RX10 40 10 9 := ⟨RX10, TX10, 17, tyX10, ck_10, by decide, Or.inl (tbl_of (List.mem_of_getElem? (i := 161) (by decide +kernel)) rfl)⟩
theorem fp_X10_40 : FPR RX10 40 10 9 := ⟨RX10, TX10, 17, tyX10, ck_10, by decide, tbl_of (List.mem_of_getElem? (i := 161) (by decide +kernel)) rfl, Or.inr ⟨_, rfl⟩, Or.inr ⟨rfl, rfl⟩⟩
theorem fa_X11_159 : FA RX11 159 10 9 := ⟨RX10, TX10, 17, tyX10, ck_10, by decide, Or.inl (tbl_of (List.mem_of_getElem? (i := 162) (by decide +kernel)) rfl)⟩
theorem fa_X10_43 : FA RX10 43 10 10 := ⟨RX10, TX10, 17, tyX10, ck_10, by decide, Or.inl (tbl_of (List.mem_of_getElem? (i := 163) (by decide +kernel)) rfl)⟩
theorem fp_X10_43 : FPI RX10 43 10 10 .int := ⟨RX10, TX10, 17, tyX10, ck_10, by decide, tbl_of (List.mem_of_getElem? (i := 163) (by decide +kernel)) rfl, rfl, rfl⟩
theorem fa_X7_43 : FA RX7 43 10 10 := ⟨RX10, TX10, 17, tyX10, ck_10, by decide, Or.inl (tbl_of (List.mem_of_getElem? (i := 164) (by decide +kernel)) rfl)⟩
theorem fp_X7_43 : FPI RX7 43 10 10 .int := ⟨RX10, TX10, 17, tyX10, ck_10, by decide, tbl_of (List.mem_of_getElem? (i := 164) (by decide +kernel)) rfl, rfl, rfl⟩
theorem fa_X10_46 : FA RX10 46 10 11 := ⟨RX10, TX10, 17, tyX10, ck_10, by decide, Or.inl (tbl_of (List.mem_of_getElem? (i := 165) (by decide +kernel)) rfl)⟩
theorem fp_X10_46 : FPR RX10 46 10 11 := ⟨RX10, TX10, 17, tyX10, ck_10, by decide, tbl_of (List.mem_of_getElem? (i := 165) (by decide +kernel)) rfl, Or.inr ⟨_, rfl⟩, Or.inr ⟨rfl, rfl⟩⟩
theorem fa_X7_49 : FA RX7 49 10 11 := ⟨RX10, TX10, 17, tyX10, ck_10, by decide, Or.inl (tbl_of (List.mem_of_getElem? (i := 166) (by decide +kernel)) rfl)⟩
theorem fa_X10_49 : FA RX10 49 10 12 := ⟨RX10, TX10, 17, tyX10, ck_10, by decide, Or.inl (tbl_of (List.mem_of_getElem? (i := 167) (by decide +kernel)) rfl)⟩
theorem fp_X10_49 : FPR RX10 49 10 12 := ⟨RX10, TX10, 17, tyX10, ck_10, by decide, tbl_of (List.mem_of_getElem? (i := 167) (by decide +kernel)) rfl, Or.inr ⟨_, rfl⟩, Or.inr ⟨rfl, rfl⟩⟩
theorem fa_X7_53 : FA RX7 53 10 12 := ⟨RX10, TX10, 17, tyX10, ck_10, by decide, Or.inl (tbl_of (List.mem_of_getElem? (i := 168) (by decide +kernel)) rfl)⟩
theorem fa_X10_52 : FA RX10 52 10 13 := ⟨RX10, TX10, 17, tyX10, ck_10, by decide, Or.inl (tbl_of (List.mem_of_getElem? (i := 169) (by decide +kernel)) rfl)⟩
theorem fp_X10_52 : FPI RX10 52 10 13 .int := ⟨RX10, TX10, 17, tyX10, ck_10, by decide, tbl_of (List.mem_of_getElem? (i := 169) (by decide +kernel)) rfl, rfl, rfl⟩
theorem fa_X8_41 : FA RX8 41 10 13 := ⟨RX10, TX10, 17, tyX10, ck_10, by decide, Or.inl (tbl_of (List.mem_of_getElem? (i := 170) (by decide +kernel)) rfl)⟩
theorem fp_X8_41 : FPI RX8 41 10 13 .int := ⟨RX10, TX10, 17, tyX10, ck_10, by decide, tbl_of (List.mem_of_getElem? (i := 170) (by decide +kernel)) rfl, rfl, rfl⟩
theorem fa_X10_55 : FA RX10 55 10 14 := ⟨RX10, TX10, 17, tyX10, ck_10, by decide, Or.inl (tbl_of (List.mem_of_getElem? (i := 171) (by decide +kernel)) rfl)⟩
theorem fp_X10_55 : FPR RX10 55 10 14 := ⟨RX10, TX10, 17, tyX10, ck_10, by decide, tbl_of (List.mem_of_getElem? (i := 171) (by decide +kernel)) rfl, Or.inr ⟨_, rfl⟩, Or.inr ⟨rfl, rfl⟩⟩
theorem fa_X8_42 : FA RX8 42 10 14 := ⟨RX10, TX10, 17, tyX10, ck_10, by decide, Or.inl (tbl_of (List.mem_of_getElem? (i := 172) (by decide +kernel)) rfl)⟩
theorem fa_X10_58 : FA RX10 58 10 15 := ⟨RX10, TX10, 17, tyX10, ck_10, by decide, Or.inl (tbl_of (List.mem_of_getElem? (i := 173) (by decide +kernel)) rfl)⟩
theorem fp_X10_58 : FPR RX10 58 10 15 := ⟨RX10, TX10, 17, tyX10, ck_10, by decide, tbl_of (List.mem_of_getElem? (i := 173) (by decide +kernel)) rfl, Or.inr ⟨_, rfl⟩, Or.inr ⟨rfl, rfl⟩⟩
theorem fa_X8_43 : FA RX8 43 10 15 := ⟨RX10, TX10, 17, tyX10, ck_10, by decide, Or.inl (tbl_of (List.mem_of_getElem? (i := 174) (by decide +kernel)) rfl)⟩
theorem fa_X10_61 : FA RX10 61 10 16 := ⟨RX10, TX10, 17, tyX10, ck_10, by decide, Or.inl (tbl_of (List.mem_of_getElem? (i := 175) (by decide +kernel)) rfl)⟩
theorem fp_X10_61 : FPR RX10 61 10 16 := ⟨RX10, TX10, 17, tyX10, ck_10, by decide, tbl_of (List.mem_of_getElem? (i := 175) (by decide +kernel)) rfl, Or.inr ⟨_, rfl⟩, Or.inr ⟨rfl, rfl⟩⟩
theorem fa_X8_44 : FA RX8 44 10 16 := ⟨RX10, TX10, 17, tyX10, ck_10, by decide, Or.inl (tbl_of (List.mem_of_getElem? (i := 176) (by decide +kernel)) rfl)⟩
theorem fa_X8_9 : FA RX8 9 8 0 := ⟨RX8, TX8, 8, tyX8, ck_8, by decide, Or.inl (tbl_of (List.mem_of_getElem? (i := 218) (by decide +kernel)) rfl)⟩
theorem fp_X8_9 : FPI RX8 9 8 0 .int := ⟨RX8, TX8, 8, tyX8, ck_8, by decide, tbl_of (List.mem_of_getElem? (i := 218) (by decide +kernel)) rfl, rfl, rfl⟩
theorem fa_X11_181 : FA RX11 181 8 0 := ⟨RX8, TX8, 8, tyX8, ck_8, by decide, Or.inl (tbl_of (List.mem_of_getElem? (i := 219) (by decide +kernel)) rfl)⟩
theorem fp_X11_181 : FPI RX11 181 8 0 .int := ⟨RX8, TX8, 8, tyX8, ck_8, by decide, tbl_of (List.mem_of_getElem? (i := 219) (by decide +kernel)) rfl, rfl, rfl⟩
theorem fa_X8_15 : FA RX8 15 8 1 := ⟨RX8, TX8, 8, tyX8, ck_8, by decide, Or.inl (tbl_of (List.mem_of_getElem? (i := 220) (by decide +kernel)) rfl)⟩
theorem fp_X8_15 : FPI RX8 15 8 1 .int := ⟨RX8, TX8, 8, tyX8, ck_8, by decide, tbl_of (List.mem_of_getElem? (i := 220) (by decide +kernel)) rfl, rfl, rfl⟩
theorem fa_X6_39 : FA RX6 39 8 1 := ⟨RX8, TX8, 8, tyX8, ck_8, by decide, Or.inl (tbl_of (List.mem_of_getElem? (i := 221) (by decide +kernel)) rfl)⟩
theorem fp_X6_39 : FPI RX6 39 8 1 .int := ⟨RX8, TX8, 8, tyX8, ck_8, by decide, tbl_of (List.mem_of_getElem? (i := 221) (by decide +kernel)) rfl, rfl, rfl⟩
theorem fa_X11_188 : FA RX11 188 8 1 := ⟨RX8, TX8, 8, tyX8, ck_8, by decide, Or.inl (tbl_of (List.mem_of_getElem? (i := 222) (by decide +kernel)) rfl)⟩
theorem fp_X11_188 : FPI RX11 188 8 1 .int := ⟨RX8, TX8, 8, tyX8, ck_8, by decide, tbl_of (List.mem_of_getElem? (i := 222) (by decide +kernel)) rfl, rfl, rfl⟩
theorem fa_X8_18 : FA RX8 18 8 2 := ⟨RX8, TX8, 8, tyX8, ck_8, by decide, Or.inl (tbl_of (List.mem_of_getElem? (i := 223) (by decide +kernel)) rfl)⟩
theorem fp_X8_18 : FPR RX8 18 8 2 := ⟨RX8, TX8, 8, tyX8, ck_8, by decide, tbl_of (List.mem_of_getElem? (i := 223) (by decide +kernel)) rfl, Or.inr ⟨_, rfl⟩, Or.inr ⟨rfl, rfl⟩⟩
theorem fa_X6_46 : FA RX6 46 8 2 := ⟨RX8, TX8, 8, tyX8, ck_8, by decide, Or.inl (tbl_of (List.mem_of_getElem? (i := 224) (by decide +kernel)) rfl)⟩
theorem fa_X11_151 : FA RX11 151 8 2 := ⟨RX8, TX8, 8, tyX8, ck_8, by decide, Or.inl (tbl_of (List.mem_of_getElem? (i := 225) (by decide +kernel)) rfl)⟩
theorem fa_X8_22 : FA RX8 22 8 3 := ⟨RX8, TX8, 8, tyX8, ck_8, by decide, Or.inl (tbl_of (List.mem_of_getElem? (i := 226) (by decide +kernel)) rfl)⟩
theorem fp_X8_22 : FPR RX8 22 8 3 := ⟨RX8, TX8, 8, tyX8, ck_8, by decide, tbl_of (List.mem_of_getElem? (i := 226) (by decide +kernel)) rfl, Or.inr ⟨_, rfl⟩, Or.inr ⟨rfl, rfl⟩⟩
theorem fa_X3_85 : FA RX3 85 8 3 := ⟨RX8, TX8, 8, tyX8, ck_8, by decide, Or.inl (tbl_of (List.mem_of_getElem? (i := 227) (by decide +kernel)) rfl)⟩
theorem fa_X11_162 : FA RX11 162 8 3 := ⟨RX8, TX8, 8, tyX8, ck_8, by decide, Or.inl (tbl_of (List.mem_of_getElem? (i := 228) (by decide +kernel)) rfl)⟩
theorem fa_X6_53 : FA RX6 53 8 3 := ⟨RX8, TX8, 8, tyX8, ck_8, by decide, Or.inl (tbl_of (List.mem_of_getElem? (i := 229) (by decide +kernel)) rfl)⟩
theorem fa_X8_26 : FA RX8 26 8 4 := ⟨RX8, TX8, 8, tyX8, ck_8, by decide, Or.inl (tbl_of (List.mem_of_getElem? (i := 230) (by decide +kernel)) rfl)⟩
theorem fp_X8_26 : FPR RX8 26 8 4 := ⟨RX8, TX8, 8, tyX8, ck_8, by decide, tbl_of (List.mem_of_getElem? (i := 230) (by decide +kernel)) rfl, Or.inr ⟨_, rfl⟩, Or.inr ⟨rfl, rfl⟩⟩
theorem fa_X0_34 : FA RX0 34 8 4 := ⟨RX8, TX8, 8, tyX8, ck_8, by decide, Or.inl (tbl_of (List.mem_of_getElem? (i := 231) (by decide +kernel)) rfl)⟩
theorem fa_X11_169 : FA RX11 169 8 4 := ⟨RX8, TX8, 8, tyX8, ck_8, by decide, Or.inl (tbl_of (List.mem_of_getElem? (i := 232) (by decide +kernel)) rfl)⟩
theorem fa_X8_29 : FA RX8 29 8 5 := ⟨RX8, TX8, 8, tyX8, ck_8, by decide, Or.inl (tbl_of (List.mem_of_getElem? (i := 233) (by decide +kernel)) rfl)⟩
theorem fp_X8_29 : FPR RX8 29 8 5 := ⟨RX8, TX8, 8, tyX8, ck_8, by decide, tbl_of (List.mem_of_getElem? (i := 233) (by decide +kernel)) rfl, Or.inr ⟨_, rfl⟩, Or.inr ⟨rfl, rfl⟩⟩
theorem fa_X0_40 : FA RX0 40 8 5 := ⟨RX8, TX8, 8, tyX8, ck_8, by decide, Or.inl (tbl_of (List.mem_of_getElem? (i := 234) (by decide +kernel)) rfl)⟩
theorem fa_X11_172 : FA RX11 172 8 5 := ⟨RX8, TX8, 8, tyX8, ck_8, by decide, Or.inl (tbl_of (List.mem_of_getElem? (i := 235) (by decide +kernel)) rfl)⟩
theorem fa_X8_32 : FA RX8 32 8 6 := ⟨RX8, TX8, 8, tyX8, ck_8, by decide, Or.inl (tbl_of (List.mem_of_getElem? (i := 236) (by decide +kernel)) rfl)⟩
theorem fp_X8_32 : FPR RX8 32 8 6 := ⟨RX8, TX8, 8, tyX8, ck_8, by decide, tbl_of (List.mem_of_getElem? (i := 236) (by decide +kernel)) rfl, Or.inr ⟨_, rfl⟩, Or.inr ⟨rfl, rfl⟩⟩
theorem fa_X0_43 : FA RX0 43 8 6 := ⟨RX8, TX8, 8, tyX8, ck_8, by decide, Or.inl (tbl_of (List.mem_of_getElem? (i := 237) (by decide +kernel)) rfl)⟩
theorem fa_X11_175 : FA RX11 175 8 6 := ⟨RX8, TX8, 8, tyX8, ck_8, by decide, Or.inl (tbl_of (List.mem_of_getElem? (i := 238) (by decide +kernel)) rfl)⟩
theorem fa_X8_35 : FA RX8 35 8 7 := ⟨RX8, TX8, 8, tyX8, ck_8, by decide, Or.inl (tbl_of (List.mem_of_getElem? (i := 239) (by decide +kernel)) rfl)⟩
theorem fp_X8_35 : FPR RX8 35 8 7 := ⟨RX8, TX8, 8, tyX8, ck_8, by decide, tbl_of (List.mem_of_getElem? (i := 239) (by decide +kernel)) rfl, Or.inr ⟨_, rfl⟩, Or.inr ⟨rfl, rfl⟩⟩
theorem fa_X0_50 : FA RX0 50 8 7 := ⟨RX8, TX8, 8, tyX8, ck_8, by decide, Or.inl (tbl_of (List.mem_of_getElem? (i := 240) (by decide +kernel)) rfl)⟩
theorem fa_X11_178 : FA RX11 178 8 7 := ⟨RX8, TX8, 8, tyX8, ck_8, by decide, Or.inl (tbl_of (List.mem_of_getElem? (i := 241) (by decide +kernel)) rfl)⟩
theorem fa_X6_12 : FA RX6 12 6 0 := ⟨RX6, TX6, 2, tyX6, ck_6, by decide, Or.inl (tbl_of (List.mem_of_getElem? (i := 260) (by decide +kernel)) rfl)⟩
theorem fp_X6_12 : FPR RX6 12 6 0 := ⟨RX6, TX6, 2, tyX6, ck_6, by decide, tbl_of (List.mem_of_getElem? (i := 260) (by decide +kernel)) rfl, Or.inl ⟨_, rfl⟩, Or.inl rfl⟩
theorem fa_X3_42 : FA RX3 42 6 0 := ⟨RX6, TX6, 2, tyX6, ck_6, by decide, Or.inl (tbl_of (List.mem_of_getElem? (i := 261) (by decide +kernel)) rfl)⟩
theorem fp_X3_42 : FPR RX3 42 6 0 := ⟨RX6, TX6, 2, tyX6, ck_6, by decide, tbl_of (List.mem_of_getElem? (i := 261) (by decide +kernel)) rfl, Or.inl ⟨_, rfl⟩, Or.inl rfl⟩
theorem fa_X7_37 : FA RX7 37 6 0 := ⟨RX6, TX6, 2, tyX6, ck_6, by decide, Or.inl (tbl_of (List.mem_of_getElem? (i := 262) (by decide +kernel)) rfl)⟩
theorem fp_X7_37 : FPR RX7 37 6 0 := ⟨RX6, TX6, 2, tyX6, ck_6, by decide, tbl_of (List.mem_of_getElem? (i := 262) (by decide +kernel)) rfl, Or.inl ⟨_, rfl⟩, Or.inl rfl⟩
theorem fa_X2_36 : FA RX2 36 6 0 := ⟨RX6, TX6, 2, tyX6, ck_6, by decide, Or.inl (tbl_of (List.mem_of_getElem? (i := 263) (by decide +kernel)) rfl)⟩
theorem fp_X2_36 : FPR RX2 36 6 0 := ⟨RX6, TX6, 2, tyX6, ck_6, by decide, tbl_of (List.mem_of_getElem? (i := 263) (by decide +kernel)) rfl, Or.inl ⟨_, rfl⟩, Or.inl rfl⟩
theorem fa_X11_122 : FA RX11 122 6 0 := ⟨RX6, TX6, 2, tyX6, ck_6, by decide, Or.inl (tbl_of (List.mem_of_getElem? (i := 264) (by decide +kernel)) rfl)⟩
theorem fp_X11_122 : FPR RX11 122 6 0 := ⟨RX6, TX6, 2, tyX6, ck_6, by decide, tbl_of (List.mem_of_getElem? (i := 264) (by decide +kernel)) rfl, Or.inl ⟨_, rfl⟩, Or.inl rfl⟩
theorem fa_X0_57 : FA RX0 57 6 0 := ⟨RX6, TX6, 2, tyX6, ck_6, by decide, Or.inl (tbl_of (List.mem_of_getElem? (i := 265) (by decide +kernel)) rfl)⟩
theorem fp_X0_57 : FPR RX0 57 6 0 := ⟨RX6, TX6, 2, tyX6, ck_6, by decide, tbl_of (List.mem_of_getElem? (i := 265) (by decide +kernel)) rfl, Or.inl ⟨_, rfl⟩, Or.inl rfl⟩
theorem fa_X6_21 : FA RX6 21 6 1 := ⟨RX6, TX6, 2, tyX6, ck_6, by decide, Or.inl (tbl_of (List.mem_of_getElem? (i := 266) (by decide +kernel)) rfl)⟩
theorem fp_X6_21 : FPR RX6 21 6 1 := ⟨RX6, TX6, 2, tyX6, ck_6, by decide, tbl_of (List.mem_of_getElem? (i := 266) (by decide +kernel)) rfl, Or.inl ⟨_, rfl⟩, Or.inr ⟨rfl, rfl⟩⟩
theorem fa_X0_28 : FA RX0 28 6 1 := ⟨RX6, TX6, 2, tyX6, ck_6, by decide, Or.inl (tbl_of (List.mem_of_getElem? (i := 267) (by decide +kernel)) rfl)⟩
theorem fa_X3_81 : FA RX3 81 6 1 := ⟨RX6, TX6, 2, tyX6, ck_6, by decide, Or.inl (tbl_of (List.mem_of_getElem? (i := 268) (by decide +kernel)) rfl)⟩
theorem fa_X11_147 : FA RX11 147 6 1 := ⟨RX6, TX6, 2, tyX6, ck_6, by decide, Or.inl (tbl_of (List.mem_of_getElem? (i := 269) (by decide +kernel)) rfl)⟩
theorem fa_X4_24 : FA RX4 24 4 0 := ⟨RX4, TX4, 3, tyX4, ck_4, by decide, Or.inl (tbl_of (List.mem_of_getElem? (i := 287) (by decide +kernel)) rfl)⟩
theorem fp_X4_24 : FPR RX4 24 4 0 := ⟨RX4, TX4, 3, tyX4, ck_4, by decide, tbl_of (List.mem_of_getElem? (i := 287) (by decide +kernel)) rfl, Or.inr ⟨_, rfl⟩, Or.inr ⟨rfl, rfl⟩⟩
theorem fa_X4_7 : FA RX4 7 4 1 := ⟨RX4, TX4, 3, tyX4, ck_4, by decide, Or.inl (tbl_of (List.mem_of_getElem? (i := 288) (by decide +kernel)) rfl)⟩
theorem fp_X4_7 : FPI RX4 7 4 1 .int := ⟨RX4, TX4, 3, tyX4, ck_4, by decide, tbl_of (List.mem_of_getElem? (i := 288) (by decide +kernel)) rfl, rfl, rfl⟩
theorem fa_X4_13 : FA RX4 13 4 2 := ⟨RX4, TX4, 3, tyX4, ck_4, by decide, Or.inl (tbl_of (List.mem_of_getElem? (i := 289) (by decide +kernel)) rfl)⟩
theorem fp_X4_13 : FPI RX4 13 4 2 .int := ⟨RX4, TX4, 3, tyX4, ck_4, by decide, tbl_of (List.mem_of_getElem? (i := 289) (by decide +kernel)) rfl, rfl, rfl⟩
theorem fa_X11_228 : FA RX11 228 4 2 := ⟨RX4, TX4, 3, tyX4, ck_4, by decide, Or.inl (tbl_of (List.mem_of_getElem? (i := 290) (by decide +kernel)) rfl)⟩
theorem fp_X11_228 : FPI RX11 228 4 2 .int := ⟨RX4, TX4, 3, tyX4, ck_4, by decide, tbl_of (List.mem_of_getElem? (i := 290) (by decide +kernel)) rfl, rfl, rfl⟩
theorem fa_X0_24 : FA RX0 24 0 0 := ⟨RX0, TX0, 5, tyX0, ck_0, by decide, Or.inl (tbl_of (List.mem_of_getElem? (i := 304) (by decide +kernel)) rfl)⟩
theorem fp_X0_24 : FPR RX0 24 0 0 := ⟨RX0, TX0, 5, tyX0, ck_0, by decide, tbl_of (List.mem_of_getElem? (i := 304) (by decide +kernel)) rfl, Or.inl ⟨_, rfl⟩, Or.inr ⟨rfl, rfl⟩⟩
theorem fa_X0_9 : FA RX0 9 0 1 := ⟨RX0, TX0, 5, tyX0, ck_0, by decide, Or.inl (tbl_of (List.mem_of_getElem? (i := 305) (by decide +kernel)) rfl)⟩
theorem fp_X0_9 : FPI RX0 9 0 1 .int := ⟨RX0, TX0, 5, tyX0, ck_0, by decide, tbl_of (List.mem_of_getElem? (i := 305) (by decide +kernel)) rfl, rfl, rfl⟩
theorem fa_X11_231 : FA RX11 231 0 1 := ⟨RX0, TX0, 5, tyX0, ck_0, by decide, Or.inl (tbl_of (List.mem_of_getElem? (i := 306) (by decide +kernel)) rfl)⟩
theorem fp_X11_231 : FPI RX11 231 0 1 .int := ⟨RX0, TX0, 5, tyX0, ck_0, by decide, tbl_of (List.mem_of_getElem? (i := 306) (by decide +kernel)) rfl, rfl, rfl⟩
theorem fa_X0_15 : FA RX0 15 0 2 := ⟨RX0, TX0, 5, tyX0, ck_0, by decide, Or.inl (tbl_of (List.mem_of_getElem? (i := 307) (by decide +kernel)) rfl)⟩
theorem fp_X0_15 : FPI RX0 15 0 2 .int := ⟨RX0, TX0, 5, tyX0, ck_0, by decide, tbl_of (List.mem_of_getElem? (i := 307) (by decide +kernel)) rfl, rfl, rfl⟩
theorem fa_X11_234 : FA RX11 234 0 2 := ⟨RX0, TX0, 5, tyX0, ck_0, by decide, Or.inl (tbl_of (List.mem_of_getElem? (i := 308) (by decide +kernel)) rfl)⟩
theorem fp_X11_234 : FPI RX11 234 0 2 .int := ⟨RX0, TX0, 5, tyX0, ck_0, by decide, tbl_of (List.mem_of_getElem? (i := 308) (by decide +kernel)) rfl, rfl, rfl⟩
theorem fa_X0_18 : FA RX0 18 0 3 := ⟨RX0, TX0, 5, tyX0, ck_0, by decide, Or.inl (tbl_of (List.mem_of_getElem? (i := 309) (by decide +kernel)) rfl)⟩
theorem fp_X0_18 : FPI RX0 18 0 3 .int := ⟨RX0, TX0, 5, tyX0, ck_0, by decide, tbl_of (List.mem_of_getElem? (i := 309) (by decide +kernel)) rfl, rfl, rfl⟩
theorem fa_X0_21 : FA RX0 21 0 4 := ⟨RX0, TX0, 5, tyX0, ck_0, by decide, Or.inl (tbl_of (List.mem_of_getElem? (i := 310) (by decide +kernel)) rfl)⟩
theorem fp_X0_21 : FPI RX0 21 0 4 .int := ⟨RX0, TX0, 5, tyX0, ck_0, by decide, tbl_of (List.mem_of_getElem? (i := 310) (by decide +kernel)) rfl, rfl, rfl⟩
theorem fa_X11_237 : FA RX11 237 0 4 := ⟨RX0, TX0, 5, tyX0, ck_0, by decide, Or.inl (tbl_of (List.mem_of_getElem? (i := 311) (by decide +kernel)) rfl)⟩
theorem fp_X11_237 : FPI RX11 237 0 4 .int := ⟨RX0, TX0, 5, tyX0, ck_0, by decide, tbl_of (List.mem_of_getElem? (i := 311) (by decide +kernel)) rfl, rfl, rfl⟩
theorem fa_X5_9 : FA RX5 9 5 0 := ⟨RX5, TX5, 2, tyX5, ck_5, by decide, Or.inl (tbl_of (List.mem_of_getElem? (i := 336) (by decide +kernel)) rfl)⟩
theorem fp_X5_9 : FPR RX5 9 5 0 := ⟨RX5, TX5, 2, tyX5, ck_5, by decide, tbl_of (List.mem_of_getElem? (i := 336) (by decide +kernel)) rfl, Or.inr ⟨_, rfl⟩, Or.inr ⟨rfl, rfl⟩⟩
theorem fa_X7_74 : FA RX7 74 5 0 := ⟨RX5, TX5, 2, tyX5, ck_5, by decide, Or.inl (tbl_of (List.mem_of_getElem? (i := 337) (by decide +kernel)) rfl)⟩
theorem fa_X3_120 : FA RX3 120 5 0 := ⟨RX5, TX5, 2, tyX5, ck_5, by decide, Or.inl (tbl_of (List.mem_of_getElem? (i := 338) (by decide +kernel)) rfl)⟩
theorem fa_X5_15 : FA RX5 15 5 1 := ⟨RX5, TX5, 2, tyX5, ck_5, by decide, Or.inl (tbl_of (List.mem_of_getElem? (i := 339) (by decide +kernel)) rfl)⟩
theorem fp_X5_15 : FPI RX5 15 5 1 .boolean := ⟨RX5, TX5, 2, tyX5, ck_5, by decide, tbl_of (List.mem_of_getElem? (i := 339) (by decide +kernel)) rfl, rfl, rfl⟩
theorem fa_X7_33 : FA RX7 33 5 1 := ⟨RX5, TX5, 2, tyX5, ck_5, by decide, Or.inl (tbl_of (List.mem_of_getElem? (i := 340) (by decide +kernel)) rfl)⟩
theorem fp_X7_33 : FPI RX7 33 5 1 .boolean := ⟨RX5, TX5, 2, tyX5, ck_5, by decide, tbl_of (List.mem_of_getElem? (i := 340) (by decide +kernel)) rfl, rfl, rfl⟩
theorem fa_X7_26 : FA RX7 26 7 0 := ⟨RX7, TX7, 4, tyX7, ck_7, by decide, Or.inl (tbl_of (List.mem_of_getElem? (i := 351) (by decide +kernel)) rfl)⟩
theorem fp_X7_26 : FPR RX7 26 7 0 := ⟨RX7, TX7, 4, tyX7, ck_7, by decide, tbl_of (List.mem_of_getElem? (i := 351) (by decide +kernel)) rfl, Or.inl ⟨_, rfl⟩, Or.inr ⟨rfl, rfl⟩⟩
theorem fa_X7_11 : FA RX7 11 7 1 := ⟨RX7, TX7, 4, tyX7, ck_7, by decide, Or.inl (tbl_of (List.mem_of_getElem? (i := 352) (by decide +kernel)) rfl)⟩
theorem fp_X7_11 : FPR RX7 11 7 1 := ⟨RX7, TX7, 4, tyX7, ck_7, by decide, tbl_of (List.mem_of_getElem? (i := 352) (by decide +kernel)) rfl, Or.inr ⟨_, rfl⟩, Or.inr ⟨rfl, rfl⟩⟩
theorem fa_X7_18 : FA RX7 18 7 2 := ⟨RX7, TX7, 4, tyX7, ck_7, by decide, Or.inl (tbl_of (List.mem_of_getElem? (i := 353) (by decide +kernel)) rfl)⟩
theorem fp_X7_18 : FPR RX7 18 7 2 := ⟨RX7, TX7, 4, tyX7, ck_7, by decide, tbl_of (List.mem_of_getElem? (i := 353) (by decide +kernel)) rfl, Or.inl ⟨_, rfl⟩, Or.inr ⟨rfl, rfl⟩⟩
theorem fa_X7_22 : FA RX7 22 7 3 := ⟨RX7, TX7, 4, tyX7, ck_7, by decide, Or.inl (tbl_of (List.mem_of_getElem? (i := 354) (by decide +kernel)) rfl)⟩
theorem fp_X7_22 : FPR RX7 22 7 3 := ⟨RX7, TX7, 4, tyX7, ck_7, by decide, tbl_of (List.mem_of_getElem? (i := 354) (by decide +kernel)) rfl, Or.inr ⟨_, rfl⟩, Or.inr ⟨rfl, rfl⟩⟩
theorem fa_X2_28 : FA RX2 28 2 0 := ⟨RX2, TX2, 7, tyX2, ck_2, by decide, Or.inl (tbl_of (List.mem_of_getElem? (i := 370) (by decide +kernel)) rfl)⟩
theorem fp_X2_28 : FPR RX2 28 2 0 := ⟨RX2, TX2, 7, tyX2, ck_2, by decide, tbl_of (List.mem_of_getElem? (i := 370) (by decide +kernel)) rfl, Or.inl ⟨_, rfl⟩, Or.inr ⟨rfl, rfl⟩⟩
theorem fa_X2_32 : FA RX2 32 2 1 := ⟨RX2, TX2, 7, tyX2, ck_2, by decide, Or.inl (tbl_of (List.mem_of_getElem? (i := 371) (by decide +kernel)) rfl)⟩
theorem fp_X2_32 : FPR RX2 32 2 1 := ⟨RX2, TX2, 7, tyX2, ck_2, by decide, tbl_of (List.mem_of_getElem? (i := 371) (by decide +kernel)) rfl, Or.inl ⟨_, rfl⟩, Or.inr ⟨rfl, rfl⟩⟩
theorem fa_X2_9 : FA RX2 9 2 2 := ⟨RX2, TX2, 7, tyX2, ck_2, by decide, Or.inl (tbl_of (List.mem_of_getElem? (i := 372) (by decide +kernel)) rfl)⟩
theorem fp_X2_9 : FPR RX2 9 2 2 := ⟨RX2, TX2, 7, tyX2, ck_2, by decide, tbl_of (List.mem_of_getElem? (i := 372) (by decide +kernel)) rfl, Or.inr ⟨_, rfl⟩, Or.inr ⟨rfl, rfl⟩⟩
theorem fa_X2_15 : FA RX2 15 2 3 := ⟨RX2, TX2, 7, tyX2, ck_2, by decide, Or.inl (tbl_of (List.mem_of_getElem? (i := 373) (by decide +kernel)) rfl)⟩
theorem fp_X2_15 : FPR RX2 15 2 3 := ⟨RX2, TX2, 7, tyX2, ck_2, by decide, tbl_of (List.mem_of_getElem? (i := 373) (by decide +kernel)) rfl, Or.inr ⟨_, rfl⟩, Or.inr ⟨rfl, rfl⟩⟩
theorem fa_X2_18 : FA RX2 18 2 4 := ⟨RX2, TX2, 7, tyX2, ck_2, by decide, Or.inl (tbl_of (List.mem_of_getElem? (i := 374) (by decide +kernel)) rfl)⟩
theorem fp_X2_18 : FPI RX2 18 2 4 .int := ⟨RX2, TX2, 7, tyX2, ck_2, by decide, tbl_of (List.mem_of_getElem? (i := 374) (by decide +kernel)) rfl, rfl, rfl⟩
theorem fa_X11_272 : FA RX11 272 2 4 := ⟨RX2, TX2, 7, tyX2, ck_2, by decide, Or.inl (tbl_of (List.mem_of_getElem? (i := 375) (by decide +kernel)) rfl)⟩
theorem fp_X11_272 : FPI RX11 272 2 4 .int := ⟨RX2, TX2, 7, tyX2, ck_2, by decide, tbl_of (List.mem_of_getElem? (i := 375) (by decide +kernel)) rfl, rfl, rfl⟩
theorem fa_X2_22 : FA RX2 22 2 5 := ⟨RX2, TX2, 7, tyX2, ck_2, by decide, Or.inl (tbl_of (List.mem_of_getElem? (i := 376) (by decide +kernel)) rfl)⟩
theorem fp_X2_22 : FPI RX2 22 2 5 .int := ⟨RX2, TX2, 7, tyX2, ck_2, by decide, tbl_of (List.mem_of_getElem? (i := 376) (by decide +kernel)) rfl, rfl, rfl⟩
theorem fa_X11_277 : FA RX11 277 2 5 := ⟨RX2, TX2, 7, tyX2, ck_2, by decide, Or.inl (tbl_of (List.mem_of_getElem? (i := 377) (by decide +kernel)) rfl)⟩
theorem fp_X11_277 : FPI RX11 277 2 5 .int := ⟨RX2, TX2, 7, tyX2, ck_2, by decide, tbl_of (List.mem_of_getElem? (i := 377) (by decide +kernel)) rfl, rfl, rfl⟩
theorem fa_X2_25 : FA RX2 25 2 6 := ⟨RX2, TX2, 7, tyX2, ck_2, by decide, Or.inl (tbl_of (List.mem_of_getElem? (i := 378) (by decide +kernel)) rfl)⟩
theorem fp_X2_25 : FPI RX2 25 2 6 .int := ⟨RX2, TX2, 7, tyX2, ck_2, by decide, tbl_of (List.mem_of_getElem? (i := 378) (by decide +kernel)) rfl, rfl, rfl⟩
theorem fa_X11_280 : FA RX11 280 2 6 := ⟨RX2, TX2, 7, tyX2, ck_2, by decide, Or.inl (tbl_of (List.mem_of_getElem? (i := 379) (by decide +kernel)) rfl)⟩
theorem fp_X11_280 : FPI RX11 280 2 6 .int := ⟨RX2, TX2, 7, tyX2, ck_2, by decide, tbl_of (List.mem_of_getElem? (i := 379) (by decide +kernel)) rfl, rfl, rfl⟩
theorem fa_X3_34 : FA RX3 34 3 0 := ⟨RX3, TX3, 8, tyX3, ck_3, by decide, Or.inl (tbl_of (List.mem_of_getElem? (i := 402) (by decide +kernel)) rfl)⟩
theorem fp_X3_34 : FPR RX3 34 3 0 := ⟨RX3, TX3, 8, tyX3, ck_3, by decide, tbl_of (List.mem_of_getElem? (i := 402) (by decide +kernel)) rfl, Or.inl ⟨_, rfl⟩, Or.inr ⟨rfl, rfl⟩⟩
theorem fa_X3_38 : FA RX3 38 3 1 := ⟨RX3, TX3, 8, tyX3, ck_3, by decide, Or.inl (tbl_of (List.mem_of_getElem? (i := 403) (by decide +kernel)) rfl)⟩
theorem fp_X3_38 : FPR RX3 38 3 1 := ⟨RX3, TX3, 8, tyX3, ck_3, by decide, tbl_of (List.mem_of_getElem? (i := 403) (by decide +kernel)) rfl, Or.inl ⟨_, rfl⟩, Or.inr ⟨rfl, rfl⟩⟩
theorem fa_X3_9 : FA RX3 9 3 2 := ⟨RX3, TX3, 8, tyX3, ck_3, by decide, Or.inl (tbl_of (List.mem_of_getElem? (i := 404) (by decide +kernel)) rfl)⟩
theorem fp_X3_9 : FPR RX3 9 3 2 := ⟨RX3, TX3, 8, tyX3, ck_3, by decide, tbl_of (List.mem_of_getElem? (i := 404) (by decide +kernel)) rfl, Or.inr ⟨_, rfl⟩, Or.inr ⟨rfl, rfl⟩⟩
theorem fa_X3_17 : FA RX3 17 3 3 := ⟨RX3, TX3, 8, tyX3, ck_3, by decide, Or.inl (tbl_of (List.mem_of_getElem? (i := 405) (by decide +kernel)) rfl)⟩
theorem fp_X3_17 : FPR RX3 17 3 3 := ⟨RX3, TX3, 8, tyX3, ck_3, by decide, tbl_of (List.mem_of_getElem? (i := 405) (by decide +kernel)) rfl, Or.inr ⟨_, rfl⟩, Or.inr ⟨rfl, rfl⟩⟩
theorem fa_X3_21 : FA RX3 21 3 4 := ⟨RX3, TX3, 8, tyX3, ck_3, by decide, Or.inl (tbl_of (List.mem_of_getElem? (i := 406) (by decide +kernel)) rfl)⟩
theorem fp_X3_21 : FPI RX3 21 3 4 .int := ⟨RX3, TX3, 8, tyX3, ck_3, by decide, tbl_of (List.mem_of_getElem? (i := 406) (by decide +kernel)) rfl, rfl, rfl⟩
theorem fa_X3_25 : FA RX3 25 3 5 := ⟨RX3, TX3, 8, tyX3, ck_3, by decide, Or.inl (tbl_of (List.mem_of_getElem? (i := 407) (by decide +kernel)) rfl)⟩
theorem fp_X3_25 : FPI RX3 25 3 5 .int := ⟨RX3, TX3, 8, tyX3, ck_3, by decide, tbl_of (List.mem_of_getElem? (i := 407) (by decide +kernel)) rfl, rfl, rfl⟩
theorem fa_X11_285 : FA RX11 285 3 5 := ⟨RX3, TX3, 8, tyX3, ck_3, by decide, Or.inl (tbl_of (List.mem_of_getElem? (i := 408) (by decide +kernel)) rfl)⟩
theorem fp_X11_285 : FPI RX11 285 3 5 .int := ⟨RX3, TX3, 8, tyX3, ck_3, by decide, tbl_of (List.mem_of_getElem? (i := 408) (by decide +kernel)) rfl, rfl, rfl⟩
theorem fa_X3_28 : FA RX3 28 3 6 := ⟨RX3, TX3, 8, tyX3, ck_3, by decide, Or.inl (tbl_of (List.mem_of_getElem? (i := 409) (by decide +kernel)) rfl)⟩
theorem fp_X3_28 : FPI RX3 28 3 6 .int := ⟨RX3, TX3, 8, tyX3, ck_3, by decide, tbl_of (List.mem_of_getElem? (i := 409) (by decide +kernel)) rfl, rfl, rfl⟩
theorem fa_X11_288 : FA RX11 288 3 6 := ⟨RX3, TX3, 8, tyX3, ck_3, by decide, Or.inl (tbl_of (List.mem_of_getElem? (i := 410) (by decide +kernel)) rfl)⟩
theorem fp_X11_288 : FPI RX11 288 3 6 .int := ⟨RX3, TX3, 8, tyX3, ck_3, by decide, tbl_of (List.mem_of_getElem? (i := 410) (by decide +kernel)) rfl, rfl, rfl⟩
theorem fa_X3_31 : FA RX3 31 3 7 := ⟨RX3, TX3, 8, tyX3, ck_3, by decide, Or.inl (tbl_of (List.mem_of_getElem? (i := 411) (by decide +kernel)) rfl)⟩
theorem fp_X3_31 : FPI RX3 31 3 7 .int := ⟨RX3, TX3, 8, tyX3, ck_3, by decide, tbl_of (List.mem_of_getElem? (i := 411) (by decide +kernel)) rfl, rfl, rfl⟩
theorem fa_X11_291 : FA RX11 291 3 7 := ⟨RX3, TX3, 8, tyX3, ck_3, by decide, Or.inl (tbl_of (List.mem_of_getElem? (i := 412) (by decide +kernel)) rfl)⟩
theorem fp_X11_291 : FPI RX11 291 3 7 .int := ⟨RX3, TX3, 8, tyX3, ck_3, by decide, tbl_of (List.mem_of_getElem? (i := 412) (by decide +kernel)) rfl, rfl, rfl⟩
theorem fa_X1_9 : FA RX1 9 1 0 := ⟨RX1, TX1, 5, tyX1, ck_1, by decide, Or.inl (tbl_of (List.mem_of_getElem? (i := 436) (by decide +kernel)) rfl)⟩
theorem fp_X1_9 : FPR RX1 9 1 0 := ⟨RX1, TX1, 5, tyX1, ck_1, by decide, tbl_of (List.mem_of_getElem? (i := 436) (by decide +kernel)) rfl, Or.inr ⟨_, rfl⟩, Or.inr ⟨rfl, rfl⟩⟩
theorem fa_X1_15 : FA RX1 15 1 1 := ⟨RX1, TX1, 5, tyX1, ck_1, by decide, Or.inl (tbl_of (List.mem_of_getElem? (i := 437) (by decide +kernel)) rfl)⟩
theorem fp_X1_15 : FPR RX1 15 1 1 := ⟨RX1, TX1, 5, tyX1, ck_1, by decide, tbl_of (List.mem_of_getElem? (i := 437) (by decide +kernel)) rfl, Or.inr ⟨_, rfl⟩, Or.inr ⟨rfl, rfl⟩⟩
theorem fa_X1_18 : FA RX1 18 1 2 := ⟨RX1, TX1, 5, tyX1, ck_1, by decide, Or.inl (tbl_of (List.mem_of_getElem? (i := 438) (by decide +kernel)) rfl)⟩
theorem fp_X1_18 : FPR RX1 18 1 2 := ⟨RX1, TX1, 5, tyX1, ck_1, by decide, tbl_of (List.mem_of_getElem? (i := 438) (by decide +kernel)) rfl, Or.inr ⟨_, rfl⟩, Or.inr ⟨rfl, rfl⟩⟩
theorem fa_X1_21 : FA RX1 21 1 3 := ⟨RX1, TX1, 5, tyX1, ck_1, by decide, Or.inl (tbl_of (List.mem_of_getElem? (i := 439) (by decide +kernel)) rfl)⟩
theorem fp_X1_21 : FPR RX1 21 1 3 := ⟨RX1, TX1, 5, tyX1, ck_1, by decide, tbl_of (List.mem_of_getElem? (i := 439) (by decide +kernel)) rfl, Or.inr ⟨_, rfl⟩, Or.inr ⟨rfl, rfl⟩⟩
theorem fa_X1_24 : FA RX1 24 1 4 := ⟨RX1, TX1, 5, tyX1, ck_1, by decide, Or.inl (tbl_of (List.mem_of_getElem? (i := 440) (by decide +kernel)) rfl)⟩
theorem fp_X1_24 : FPI RX1 24 1 4 .int := ⟨RX1, TX1, 5, tyX1, ck_1, by decide, tbl_of (List.mem_of_getElem? (i := 440) (by decide +kernel)) rfl, rfl, rfl⟩
theorem fa_X11_312 : FA RX11 312 1 4 := ⟨RX1, TX1, 5, tyX1, ck_1, by decide, Or.inl (tbl_of (List.mem_of_getElem? (i := 441) (by decide +kernel)) rfl)⟩
theorem fp_X11_312 : FPI RX11 312 1 4 .int := ⟨RX1, TX1, 5, tyX1, ck_1, by decide, tbl_of (List.mem_of_getElem? (i := 441) (by decide +kernel)) rfl, rfl, rfl⟩
theorem fa_X11_12 : FA RX11 12 11 0 := ⟨RX11, TX11, 12, tyX11, ck_11, by decide, Or.inl (tbl_of (List.mem_of_getElem? (i := 615) (by decide +kernel)) rfl)⟩
theorem fp_X11_12 : FPR RX11 12 11 0 := ⟨RX11, TX11, 12, tyX11, ck_11, by decide, tbl_of (List.mem_of_getElem? (i := 615) (by decide +kernel)) rfl, Or.inl ⟨_, rfl⟩, Or.inr ⟨rfl, rfl⟩⟩
theorem fa_X11_19 : FA RX11 19 11 1 := ⟨RX11, TX11, 12, tyX11, ck_11, by decide, Or.inl (tbl_of (List.mem_of_getElem? (i := 616) (by decide +kernel)) rfl)⟩
theorem fp_X11_19 : FPR RX11 19 11 1 := ⟨RX11, TX11, 12, tyX11, ck_11, by decide, tbl_of (List.mem_of_getElem? (i := 616) (by decide +kernel)) rfl, Or.inl ⟨_, rfl⟩, Or.inr ⟨rfl, rfl⟩⟩
theorem fa_X11_28 : FA RX11 28 11 2 := ⟨RX11, TX11, 12, tyX11, ck_11, by decide, Or.inl (tbl_of (List.mem_of_getElem? (i := 617) (by decide +kernel)) rfl)⟩
theorem fp_X11_28 : FPR RX11 28 11 2 := ⟨RX11, TX11, 12, tyX11, ck_11, by decide, tbl_of (List.mem_of_getElem? (i := 617) (by decide +kernel)) rfl, Or.inl ⟨_, rfl⟩, Or.inr ⟨rfl, rfl⟩⟩
theorem fa_X11_32 : FA RX11 32 11 3 := ⟨RX11, TX11, 12, tyX11, ck_11, by decide, Or.inl (tbl_of (List.mem_of_getElem? (i := 618) (by decide +kernel)) rfl)⟩
theorem fp_X11_32 : FPR RX11 32 11 3 := ⟨RX11, TX11, 12, tyX11, ck_11, by decide, tbl_of (List.mem_of_getElem? (i := 618) (by decide +kernel)) rfl, Or.inl ⟨_, rfl⟩, Or.inr ⟨rfl, rfl⟩⟩
theorem fa_X11_40 : FA RX11 40 11 4 := ⟨RX11, TX11, 12, tyX11, ck_11, by decide, Or.inl (tbl_of (List.mem_of_getElem? (i := 619) (by decide +kernel)) rfl)⟩
theorem fp_X11_40 : FPR RX11 40 11 4 := ⟨RX11, TX11, 12, tyX11, ck_11, by decide, tbl_of (List.mem_of_getElem? (i := 619) (by decide +kernel)) rfl, Or.inl ⟨_, rfl⟩, Or.inr ⟨rfl, rfl⟩⟩
theorem fa_X11_44 : FA RX11 44 11 5 := ⟨RX11, TX11, 12, tyX11, ck_11, by decide, Or.inl (tbl_of (List.mem_of_getElem? (i := 620) (by decide +kernel)) rfl)⟩
theorem fp_X11_44 : FPR RX11 44 11 5 := ⟨RX11, TX11, 12, tyX11, ck_11, by decide, tbl_of (List.mem_of_getElem? (i := 620) (by decide +kernel)) rfl, Or.inl ⟨_, rfl⟩, Or.inr ⟨rfl, rfl⟩⟩
theorem fa_X11_50 : FA RX11 50 11 6 := ⟨RX11, TX11, 12, tyX11, ck_11, by decide, Or.inl (tbl_of (List.mem_of_getElem? (i := 621) (by decide +kernel)) rfl)⟩
theorem fp_X11_50 : FPR RX11 50 11 6 := ⟨RX11, TX11, 12, tyX11, ck_11, by decide, tbl_of (List.mem_of_getElem? (i := 621) (by decide +kernel)) rfl, Or.inl ⟨_, rfl⟩, Or.inr ⟨rfl, rfl⟩⟩
theorem fa_X11_59 : FA RX11 59 11 7 := ⟨RX11, TX11, 12, tyX11, ck_11, by decide, Or.inl (tbl_of (List.mem_of_getElem? (i := 622) (by decide +kernel)) rfl)⟩
theorem fp_X11_59 : FPR RX11 59 11 7 := ⟨RX11, TX11, 12, tyX11, ck_11, by decide, tbl_of (List.mem_of_getElem? (i := 622) (by decide +kernel)) rfl, Or.inl ⟨_, rfl⟩, Or.inr ⟨rfl, rfl⟩⟩
theorem fa_X11_66 : FA RX11 66 11 8 := ⟨RX11, TX11, 12, tyX11, ck_11, by decide, Or.inl (tbl_of (List.mem_of_getElem? (i := 623) (by decide +kernel)) rfl)⟩
theorem fp_X11_66 : FPR RX11 66 11 8 := ⟨RX11, TX11, 12, tyX11, ck_11, by decide, tbl_of (List.mem_of_getElem? (i := 623) (by decide +kernel)) rfl, Or.inl ⟨_, rfl⟩, Or.inr ⟨rfl, rfl⟩⟩
theorem fa_X11_73 : FA RX11 73 11 9 := ⟨RX11, TX11, 12, tyX11, ck_11, by decide, Or.inl (tbl_of (List.mem_of_getElem? (i := 624) (by decide +kernel)) rfl)⟩
theorem fp_X11_73 : FPR RX11 73 11 9 := ⟨RX11, TX11, 12, tyX11, ck_11, by decide, tbl_of (List.mem_of_getElem? (i := 624) (by decide +kernel)) rfl, Or.inl ⟨_, rfl⟩, Or.inr ⟨rfl, rfl⟩⟩
theorem fa_X11_77 : FA RX11 77 11 10 := ⟨RX11, TX11, 12, tyX11, ck_11, by decide, Or.inl (tbl_of (List.mem_of_getElem? (i := 625) (by decide +kernel)) rfl)⟩
theorem fp_X11_77 : FPR RX11 77 11 10 := ⟨RX11, TX11, 12, tyX11, ck_11, by decide, tbl_of (List.mem_of_getElem? (i := 625) (by decide +kernel)) rfl, Or.inr ⟨_, rfl⟩, Or.inr ⟨rfl, rfl⟩⟩
theorem fa_X11_84 : FA RX11 84 11 11 := ⟨RX11, TX11, 12, tyX11, ck_11, by decide, Or.inl (tbl_of (List.mem_of_getElem? (i := 626) (by decide +kernel)) rfl)⟩
theorem fp_X11_84 : FPR RX11 84 11 11 := ⟨RX11, TX11, 12, tyX11, ck_11, by decide, tbl_of (List.mem_of_getElem? (i := 626) (by decide +kernel)) rfl, Or.inl ⟨_, rfl⟩, Or.inl rfl⟩
theorem fa_X12_66 : FA RX12 66 12 0 := ⟨RX12, TX12, 23, tyX12, ck_12, by decide, Or.inl (tbl_of (List.mem_of_getElem? (i := 1029) (by decide +kernel)) rfl)⟩
theorem fp_X12_66 : FPI RX12 66 12 0 .int := ⟨RX12, TX12, 23, tyX12, ck_12, by decide, tbl_of (List.mem_of_getElem? (i := 1029) (by decide +kernel)) rfl, rfl, rfl⟩
theorem fa_X12_7 : FA RX12 7 12 1 := ⟨RX12, TX12, 23, tyX12, ck_12, by decide, Or.inl (tbl_of (List.mem_of_getElem? (i := 1030) (by decide +kernel)) rfl)⟩
theorem fp_X12_7 : FPR RX12 7 12 1 := ⟨RX12, TX12, 23, tyX12, ck_12, by decide, tbl_of (List.mem_of_getElem? (i := 1030) (by decide +kernel)) rfl, Or.inr ⟨_, rfl⟩, Or.inr ⟨rfl, rfl⟩⟩
theorem fa_X12_70 : FA RX12 70 12 2 := ⟨RX12, TX12, 23, tyX12, ck_12, by decide, Or.inl (tbl_of (List.mem_of_getElem? (i := 1031) (by decide +kernel)) rfl)⟩
theorem fp_X12_70 : FPI RX12 70 12 2 .int := ⟨RX12, TX12, 23, tyX12, ck_12, by decide, tbl_of (List.mem_of_getElem? (i := 1031) (by decide +kernel)) rfl, rfl, rfl⟩
theorem fa_X12_13 : FA RX12 13 12 3 := ⟨RX12, TX12, 23, tyX12, ck_12, by decide, Or.inl (tbl_of (List.mem_of_getElem? (i := 1032) (by decide +kernel)) rfl)⟩
theorem fp_X12_13 : FPR RX12 13 12 3 := ⟨RX12, TX12, 23, tyX12, ck_12, by decide, tbl_of (List.mem_of_getElem? (i := 1032) (by decide +kernel)) rfl, Or.inr ⟨_, rfl⟩, Or.inr ⟨rfl, rfl⟩⟩
theorem fa_X12_17 : FA RX12 17 12 4 := ⟨RX12, TX12, 23, tyX12, ck_12, by decide, Or.inl (tbl_of (List.mem_of_getElem? (i := 1033) (by decide +kernel)) rfl)⟩
theorem fp_X12_17 : FPR RX12 17 12 4 := ⟨RX12, TX12, 23, tyX12, ck_12, by decide, tbl_of (List.mem_of_getElem? (i := 1033) (by decide +kernel)) rfl, Or.inr ⟨_, rfl⟩, Or.inr ⟨rfl, rfl⟩⟩
theorem fa_X12_20 : FA RX12 20 12 5 := ⟨RX12, TX12, 23, tyX12, ck_12, by decide, Or.inl (tbl_of (List.mem_of_getElem? (i := 1034) (by decide +kernel)) rfl)⟩
theorem fp_X12_20 : FPR RX12 20 12 5 := ⟨RX12, TX12, 23, tyX12, ck_12, by decide, tbl_of (List.mem_of_getElem? (i := 1034) (by decide +kernel)) rfl, Or.inr ⟨_, rfl⟩, Or.inr ⟨rfl, rfl⟩⟩
theorem fa_X12_23 : FA RX12 23 12 6 := ⟨RX12, TX12, 23, tyX12, ck_12, by decide, Or.inl (tbl_of (List.mem_of_getElem? (i := 1035) (by decide +kernel)) rfl)⟩
theorem fp_X12_23 : FPR RX12 23 12 6 := ⟨RX12, TX12, 23, tyX12, ck_12, by decide, tbl_of (List.mem_of_getElem? (i := 1035) (by decide +kernel)) rfl, Or.inr ⟨_, rfl⟩, Or.inr ⟨rfl, rfl⟩⟩
theorem fa_X12_26 : FA RX12 26 12 7 := ⟨RX12, TX12, 23, tyX12, ck_12, by decide, Or.inl (tbl_of (List.mem_of_getElem? (i := 1036) (by decide +kernel)) rfl)⟩
theorem fp_X12_26 : FPR RX12 26 12 7 := ⟨RX12, TX12, 23, tyX12, ck_12, by decide, tbl_of (List.mem_of_getElem? (i := 1036) (by decide +kernel)) rfl, Or.inr ⟨_, rfl⟩, Or.inr ⟨rfl, rfl⟩⟩
theorem fa_X12_29 : FA RX12 29 12 8 := ⟨RX12, TX12, 23, tyX12, ck_12, by decide, Or.inl (tbl_of (List.mem_of_getElem? (i := 1037) (by decide +kernel)) rfl)⟩
theorem fp_X12_29 : FPR RX12 29 12 8 := ⟨RX12, TX12, 23, tyX12, ck_12, by decide, tbl_of (List.mem_of_getElem? (i := 1037) (by decide +kernel)) rfl, Or.inr ⟨_, rfl⟩, Or.inr ⟨rfl, rfl⟩⟩
theorem fa_X12_114 : FA RX12 114 12 9 := ⟨RX12, TX12, 23, tyX12, ck_12, by decide, Or.inl (tbl_of (List.mem_of_getElem? (i := 1038) (by decide +kernel)) rfl)⟩
theorem fp_X12_114 : FPI RX12 114 12 9 .int := ⟨RX12, TX12, 23, tyX12, ck_12, by decide, tbl_of (List.mem_of_getElem? (i := 1038) (by decide +kernel)) rfl, rfl, rfl⟩
theorem fa_X12_111 : FA RX12 111 12 10 := ⟨RX12, TX12, 23, tyX12, ck_12, by decide, Or.inl (tbl_of (List.mem_of_getElem? (i := 1039) (by decide +kernel)) rfl)⟩
theorem fp_X12_111 : FPI RX12 111 12 10 .int := ⟨RX12, TX12, 23, tyX12, ck_12, by decide, tbl_of (List.mem_of_getElem? (i := 1039) (by decide +kernel)) rfl, rfl, rfl⟩
theorem fa_X12_105 : FA RX12 105 12 11 := ⟨RX12, TX12, 23, tyX12, ck_12, by decide, Or.inl (tbl_of (List.mem_of_getElem? (i := 1040) (by decide +kernel)) rfl)⟩
theorem fp_X12_105 : FPI RX12 105 12 11 .int := ⟨RX12, TX12, 23, tyX12, ck_12, by decide, tbl_of (List.mem_of_getElem? (i := 1040) (by decide +kernel)) rfl, rfl, rfl⟩
theorem fa_X12_32 : FA RX12 32 12 12 := ⟨RX12, TX12, 23, tyX12, ck_12, by decide, Or.inl (tbl_of (List.mem_of_getElem? (i := 1041) (by decide +kernel)) rfl)⟩
theorem fp_X12_32 : FPR RX12 32 12 12 := ⟨RX12, TX12, 23, tyX12, ck_12, by decide, tbl_of (List.mem_of_getElem? (i := 1041) (by decide +kernel)) rfl, Or.inr ⟨_, rfl⟩, Or.inr ⟨rfl, rfl⟩⟩
theorem fa_X12_108 : FA RX12 108 12 13 := ⟨RX12, TX12, 23, tyX12, ck_12, by decide, Or.inl (tbl_of (List.mem_of_getElem? (i := 1042) (by decide +kernel)) rfl)⟩
theorem fp_X12_108 : FPI RX12 108 12 13 .int := ⟨RX12, TX12, 23, tyX12, ck_12, by decide, tbl_of (List.mem_of_getElem? (i := 1042) (by decide +kernel)) rfl, rfl, rfl⟩
theorem fa_X12_35 : FA RX12 35 12 14 := ⟨RX12, TX12, 23, tyX12, ck_12, by decide, Or.inl (tbl_of (List.mem_of_getElem? (i := 1043) (by decide +kernel)) rfl)⟩
theorem fp_X12_35 : FPR RX12 35 12 14 := ⟨RX12, TX12, 23, tyX12, ck_12, by decide, tbl_of (List.mem_of_getElem? (i := 1043) (by decide +kernel)) rfl, Or.inr ⟨_, rfl⟩, Or.inr ⟨rfl, rfl⟩⟩
theorem fa_X12_39 : FA RX12 39 12 15 := ⟨RX12, TX12, 23, tyX12, ck_12, by decide, Or.inl (tbl_of (List.mem_of_getElem? (i := 1044) (by decide +kernel)) rfl)⟩
theorem fp_X12_39 : FPR RX12 39 12 15 := ⟨RX12, TX12, 23, tyX12, ck_12, by decide, tbl_of (List.mem_of_getElem? (i := 1044) (by decide +kernel)) rfl, Or.inr ⟨_, rfl⟩, Or.inr ⟨rfl, rfl⟩⟩
theorem fa_X12_101 : FA RX12 101 12 16 := ⟨RX12, TX12, 23, tyX12, ck_12, by decide, Or.inl (tbl_of (List.mem_of_getElem? (i := 1045) (by decide +kernel)) rfl)⟩
theorem fp_X12_101 : FPI RX12 101 12 16 .boolean := ⟨RX12, TX12, 23, tyX12, ck_12, by decide, tbl_of (List.mem_of_getElem? (i := 1045) (by decide +kernel)) rfl, rfl, rfl⟩
theorem fa_X12_42 : FA RX12 42 12 17 := ⟨RX12, TX12, 23, tyX12, ck_12, by decide, Or.inl (tbl_of (List.mem_of_getElem? (i := 1046) (by decide +kernel)) rfl)⟩
theorem fp_X12_42 : FPR RX12 42 12 17 := ⟨RX12, TX12, 23, tyX12, ck_12, by decide, tbl_of (List.mem_of_getElem? (i := 1046) (by decide +kernel)) rfl, Or.inr ⟨_, rfl⟩, Or.inr ⟨rfl, rfl⟩⟩
theorem fa_X12_214 : FA RX12 214 12 18 := ⟨RX12, TX12, 23, tyX12, ck_12, by decide, Or.inl (tbl_of (List.mem_of_getElem? (i := 1047) (by decide +kernel)) rfl)⟩
theorem fp_X12_214 : FPI RX12 214 12 18 .int := ⟨RX12, TX12, 23, tyX12, ck_12, by decide, tbl_of (List.mem_of_getElem? (i := 1047) (by decide +kernel)) rfl, rfl, rfl⟩
theorem fa_X12_217 : FA RX12 217 12 19 := ⟨RX12, TX12, 23, tyX12, ck_12, by decide, Or.inl (tbl_of (List.mem_of_getElem? (i := 1048) (by decide +kernel)) rfl)⟩
theorem fp_X12_217 : FPI RX12 217 12 19 .int := ⟨RX12, TX12, 23, tyX12, ck_12, by decide, tbl_of (List.mem_of_getElem? (i := 1048) (by decide +kernel)) rfl, rfl, rfl⟩
theorem fa_X12_45 : FA RX12 45 12 20 := ⟨RX12, TX12, 23, tyX12, ck_12, by decide, Or.inl (tbl_of (List.mem_of_getElem? (i := 1049) (by decide +kernel)) rfl)⟩
theorem fp_X12_45 : FPR RX12 45 12 20 := ⟨RX12, TX12, 23, tyX12, ck_12, by decide, tbl_of (List.mem_of_getElem? (i := 1049) (by decide +kernel)) rfl, Or.inr ⟨_, rfl⟩, Or.inr ⟨rfl, rfl⟩⟩
theorem fa_X12_49 : FA RX12 49 12 21 := ⟨RX12, TX12, 23, tyX12, ck_12, by decide, Or.inl (tbl_of (List.mem_of_getElem? (i := 1050) (by decide +kernel)) rfl)⟩
theorem fp_X12_49 : FPR RX12 49 12 21 := ⟨RX12, TX12, 23, tyX12, ck_12, by decide, tbl_of (List.mem_of_getElem? (i := 1050) (by decide +kernel)) rfl, Or.inr ⟨_, rfl⟩, Or.inr ⟨rfl, rfl⟩⟩
theorem fa_X12_226 : FA RX12 226 12 22 := ⟨RX12, TX12, 23, tyX12, ck_12, by decide, Or.inl (tbl_of (List.mem_of_getElem? (i := 1051) (by decide +kernel)) rfl)⟩
theorem fp_X12_226 : FPI RX12 226 12 22 .int := ⟨RX12, TX12, 23, tyX12, ck_12, by decide, tbl_of (List.mem_of_getElem? (i := 1051) (by decide +kernel)) rfl, rfl, rfl⟩
theorem lk_L_9 : LI RL 9 mX11_init := ⟨Or.inl (tbl_of (List.mem_of_getElem? (i := 90) (by decide +kernel)) rfl), tbl_of (List.mem_of_getElem? (i := 91) (by decide +kernel)) rfl, rfl, rfl⟩
theorem lk_X11_11 : LI RX11 11 mX9_init := ⟨Or.inr ⟨"HungFromIce", ntbl_of (List.mem_of_getElem? (i := 98) (by decide +kernel)) rfl⟩, tbl_of (List.mem_of_getElem? (i := 99) (by decide +kernel)) rfl, rfl, rfl⟩
theorem lk_X11_18 : LI RX11 18 mX6_init := ⟨Or.inr ⟨"HungFromIce", ntbl_of (List.mem_of_getElem? (i := 119) (by decide +kernel)) rfl⟩, tbl_of (List.mem_of_getElem? (i := 120) (by decide +kernel)) rfl, rfl, rfl⟩
theorem lk_X6_11 : LI RX6 11 mX10_init := ⟨Or.inr ⟨"HungFromIce", ntbl_of (List.mem_of_getElem? (i := 125) (by decide +kernel)) rfl⟩, tbl_of (List.mem_of_getElem? (i := 126) (by decide +kernel)) rfl, rfl, rfl⟩
theorem lk_X6_20 : LI RX6 20 mX8_init := ⟨Or.inr ⟨"HungFromIce", ntbl_of (List.mem_of_getElem? (i := 214) (by decide +kernel)) rfl⟩, tbl_of (List.mem_of_getElem? (i := 215) (by decide +kernel)) rfl, rfl, rfl⟩
theorem lk_X11_25 : LI RX11 25 mX4_init := ⟨Or.inl (tbl_of (List.mem_of_getElem? (i := 277) (by decide +kernel)) rfl), tbl_of (List.mem_of_getElem? (i := 278) (by decide +kernel)) rfl, rfl, rfl⟩
theorem lk_X4_16 : LSx RX4 16 mJ9_max_7cf53 := ⟨Or.inl (tbl_of (List.mem_of_getElem? (i := 281) (by decide +kernel)) rfl), tbl_of (List.mem_of_getElem? (i := 282) (by decide +kernel)) rfl⟩
theorem lk_X4_28 : LI RX4 28 mX8_init := ⟨Or.inr ⟨"HungFromIce", ntbl_of (List.mem_of_getElem? (i := 286) (by decide +kernel)) rfl⟩, tbl_of (List.mem_of_getElem? (i := 215) (by decide +kernel)) rfl, rfl, rfl⟩
theorem lk_X11_37 : LI RX11 37 mX0_init := ⟨Or.inl (tbl_of (List.mem_of_getElem? (i := 300) (by decide +kernel)) rfl), tbl_of (List.mem_of_getElem? (i := 301) (by decide +kernel)) rfl, rfl, rfl⟩
theorem lk_X11_49 : LI RX11 49 mX7_init := ⟨Or.inl (tbl_of (List.mem_of_getElem? (i := 325) (by decide +kernel)) rfl), tbl_of (List.mem_of_getElem? (i := 326) (by decide +kernel)) rfl, rfl, rfl⟩
theorem lk_X7_17 : LI RX7 17 mX5_init := ⟨Or.inr ⟨"HungFromIce", ntbl_of (List.mem_of_getElem? (i := 332) (by decide +kernel)) rfl⟩, tbl_of (List.mem_of_getElem? (i := 333) (by decide +kernel)) rfl, rfl, rfl⟩
theorem lk_X7_30 : LV RX7 30 mX5_silence 5 := ⟨Or.inl (tbl_of (List.mem_of_getElem? (i := 346) (by decide +kernel)) rfl), tbl_of (List.mem_of_getElem? (i := 347) (by decide +kernel)) rfl, tbl_of (List.mem_of_getElem? (i := 348) (by decide +kernel)) rfl, by decide, _, _, rfl⟩
theorem lk_X11_56 : LI RX11 56 mX2_init := ⟨Or.inl (tbl_of (List.mem_of_getElem? (i := 366) (by decide +kernel)) rfl), tbl_of (List.mem_of_getElem? (i := 367) (by decide +kernel)) rfl, rfl, rfl⟩
theorem lk_X11_65 : LI RX11 65 mX3_init := ⟨Or.inl (tbl_of (List.mem_of_getElem? (i := 397) (by decide +kernel)) rfl), tbl_of (List.mem_of_getElem? (i := 398) (by decide +kernel)) rfl, rfl, rfl⟩
theorem lk_X11_72 : LI RX11 72 mX1_init := ⟨Or.inr ⟨"HungFromIce", ntbl_of (List.mem_of_getElem? (i := 432) (by decide +kernel)) rfl⟩, tbl_of (List.mem_of_getElem? (i := 433) (by decide +kernel)) rfl, rfl, rfl⟩
theorem lk_X11_83 : LI RX11 83 mX10_init := ⟨Or.inr ⟨"HungFromIce", ntbl_of (List.mem_of_getElem? (i := 454) (by decide +kernel)) rfl⟩, tbl_of (List.mem_of_getElem? (i := 126) (by decide +kernel)) rfl, rfl, rfl⟩
theorem lk_X11_100 : LV RX11 100 mX9_add 9 := ⟨Or.inl (tbl_of (List.mem_of_getElem? (i := 504) (by decide +kernel)) rfl), tbl_of (List.mem_of_getElem? (i := 505) (by decide +kernel)) rfl, tbl_of (List.mem_of_getElem? (i := 506) (by decide +kernel)) rfl, by decide, _, _, rfl⟩
theorem lk_X11_104 : LV RX11 104 mX11_layText 11 := ⟨Or.inl (tbl_of (List.mem_of_getElem? (i := 508) (by decide +kernel)) rfl), tbl_of (List.mem_of_getElem? (i := 510) (by decide +kernel)) rfl, tbl_of (List.mem_of_getElem? (i := 0) (by decide +kernel)) rfl, by decide, _, _, rfl⟩
theorem lk_X11_118 : LV RX11 118 mX9_readInto 9 := ⟨Or.inl (tbl_of (List.mem_of_getElem? (i := 512) (by decide +kernel)) rfl), tbl_of (List.mem_of_getElem? (i := 513) (by decide +kernel)) rfl, tbl_of (List.mem_of_getElem? (i := 514) (by decide +kernel)) rfl, by decide, _, _, rfl⟩
theorem lk_X9_25 : LV RX9 25 mX10_start 10 := ⟨Or.inl (tbl_of (List.mem_of_getElem? (i := 516) (by decide +kernel)) rfl), tbl_of (List.mem_of_getElem? (i := 517) (by decide +kernel)) rfl, tbl_of (List.mem_of_getElem? (i := 518) (by decide +kernel)) rfl, by decide, _, _, rfl⟩
theorem lk_X9_30 : LV RX9 30 mX9_splitItem 9 := ⟨Or.inl (tbl_of (List.mem_of_getElem? (i := 520) (by decide +kernel)) rfl), tbl_of (List.mem_of_getElem? (i := 522) (by decide +kernel)) rfl, tbl_of (List.mem_of_getElem? (i := 1) (by decide +kernel)) rfl, by decide, _, _, rfl⟩
theorem lk_X9_38 : LV RX9 38 mX9_figuresFrom 9 := ⟨Or.inl (tbl_of (List.mem_of_getElem? (i := 524) (by decide +kernel)) rfl), tbl_of (List.mem_of_getElem? (i := 526) (by decide +kernel)) rfl, tbl_of (List.mem_of_getElem? (i := 2) (by decide +kernel)) rfl, by decide, _, _, rfl⟩
theorem lk_X9_49 : LV RX9 49 mX9_letterAt 9 := ⟨Or.inl (tbl_of (List.mem_of_getElem? (i := 528) (by decide +kernel)) rfl), tbl_of (List.mem_of_getElem? (i := 530) (by decide +kernel)) rfl, tbl_of (List.mem_of_getElem? (i := 3) (by decide +kernel)) rfl, by decide, _, _, rfl⟩
theorem lk_X9_41 : LSx RX9 41 mX11_within := ⟨Or.inr ⟨"HungFromIce", ntbl_of (List.mem_of_getElem? (i := 532) (by decide +kernel)) rfl⟩, tbl_of (List.mem_of_getElem? (i := 533) (by decide +kernel)) rfl⟩
theorem lk_X9_45 : LV RX9 45 mX9_numberFrom 9 := ⟨Or.inl (tbl_of (List.mem_of_getElem? (i := 535) (by decide +kernel)) rfl), tbl_of (List.mem_of_getElem? (i := 537) (by decide +kernel)) rfl, tbl_of (List.mem_of_getElem? (i := 4) (by decide +kernel)) rfl, by decide, _, _, rfl⟩
theorem lk_X9_34 : LV RX9 34 mX10_addItem 10 := ⟨Or.inl (tbl_of (List.mem_of_getElem? (i := 539) (by decide +kernel)) rfl), tbl_of (List.mem_of_getElem? (i := 540) (by decide +kernel)) rfl, tbl_of (List.mem_of_getElem? (i := 541) (by decide +kernel)) rfl, by decide, _, _, rfl⟩
theorem lk_X10_70 : LV RX10 70 mX10_addPlaces 10 := ⟨Or.inl (tbl_of (List.mem_of_getElem? (i := 543) (by decide +kernel)) rfl), tbl_of (List.mem_of_getElem? (i := 545) (by decide +kernel)) rfl, tbl_of (List.mem_of_getElem? (i := 5) (by decide +kernel)) rfl, by decide, _, _, rfl⟩
theorem lk_X10_89 : LSx RX10 89 mX11_within := ⟨Or.inr ⟨"HungFromIce", ntbl_of (List.mem_of_getElem? (i := 547) (by decide +kernel)) rfl⟩, tbl_of (List.mem_of_getElem? (i := 533) (by decide +kernel)) rfl⟩
theorem lk_X10_74 : LV RX10 74 mX10_addLevel 10 := ⟨Or.inl (tbl_of (List.mem_of_getElem? (i := 548) (by decide +kernel)) rfl), tbl_of (List.mem_of_getElem? (i := 550) (by decide +kernel)) rfl, tbl_of (List.mem_of_getElem? (i := 6) (by decide +kernel)) rfl, by decide, _, _, rfl⟩
theorem lk_X10_78 : LV RX10 78 mX10_addTown 10 := ⟨Or.inl (tbl_of (List.mem_of_getElem? (i := 552) (by decide +kernel)) rfl), tbl_of (List.mem_of_getElem? (i := 554) (by decide +kernel)) rfl, tbl_of (List.mem_of_getElem? (i := 7) (by decide +kernel)) rfl, by decide, _, _, rfl⟩
theorem lk_X10_92 : LV RX10 92 mX10_canBeSpot 10 := ⟨Or.inl (tbl_of (List.mem_of_getElem? (i := 556) (by decide +kernel)) rfl), tbl_of (List.mem_of_getElem? (i := 558) (by decide +kernel)) rfl, tbl_of (List.mem_of_getElem? (i := 8) (by decide +kernel)) rfl, by decide, _, _, rfl⟩
theorem lk_X10_82 : LV RX10 82 mX10_addMarket 10 := ⟨Or.inl (tbl_of (List.mem_of_getElem? (i := 560) (by decide +kernel)) rfl), tbl_of (List.mem_of_getElem? (i := 562) (by decide +kernel)) rfl, tbl_of (List.mem_of_getElem? (i := 9) (by decide +kernel)) rfl, by decide, _, _, rfl⟩
theorem lk_X10_86 : LV RX10 86 mX10_addThing 10 := ⟨Or.inl (tbl_of (List.mem_of_getElem? (i := 564) (by decide +kernel)) rfl), tbl_of (List.mem_of_getElem? (i := 566) (by decide +kernel)) rfl, tbl_of (List.mem_of_getElem? (i := 10) (by decide +kernel)) rfl, by decide, _, _, rfl⟩
theorem lk_X11_332 : LV RX11 332 mX10_holds 10 := ⟨Or.inl (tbl_of (List.mem_of_getElem? (i := 568) (by decide +kernel)) rfl), tbl_of (List.mem_of_getElem? (i := 569) (by decide +kernel)) rfl, tbl_of (List.mem_of_getElem? (i := 570) (by decide +kernel)) rfl, by decide, _, _, rfl⟩
theorem lk_X10_95 : LV RX10 95 mX10_allLevelsThere 10 := ⟨Or.inl (tbl_of (List.mem_of_getElem? (i := 572) (by decide +kernel)) rfl), tbl_of (List.mem_of_getElem? (i := 574) (by decide +kernel)) rfl, tbl_of (List.mem_of_getElem? (i := 11) (by decide +kernel)) rfl, by decide, _, _, rfl⟩
theorem lk_X10_99 : LV RX10 99 mX10_townsApart 10 := ⟨Or.inl (tbl_of (List.mem_of_getElem? (i := 576) (by decide +kernel)) rfl), tbl_of (List.mem_of_getElem? (i := 578) (by decide +kernel)) rfl, tbl_of (List.mem_of_getElem? (i := 12) (by decide +kernel)) rfl, by decide, _, _, rfl⟩
theorem lk_X11_335 : LV RX11 335 mX6_start 6 := ⟨Or.inl (tbl_of (List.mem_of_getElem? (i := 580) (by decide +kernel)) rfl), tbl_of (List.mem_of_getElem? (i := 581) (by decide +kernel)) rfl, tbl_of (List.mem_of_getElem? (i := 582) (by decide +kernel)) rfl, by decide, _, _, rfl⟩
theorem lk_X6_25 : LV RX6 25 mX8_start 8 := ⟨Or.inl (tbl_of (List.mem_of_getElem? (i := 584) (by decide +kernel)) rfl), tbl_of (List.mem_of_getElem? (i := 585) (by decide +kernel)) rfl, tbl_of (List.mem_of_getElem? (i := 586) (by decide +kernel)) rfl, by decide, _, _, rfl⟩
theorem lk_X8_45 : LV RX8 45 mX8_addThing 8 := ⟨Or.inl (tbl_of (List.mem_of_getElem? (i := 588) (by decide +kernel)) rfl), tbl_of (List.mem_of_getElem? (i := 589) (by decide +kernel)) rfl, tbl_of (List.mem_of_getElem? (i := 590) (by decide +kernel)) rfl, by decide, _, _, rfl⟩
theorem lk_X11_338 : LV RX11 338 mX7_start 7 := ⟨Or.inl (tbl_of (List.mem_of_getElem? (i := 592) (by decide +kernel)) rfl), tbl_of (List.mem_of_getElem? (i := 593) (by decide +kernel)) rfl, tbl_of (List.mem_of_getElem? (i := 594) (by decide +kernel)) rfl, by decide, _, _, rfl⟩
theorem lk_X7_56 : LSx RX7 56 mX11_spotOf := ⟨Or.inr ⟨"HungFromIce", ntbl_of (List.mem_of_getElem? (i := 596) (by decide +kernel)) rfl⟩, tbl_of (List.mem_of_getElem? (i := 597) (by decide +kernel)) rfl⟩
theorem lk_X11_273 : LV RX11 273 mX2_empty 2 := ⟨Or.inl (tbl_of (List.mem_of_getElem? (i := 599) (by decide +kernel)) rfl), tbl_of (List.mem_of_getElem? (i := 600) (by decide +kernel)) rfl, tbl_of (List.mem_of_getElem? (i := 601) (by decide +kernel)) rfl, by decide, _, _, rfl⟩
theorem lk_X11_313 : LV RX11 313 mX1_empty 1 := ⟨Or.inl (tbl_of (List.mem_of_getElem? (i := 603) (by decide +kernel)) rfl), tbl_of (List.mem_of_getElem? (i := 604) (by decide +kernel)) rfl, tbl_of (List.mem_of_getElem? (i := 605) (by decide +kernel)) rfl, by decide, _, _, rfl⟩
theorem lk_X11_330 : LV RX11 330 mX4_empty 4 := ⟨Or.inl (tbl_of (List.mem_of_getElem? (i := 607) (by decide +kernel)) rfl), tbl_of (List.mem_of_getElem? (i := 608) (by decide +kernel)) rfl, tbl_of (List.mem_of_getElem? (i := 609) (by decide +kernel)) rfl, by decide, _, _, rfl⟩
theorem lk_X11_108 : LV RX11 108 mX9_empty 9 := ⟨Or.inl (tbl_of (List.mem_of_getElem? (i := 611) (by decide +kernel)) rfl), tbl_of (List.mem_of_getElem? (i := 612) (by decide +kernel)) rfl, tbl_of (List.mem_of_getElem? (i := 613) (by decide +kernel)) rfl, by decide, _, _, rfl⟩
theorem lk_L_13 : LV RL 13 mX11_write 11 := ⟨Or.inl (tbl_of (List.mem_of_getElem? (i := 654) (by decide +kernel)) rfl), tbl_of (List.mem_of_getElem? (i := 655) (by decide +kernel)) rfl, tbl_of (List.mem_of_getElem? (i := 656) (by decide +kernel)) rfl, by decide, _, _, rfl⟩
theorem lk_X11_111 : LSx RX11 111 mX11_within := ⟨Or.inl (tbl_of (List.mem_of_getElem? (i := 658) (by decide +kernel)) rfl), tbl_of (List.mem_of_getElem? (i := 533) (by decide +kernel)) rfl⟩
theorem lk_L_18 : LV RL 18 mX11_wipe 11 := ⟨Or.inl (tbl_of (List.mem_of_getElem? (i := 659) (by decide +kernel)) rfl), tbl_of (List.mem_of_getElem? (i := 660) (by decide +kernel)) rfl, tbl_of (List.mem_of_getElem? (i := 661) (by decide +kernel)) rfl, by decide, _, _, rfl⟩
theorem lk_L_23 : LV RL 23 mX11_fault 11 := ⟨Or.inl (tbl_of (List.mem_of_getElem? (i := 663) (by decide +kernel)) rfl), tbl_of (List.mem_of_getElem? (i := 664) (by decide +kernel)) rfl, tbl_of (List.mem_of_getElem? (i := 665) (by decide +kernel)) rfl, by decide, _, _, rfl⟩
theorem lk_L_27 : LV RL 27 mX11_lay 11 := ⟨Or.inl (tbl_of (List.mem_of_getElem? (i := 667) (by decide +kernel)) rfl), tbl_of (List.mem_of_getElem? (i := 668) (by decide +kernel)) rfl, tbl_of (List.mem_of_getElem? (i := 669) (by decide +kernel)) rfl, by decide, _, _, rfl⟩
theorem lk_L_31 : LV RL 31 mX11_level 11 := ⟨Or.inl (tbl_of (List.mem_of_getElem? (i := 671) (by decide +kernel)) rfl), tbl_of (List.mem_of_getElem? (i := 672) (by decide +kernel)) rfl, tbl_of (List.mem_of_getElem? (i := 673) (by decide +kernel)) rfl, by decide, _, _, rfl⟩
theorem lk_X11_128 : LV RX11 128 mX6_isLevel 6 := ⟨Or.inl (tbl_of (List.mem_of_getElem? (i := 675) (by decide +kernel)) rfl), tbl_of (List.mem_of_getElem? (i := 676) (by decide +kernel)) rfl, tbl_of (List.mem_of_getElem? (i := 677) (by decide +kernel)) rfl, by decide, _, _, rfl⟩
theorem lk_L_36 : LV RL 36 mX11_town 11 := ⟨Or.inl (tbl_of (List.mem_of_getElem? (i := 679) (by decide +kernel)) rfl), tbl_of (List.mem_of_getElem? (i := 680) (by decide +kernel)) rfl, tbl_of (List.mem_of_getElem? (i := 681) (by decide +kernel)) rfl, by decide, _, _, rfl⟩
theorem lk_X11_141 : LV RX11 141 mX6_isTown 6 := ⟨Or.inl (tbl_of (List.mem_of_getElem? (i := 683) (by decide +kernel)) rfl), tbl_of (List.mem_of_getElem? (i := 684) (by decide +kernel)) rfl, tbl_of (List.mem_of_getElem? (i := 685) (by decide +kernel)) rfl, by decide, _, _, rfl⟩
theorem lk_L_40 : LV RL 40 mX11_thing 11 := ⟨Or.inl (tbl_of (List.mem_of_getElem? (i := 687) (by decide +kernel)) rfl), tbl_of (List.mem_of_getElem? (i := 688) (by decide +kernel)) rfl, tbl_of (List.mem_of_getElem? (i := 689) (by decide +kernel)) rfl, by decide, _, _, rfl⟩
theorem lk_X11_166 : LV RX11 166 mX6_isThing 6 := ⟨Or.inl (tbl_of (List.mem_of_getElem? (i := 691) (by decide +kernel)) rfl), tbl_of (List.mem_of_getElem? (i := 692) (by decide +kernel)) rfl, tbl_of (List.mem_of_getElem? (i := 693) (by decide +kernel)) rfl, by decide, _, _, rfl⟩
theorem lk_L_44 : LV RL 44 mX11_steps 11 := ⟨Or.inl (tbl_of (List.mem_of_getElem? (i := 695) (by decide +kernel)) rfl), tbl_of (List.mem_of_getElem? (i := 696) (by decide +kernel)) rfl, tbl_of (List.mem_of_getElem? (i := 697) (by decide +kernel)) rfl, by decide, _, _, rfl⟩
theorem lk_X11_184 : LV RX11 184 mX4_push 4 := ⟨Or.inl (tbl_of (List.mem_of_getElem? (i := 699) (by decide +kernel)) rfl), tbl_of (List.mem_of_getElem? (i := 700) (by decide +kernel)) rfl, tbl_of (List.mem_of_getElem? (i := 701) (by decide +kernel)) rfl, by decide, _, _, rfl⟩
theorem lk_X4_29 : LV RX4 29 mX4_slot 4 := ⟨Or.inl (tbl_of (List.mem_of_getElem? (i := 703) (by decide +kernel)) rfl), tbl_of (List.mem_of_getElem? (i := 705) (by decide +kernel)) rfl, tbl_of (List.mem_of_getElem? (i := 13) (by decide +kernel)) rfl, by decide, _, _, rfl⟩
theorem lk_X4_33 : LV RX4 33 mX8_copyFrom 8 := ⟨Or.inl (tbl_of (List.mem_of_getElem? (i := 707) (by decide +kernel)) rfl), tbl_of (List.mem_of_getElem? (i := 708) (by decide +kernel)) rfl, tbl_of (List.mem_of_getElem? (i := 709) (by decide +kernel)) rfl, by decide, _, _, rfl⟩
theorem lk_X11_191 : LV RX11 191 mX0_take 0 := ⟨Or.inl (tbl_of (List.mem_of_getElem? (i := 711) (by decide +kernel)) rfl), tbl_of (List.mem_of_getElem? (i := 712) (by decide +kernel)) rfl, tbl_of (List.mem_of_getElem? (i := 713) (by decide +kernel)) rfl, by decide, _, _, rfl⟩
theorem lk_X0_46 : LV RX0 46 mX0_put 0 := ⟨Or.inl (tbl_of (List.mem_of_getElem? (i := 715) (by decide +kernel)) rfl), tbl_of (List.mem_of_getElem? (i := 716) (by decide +kernel)) rfl, tbl_of (List.mem_of_getElem? (i := 717) (by decide +kernel)) rfl, by decide, _, _, rfl⟩
theorem lk_X11_194 : LV RX11 194 mX0_passMany 0 := ⟨Or.inl (tbl_of (List.mem_of_getElem? (i := 719) (by decide +kernel)) rfl), tbl_of (List.mem_of_getElem? (i := 720) (by decide +kernel)) rfl, tbl_of (List.mem_of_getElem? (i := 721) (by decide +kernel)) rfl, by decide, _, _, rfl⟩
theorem lk_X0_80 : LV RX0 80 mX0_pass 0 := ⟨Or.inl (tbl_of (List.mem_of_getElem? (i := 723) (by decide +kernel)) rfl), tbl_of (List.mem_of_getElem? (i := 724) (by decide +kernel)) rfl, tbl_of (List.mem_of_getElem? (i := 725) (by decide +kernel)) rfl, by decide, _, _, rfl⟩
theorem lk_X0_73 : LV RX0 73 mX0_flow 0 := ⟨Or.inl (tbl_of (List.mem_of_getElem? (i := 727) (by decide +kernel)) rfl), tbl_of (List.mem_of_getElem? (i := 728) (by decide +kernel)) rfl, tbl_of (List.mem_of_getElem? (i := 729) (by decide +kernel)) rfl, by decide, _, _, rfl⟩
theorem lk_X0_53 : LV RX0 53 mX6_isLevel 6 := ⟨Or.inl (tbl_of (List.mem_of_getElem? (i := 731) (by decide +kernel)) rfl), tbl_of (List.mem_of_getElem? (i := 676) (by decide +kernel)) rfl, tbl_of (List.mem_of_getElem? (i := 677) (by decide +kernel)) rfl, by decide, _, _, rfl⟩
theorem lk_X0_69 : LV RX0 69 mX10_wrap 10 := ⟨Or.inl (tbl_of (List.mem_of_getElem? (i := 732) (by decide +kernel)) rfl), tbl_of (List.mem_of_getElem? (i := 733) (by decide +kernel)) rfl, tbl_of (List.mem_of_getElem? (i := 734) (by decide +kernel)) rfl, by decide, _, _, rfl⟩
theorem lk_X10_64 : LSx RX10 64 mJ9_floorMod_7cf53 := ⟨Or.inl (tbl_of (List.mem_of_getElem? (i := 736) (by decide +kernel)) rfl), tbl_of (List.mem_of_getElem? (i := 737) (by decide +kernel)) rfl⟩
theorem lk_X0_76 : LV RX0 76 mX6_townAt 6 := ⟨Or.inl (tbl_of (List.mem_of_getElem? (i := 739) (by decide +kernel)) rfl), tbl_of (List.mem_of_getElem? (i := 740) (by decide +kernel)) rfl, tbl_of (List.mem_of_getElem? (i := 741) (by decide +kernel)) rfl, by decide, _, _, rfl⟩
theorem lk_X11_197 : LV RX11 197 mX0_give 0 := ⟨Or.inl (tbl_of (List.mem_of_getElem? (i := 743) (by decide +kernel)) rfl), tbl_of (List.mem_of_getElem? (i := 744) (by decide +kernel)) rfl, tbl_of (List.mem_of_getElem? (i := 745) (by decide +kernel)) rfl, by decide, _, _, rfl⟩
theorem lk_L_48 : LV RL 48 mX11_letGo 11 := ⟨Or.inl (tbl_of (List.mem_of_getElem? (i := 747) (by decide +kernel)) rfl), tbl_of (List.mem_of_getElem? (i := 748) (by decide +kernel)) rfl, tbl_of (List.mem_of_getElem? (i := 749) (by decide +kernel)) rfl, by decide, _, _, rfl⟩
theorem lk_X11_200 : LV RX11 200 mX8_addThing 8 := ⟨Or.inl (tbl_of (List.mem_of_getElem? (i := 751) (by decide +kernel)) rfl), tbl_of (List.mem_of_getElem? (i := 589) (by decide +kernel)) rfl, tbl_of (List.mem_of_getElem? (i := 590) (by decide +kernel)) rfl, by decide, _, _, rfl⟩
theorem lk_L_52 : LV RL 52 mX11_hang 11 := ⟨Or.inl (tbl_of (List.mem_of_getElem? (i := 752) (by decide +kernel)) rfl), tbl_of (List.mem_of_getElem? (i := 753) (by decide +kernel)) rfl, tbl_of (List.mem_of_getElem? (i := 754) (by decide +kernel)) rfl, by decide, _, _, rfl⟩
theorem lk_X11_204 : LV RX11 204 mX6_isPlace 6 := ⟨Or.inl (tbl_of (List.mem_of_getElem? (i := 756) (by decide +kernel)) rfl), tbl_of (List.mem_of_getElem? (i := 757) (by decide +kernel)) rfl, tbl_of (List.mem_of_getElem? (i := 758) (by decide +kernel)) rfl, by decide, _, _, rfl⟩
theorem lk_X11_207 : LSx RX11 207 mX11_spotOf := ⟨Or.inl (tbl_of (List.mem_of_getElem? (i := 760) (by decide +kernel)) rfl), tbl_of (List.mem_of_getElem? (i := 597) (by decide +kernel)) rfl⟩
theorem lk_X11_211 : LV RX11 211 mX7_isOpen 7 := ⟨Or.inl (tbl_of (List.mem_of_getElem? (i := 761) (by decide +kernel)) rfl), tbl_of (List.mem_of_getElem? (i := 762) (by decide +kernel)) rfl, tbl_of (List.mem_of_getElem? (i := 763) (by decide +kernel)) rfl, by decide, _, _, rfl⟩
theorem lk_X11_214 : LV RX11 214 mX6_townAt 6 := ⟨Or.inl (tbl_of (List.mem_of_getElem? (i := 765) (by decide +kernel)) rfl), tbl_of (List.mem_of_getElem? (i := 740) (by decide +kernel)) rfl, tbl_of (List.mem_of_getElem? (i := 741) (by decide +kernel)) rfl, by decide, _, _, rfl⟩
theorem lk_X11_217 : LV RX11 217 mX8_hangTown 8 := ⟨Or.inl (tbl_of (List.mem_of_getElem? (i := 766) (by decide +kernel)) rfl), tbl_of (List.mem_of_getElem? (i := 767) (by decide +kernel)) rfl, tbl_of (List.mem_of_getElem? (i := 768) (by decide +kernel)) rfl, by decide, _, _, rfl⟩
theorem lk_L_56 : LV RL 56 mX11_cut 11 := ⟨Or.inl (tbl_of (List.mem_of_getElem? (i := 770) (by decide +kernel)) rfl), tbl_of (List.mem_of_getElem? (i := 771) (by decide +kernel)) rfl, tbl_of (List.mem_of_getElem? (i := 772) (by decide +kernel)) rfl, by decide, _, _, rfl⟩
theorem lk_X11_221 : LV RX11 221 mX8_cutTown 8 := ⟨Or.inl (tbl_of (List.mem_of_getElem? (i := 774) (by decide +kernel)) rfl), tbl_of (List.mem_of_getElem? (i := 775) (by decide +kernel)) rfl, tbl_of (List.mem_of_getElem? (i := 776) (by decide +kernel)) rfl, by decide, _, _, rfl⟩
theorem lk_L_60 : LV RL 60 mX11_undo 11 := ⟨Or.inl (tbl_of (List.mem_of_getElem? (i := 778) (by decide +kernel)) rfl), tbl_of (List.mem_of_getElem? (i := 779) (by decide +kernel)) rfl, tbl_of (List.mem_of_getElem? (i := 780) (by decide +kernel)) rfl, by decide, _, _, rfl⟩
theorem lk_X11_224 : LV RX11 224 mX4_pop 4 := ⟨Or.inl (tbl_of (List.mem_of_getElem? (i := 782) (by decide +kernel)) rfl), tbl_of (List.mem_of_getElem? (i := 783) (by decide +kernel)) rfl, tbl_of (List.mem_of_getElem? (i := 784) (by decide +kernel)) rfl, by decide, _, _, rfl⟩
theorem lk_L_64 : LV RL 64 mX11_behind 11 := ⟨Or.inl (tbl_of (List.mem_of_getElem? (i := 786) (by decide +kernel)) rfl), tbl_of (List.mem_of_getElem? (i := 787) (by decide +kernel)) rfl, tbl_of (List.mem_of_getElem? (i := 788) (by decide +kernel)) rfl, by decide, _, _, rfl⟩
theorem lk_L_69 : LV RL 69 mX11_meet 11 := ⟨Or.inl (tbl_of (List.mem_of_getElem? (i := 790) (by decide +kernel)) rfl), tbl_of (List.mem_of_getElem? (i := 791) (by decide +kernel)) rfl, tbl_of (List.mem_of_getElem? (i := 792) (by decide +kernel)) rfl, by decide, _, _, rfl⟩
theorem lk_X11_240 : LV RX11 240 mX0_isWhere 0 := ⟨Or.inl (tbl_of (List.mem_of_getElem? (i := 794) (by decide +kernel)) rfl), tbl_of (List.mem_of_getElem? (i := 795) (by decide +kernel)) rfl, tbl_of (List.mem_of_getElem? (i := 796) (by decide +kernel)) rfl, by decide, _, _, rfl⟩
theorem lk_X11_244 : LV RX11 244 mX0_pass 0 := ⟨Or.inl (tbl_of (List.mem_of_getElem? (i := 798) (by decide +kernel)) rfl), tbl_of (List.mem_of_getElem? (i := 724) (by decide +kernel)) rfl, tbl_of (List.mem_of_getElem? (i := 725) (by decide +kernel)) rfl, by decide, _, _, rfl⟩
theorem lk_L_73 : LV RL 73 mX11_round 11 := ⟨Or.inl (tbl_of (List.mem_of_getElem? (i := 799) (by decide +kernel)) rfl), tbl_of (List.mem_of_getElem? (i := 800) (by decide +kernel)) rfl, tbl_of (List.mem_of_getElem? (i := 801) (by decide +kernel)) rfl, by decide, _, _, rfl⟩
theorem lk_X11_247 : LV RX11 247 mX0_flow 0 := ⟨Or.inl (tbl_of (List.mem_of_getElem? (i := 803) (by decide +kernel)) rfl), tbl_of (List.mem_of_getElem? (i := 728) (by decide +kernel)) rfl, tbl_of (List.mem_of_getElem? (i := 729) (by decide +kernel)) rfl, by decide, _, _, rfl⟩
theorem lk_L_77 : LV RL 77 mX11_time 11 := ⟨Or.inl (tbl_of (List.mem_of_getElem? (i := 804) (by decide +kernel)) rfl), tbl_of (List.mem_of_getElem? (i := 805) (by decide +kernel)) rfl, tbl_of (List.mem_of_getElem? (i := 806) (by decide +kernel)) rfl, by decide, _, _, rfl⟩
theorem lk_X11_250 : LV RX11 250 mX7_rowFrom 7 := ⟨Or.inl (tbl_of (List.mem_of_getElem? (i := 808) (by decide +kernel)) rfl), tbl_of (List.mem_of_getElem? (i := 809) (by decide +kernel)) rfl, tbl_of (List.mem_of_getElem? (i := 810) (by decide +kernel)) rfl, by decide, _, _, rfl⟩
theorem lk_X7_60 : LV RX7 60 mX7_isOpen 7 := ⟨Or.inl (tbl_of (List.mem_of_getElem? (i := 812) (by decide +kernel)) rfl), tbl_of (List.mem_of_getElem? (i := 762) (by decide +kernel)) rfl, tbl_of (List.mem_of_getElem? (i := 763) (by decide +kernel)) rfl, by decide, _, _, rfl⟩
theorem lk_X7_64 : LV RX7 64 mX7_fill 7 := ⟨Or.inl (tbl_of (List.mem_of_getElem? (i := 813) (by decide +kernel)) rfl), tbl_of (List.mem_of_getElem? (i := 815) (by decide +kernel)) rfl, tbl_of (List.mem_of_getElem? (i := 14) (by decide +kernel)) rfl, by decide, _, _, rfl⟩
theorem lk_X7_77 : LV RX7 77 mX7_improve 7 := ⟨Or.inl (tbl_of (List.mem_of_getElem? (i := 817) (by decide +kernel)) rfl), tbl_of (List.mem_of_getElem? (i := 819) (by decide +kernel)) rfl, tbl_of (List.mem_of_getElem? (i := 15) (by decide +kernel)) rfl, by decide, _, _, rfl⟩
theorem lk_X11_254 : LV RX11 254 mX5_beatsTo 5 := ⟨Or.inl (tbl_of (List.mem_of_getElem? (i := 821) (by decide +kernel)) rfl), tbl_of (List.mem_of_getElem? (i := 822) (by decide +kernel)) rfl, tbl_of (List.mem_of_getElem? (i := 823) (by decide +kernel)) rfl, by decide, _, _, rfl⟩
theorem lk_L_82 : LV RL 82 mX11_hears 11 := ⟨Or.inl (tbl_of (List.mem_of_getElem? (i := 826) (by decide +kernel)) rfl), tbl_of (List.mem_of_getElem? (i := 827) (by decide +kernel)) rfl, tbl_of (List.mem_of_getElem? (i := 828) (by decide +kernel)) rfl, by decide, _, _, rfl⟩
theorem lk_X11_261 : LV RX11 261 mX6_townSpot 6 := ⟨Or.inl (tbl_of (List.mem_of_getElem? (i := 830) (by decide +kernel)) rfl), tbl_of (List.mem_of_getElem? (i := 831) (by decide +kernel)) rfl, tbl_of (List.mem_of_getElem? (i := 832) (by decide +kernel)) rfl, by decide, _, _, rfl⟩
theorem lk_X6_49 : LSx RX6 49 mX11_spotOf := ⟨Or.inr ⟨"HungFromIce", ntbl_of (List.mem_of_getElem? (i := 834) (by decide +kernel)) rfl⟩, tbl_of (List.mem_of_getElem? (i := 597) (by decide +kernel)) rfl⟩
theorem lk_L_86 : LV RL 86 mX11_shadow 11 := ⟨Or.inl (tbl_of (List.mem_of_getElem? (i := 835) (by decide +kernel)) rfl), tbl_of (List.mem_of_getElem? (i := 836) (by decide +kernel)) rfl, tbl_of (List.mem_of_getElem? (i := 837) (by decide +kernel)) rfl, by decide, _, _, rfl⟩
theorem lk_L_90 : LV RL 90 mX11_heard 11 := ⟨Or.inl (tbl_of (List.mem_of_getElem? (i := 839) (by decide +kernel)) rfl), tbl_of (List.mem_of_getElem? (i := 840) (by decide +kernel)) rfl, tbl_of (List.mem_of_getElem? (i := 841) (by decide +kernel)) rfl, by decide, _, _, rfl⟩
theorem lk_X11_270 : LV RX11 270 mX2_add 2 := ⟨Or.inl (tbl_of (List.mem_of_getElem? (i := 843) (by decide +kernel)) rfl), tbl_of (List.mem_of_getElem? (i := 844) (by decide +kernel)) rfl, tbl_of (List.mem_of_getElem? (i := 845) (by decide +kernel)) rfl, by decide, _, _, rfl⟩
theorem lk_L_94 : LV RL 94 mX11_hush 11 := ⟨Or.inl (tbl_of (List.mem_of_getElem? (i := 847) (by decide +kernel)) rfl), tbl_of (List.mem_of_getElem? (i := 848) (by decide +kernel)) rfl, tbl_of (List.mem_of_getElem? (i := 849) (by decide +kernel)) rfl, by decide, _, _, rfl⟩
theorem lk_L_98 : LV RL 98 mX11_whence 11 := ⟨Or.inl (tbl_of (List.mem_of_getElem? (i := 851) (by decide +kernel)) rfl), tbl_of (List.mem_of_getElem? (i := 852) (by decide +kernel)) rfl, tbl_of (List.mem_of_getElem? (i := 853) (by decide +kernel)) rfl, by decide, _, _, rfl⟩
theorem lk_X11_274 : LV RX11 274 mX2_seek 2 := ⟨Or.inl (tbl_of (List.mem_of_getElem? (i := 855) (by decide +kernel)) rfl), tbl_of (List.mem_of_getElem? (i := 856) (by decide +kernel)) rfl, tbl_of (List.mem_of_getElem? (i := 857) (by decide +kernel)) rfl, by decide, _, _, rfl⟩
theorem lk_X2_50 : LSx RX2 50 mX11_spotOf := ⟨Or.inr ⟨"HungFromIce", ntbl_of (List.mem_of_getElem? (i := 859) (by decide +kernel)) rfl⟩, tbl_of (List.mem_of_getElem? (i := 597) (by decide +kernel)) rfl⟩
theorem lk_X2_54 : LV RX2 54 mX7_isOpen 7 := ⟨Or.inl (tbl_of (List.mem_of_getElem? (i := 860) (by decide +kernel)) rfl), tbl_of (List.mem_of_getElem? (i := 762) (by decide +kernel)) rfl, tbl_of (List.mem_of_getElem? (i := 763) (by decide +kernel)) rfl, by decide, _, _, rfl⟩
theorem lk_X2_60 : LV RX2 60 mX2_canBeSource 2 := ⟨Or.inl (tbl_of (List.mem_of_getElem? (i := 861) (by decide +kernel)) rfl), tbl_of (List.mem_of_getElem? (i := 863) (by decide +kernel)) rfl, tbl_of (List.mem_of_getElem? (i := 16) (by decide +kernel)) rfl, by decide, _, _, rfl⟩
theorem lk_X2_63 : LV RX2 63 mX6_townSpot 6 := ⟨Or.inl (tbl_of (List.mem_of_getElem? (i := 865) (by decide +kernel)) rfl), tbl_of (List.mem_of_getElem? (i := 831) (by decide +kernel)) rfl, tbl_of (List.mem_of_getElem? (i := 832) (by decide +kernel)) rfl, by decide, _, _, rfl⟩
theorem lk_X2_67 : LV RX2 67 mX7_rowFrom 7 := ⟨Or.inl (tbl_of (List.mem_of_getElem? (i := 866) (by decide +kernel)) rfl), tbl_of (List.mem_of_getElem? (i := 809) (by decide +kernel)) rfl, tbl_of (List.mem_of_getElem? (i := 810) (by decide +kernel)) rfl, by decide, _, _, rfl⟩
theorem lk_X2_71 : LV RX2 71 mX5_beatsTo 5 := ⟨Or.inl (tbl_of (List.mem_of_getElem? (i := 867) (by decide +kernel)) rfl), tbl_of (List.mem_of_getElem? (i := 822) (by decide +kernel)) rfl, tbl_of (List.mem_of_getElem? (i := 823) (by decide +kernel)) rfl, by decide, _, _, rfl⟩
theorem lk_L_102 : LV RL 102 mX11_moved 11 := ⟨Or.inl (tbl_of (List.mem_of_getElem? (i := 869) (by decide +kernel)) rfl), tbl_of (List.mem_of_getElem? (i := 870) (by decide +kernel)) rfl, tbl_of (List.mem_of_getElem? (i := 871) (by decide +kernel)) rfl, by decide, _, _, rfl⟩
theorem lk_X11_283 : LV RX11 283 mX3_seek 3 := ⟨Or.inl (tbl_of (List.mem_of_getElem? (i := 873) (by decide +kernel)) rfl), tbl_of (List.mem_of_getElem? (i := 874) (by decide +kernel)) rfl, tbl_of (List.mem_of_getElem? (i := 875) (by decide +kernel)) rfl, by decide, _, _, rfl⟩
theorem lk_X3_53 : LV RX3 53 mX6_townSpot 6 := ⟨Or.inl (tbl_of (List.mem_of_getElem? (i := 877) (by decide +kernel)) rfl), tbl_of (List.mem_of_getElem? (i := 831) (by decide +kernel)) rfl, tbl_of (List.mem_of_getElem? (i := 832) (by decide +kernel)) rfl, by decide, _, _, rfl⟩
theorem lk_X3_57 : LV RX3 57 mX3_hangAt 3 := ⟨Or.inl (tbl_of (List.mem_of_getElem? (i := 878) (by decide +kernel)) rfl), tbl_of (List.mem_of_getElem? (i := 880) (by decide +kernel)) rfl, tbl_of (List.mem_of_getElem? (i := 17) (by decide +kernel)) rfl, by decide, _, _, rfl⟩
theorem lk_X3_72 : LV RX3 72 mX7_rowFrom 7 := ⟨Or.inl (tbl_of (List.mem_of_getElem? (i := 882) (by decide +kernel)) rfl), tbl_of (List.mem_of_getElem? (i := 809) (by decide +kernel)) rfl, tbl_of (List.mem_of_getElem? (i := 810) (by decide +kernel)) rfl, by decide, _, _, rfl⟩
theorem lk_X3_61 : LV RX3 61 mX3_allHear 3 := ⟨Or.inl (tbl_of (List.mem_of_getElem? (i := 883) (by decide +kernel)) rfl), tbl_of (List.mem_of_getElem? (i := 885) (by decide +kernel)) rfl, tbl_of (List.mem_of_getElem? (i := 18) (by decide +kernel)) rfl, by decide, _, _, rfl⟩
theorem lk_X3_117 : LV RX3 117 mX3_beatsFrom 3 := ⟨Or.inl (tbl_of (List.mem_of_getElem? (i := 887) (by decide +kernel)) rfl), tbl_of (List.mem_of_getElem? (i := 889) (by decide +kernel)) rfl, tbl_of (List.mem_of_getElem? (i := 19) (by decide +kernel)) rfl, by decide, _, _, rfl⟩
theorem lk_X3_65 : LV RX3 65 mX3_seekOne 3 := ⟨Or.inl (tbl_of (List.mem_of_getElem? (i := 892) (by decide +kernel)) rfl), tbl_of (List.mem_of_getElem? (i := 894) (by decide +kernel)) rfl, tbl_of (List.mem_of_getElem? (i := 20) (by decide +kernel)) rfl, by decide, _, _, rfl⟩
theorem lk_X3_78 : LV RX3 78 mX3_seekAbove 3 := ⟨Or.inl (tbl_of (List.mem_of_getElem? (i := 896) (by decide +kernel)) rfl), tbl_of (List.mem_of_getElem? (i := 898) (by decide +kernel)) rfl, tbl_of (List.mem_of_getElem? (i := 21) (by decide +kernel)) rfl, by decide, _, _, rfl⟩
theorem lk_X3_108 : LV RX3 108 mX3_placeFor 3 := ⟨Or.inl (tbl_of (List.mem_of_getElem? (i := 900) (by decide +kernel)) rfl), tbl_of (List.mem_of_getElem? (i := 902) (by decide +kernel)) rfl, tbl_of (List.mem_of_getElem? (i := 22) (by decide +kernel)) rfl, by decide, _, _, rfl⟩
theorem lk_X3_97 : LV RX3 97 mX3_isFree 3 := ⟨Or.inl (tbl_of (List.mem_of_getElem? (i := 904) (by decide +kernel)) rfl), tbl_of (List.mem_of_getElem? (i := 906) (by decide +kernel)) rfl, tbl_of (List.mem_of_getElem? (i := 23) (by decide +kernel)) rfl, by decide, _, _, rfl⟩
theorem lk_X3_104 : LSx RX3 104 mX11_spotOf := ⟨Or.inr ⟨"HungFromIce", ntbl_of (List.mem_of_getElem? (i := 908) (by decide +kernel)) rfl⟩, tbl_of (List.mem_of_getElem? (i := 597) (by decide +kernel)) rfl⟩
theorem lk_X3_114 : LV RX3 114 mX7_isOpen 7 := ⟨Or.inl (tbl_of (List.mem_of_getElem? (i := 909) (by decide +kernel)) rfl), tbl_of (List.mem_of_getElem? (i := 762) (by decide +kernel)) rfl, tbl_of (List.mem_of_getElem? (i := 763) (by decide +kernel)) rfl, by decide, _, _, rfl⟩
theorem lk_X3_111 : LV RX3 111 mX3_allHearAt 3 := ⟨Or.inl (tbl_of (List.mem_of_getElem? (i := 910) (by decide +kernel)) rfl), tbl_of (List.mem_of_getElem? (i := 912) (by decide +kernel)) rfl, tbl_of (List.mem_of_getElem? (i := 24) (by decide +kernel)) rfl, by decide, _, _, rfl⟩
theorem lk_X3_69 : LV RX3 69 mX3_seekTwo 3 := ⟨Or.inl (tbl_of (List.mem_of_getElem? (i := 914) (by decide +kernel)) rfl), tbl_of (List.mem_of_getElem? (i := 916) (by decide +kernel)) rfl, tbl_of (List.mem_of_getElem? (i := 25) (by decide +kernel)) rfl, by decide, _, _, rfl⟩
theorem lk_X3_91 : LV RX3 91 mX3_seekWith 3 := ⟨Or.inl (tbl_of (List.mem_of_getElem? (i := 918) (by decide +kernel)) rfl), tbl_of (List.mem_of_getElem? (i := 920) (by decide +kernel)) rfl, tbl_of (List.mem_of_getElem? (i := 26) (by decide +kernel)) rfl, by decide, _, _, rfl⟩
theorem lk_L_106 : LV RL 106 mX11_sent 11 := ⟨Or.inl (tbl_of (List.mem_of_getElem? (i := 922) (by decide +kernel)) rfl), tbl_of (List.mem_of_getElem? (i := 923) (by decide +kernel)) rfl, tbl_of (List.mem_of_getElem? (i := 924) (by decide +kernel)) rfl, by decide, _, _, rfl⟩
theorem lk_X11_294 : LV RX11 294 mX0_put 0 := ⟨Or.inl (tbl_of (List.mem_of_getElem? (i := 926) (by decide +kernel)) rfl), tbl_of (List.mem_of_getElem? (i := 716) (by decide +kernel)) rfl, tbl_of (List.mem_of_getElem? (i := 717) (by decide +kernel)) rfl, by decide, _, _, rfl⟩
theorem lk_X11_298 : LV RX11 298 mX0_passUntilCaught 0 := ⟨Or.inl (tbl_of (List.mem_of_getElem? (i := 927) (by decide +kernel)) rfl), tbl_of (List.mem_of_getElem? (i := 928) (by decide +kernel)) rfl, tbl_of (List.mem_of_getElem? (i := 929) (by decide +kernel)) rfl, by decide, _, _, rfl⟩
theorem lk_L_110 : LV RL 110 mX11_fall 11 := ⟨Or.inl (tbl_of (List.mem_of_getElem? (i := 931) (by decide +kernel)) rfl), tbl_of (List.mem_of_getElem? (i := 932) (by decide +kernel)) rfl, tbl_of (List.mem_of_getElem? (i := 933) (by decide +kernel)) rfl, by decide, _, _, rfl⟩
theorem lk_L_114 : LV RL 114 mX11_clear 11 := ⟨Or.inl (tbl_of (List.mem_of_getElem? (i := 935) (by decide +kernel)) rfl), tbl_of (List.mem_of_getElem? (i := 936) (by decide +kernel)) rfl, tbl_of (List.mem_of_getElem? (i := 937) (by decide +kernel)) rfl, by decide, _, _, rfl⟩
theorem lk_X11_301 : LV RX11 301 mX11_clearingPrice 11 := ⟨Or.inl (tbl_of (List.mem_of_getElem? (i := 939) (by decide +kernel)) rfl), tbl_of (List.mem_of_getElem? (i := 941) (by decide +kernel)) rfl, tbl_of (List.mem_of_getElem? (i := 27) (by decide +kernel)) rfl, by decide, _, _, rfl⟩
theorem lk_X11_339 : LV RX11 339 mX11_anyTown 11 := ⟨Or.inl (tbl_of (List.mem_of_getElem? (i := 943) (by decide +kernel)) rfl), tbl_of (List.mem_of_getElem? (i := 945) (by decide +kernel)) rfl, tbl_of (List.mem_of_getElem? (i := 28) (by decide +kernel)) rfl, by decide, _, _, rfl⟩
theorem lk_X11_342 : LV RX11 342 mX11_lackAt 11 := ⟨Or.inl (tbl_of (List.mem_of_getElem? (i := 947) (by decide +kernel)) rfl), tbl_of (List.mem_of_getElem? (i := 949) (by decide +kernel)) rfl, tbl_of (List.mem_of_getElem? (i := 29) (by decide +kernel)) rfl, by decide, _, _, rfl⟩
theorem lk_X11_304 : LSx RX11 304 mJ9_max_7cf53 := ⟨Or.inl (tbl_of (List.mem_of_getElem? (i := 951) (by decide +kernel)) rfl), tbl_of (List.mem_of_getElem? (i := 282) (by decide +kernel)) rfl⟩
theorem lk_L_118 : LV RL 118 mX11_gain 11 := ⟨Or.inl (tbl_of (List.mem_of_getElem? (i := 952) (by decide +kernel)) rfl), tbl_of (List.mem_of_getElem? (i := 953) (by decide +kernel)) rfl, tbl_of (List.mem_of_getElem? (i := 954) (by decide +kernel)) rfl, by decide, _, _, rfl⟩
theorem lk_L_122 : LV RL 122 mX11_drifted 11 := ⟨Or.inl (tbl_of (List.mem_of_getElem? (i := 956) (by decide +kernel)) rfl), tbl_of (List.mem_of_getElem? (i := 957) (by decide +kernel)) rfl, tbl_of (List.mem_of_getElem? (i := 958) (by decide +kernel)) rfl, by decide, _, _, rfl⟩
theorem lk_X11_309 : LV RX11 309 mX1_add 1 := ⟨Or.inl (tbl_of (List.mem_of_getElem? (i := 960) (by decide +kernel)) rfl), tbl_of (List.mem_of_getElem? (i := 961) (by decide +kernel)) rfl, tbl_of (List.mem_of_getElem? (i := 962) (by decide +kernel)) rfl, by decide, _, _, rfl⟩
theorem lk_L_126 : LV RL 126 mX11_forget 11 := ⟨Or.inl (tbl_of (List.mem_of_getElem? (i := 964) (by decide +kernel)) rfl), tbl_of (List.mem_of_getElem? (i := 965) (by decide +kernel)) rfl, tbl_of (List.mem_of_getElem? (i := 966) (by decide +kernel)) rfl, by decide, _, _, rfl⟩
theorem lk_L_130 : LV RL 130 mX11_currents 11 := ⟨Or.inl (tbl_of (List.mem_of_getElem? (i := 968) (by decide +kernel)) rfl), tbl_of (List.mem_of_getElem? (i := 969) (by decide +kernel)) rfl, tbl_of (List.mem_of_getElem? (i := 970) (by decide +kernel)) rfl, by decide, _, _, rfl⟩
theorem lk_X11_314 : LV RX11 314 mX1_allBy 1 := ⟨Or.inl (tbl_of (List.mem_of_getElem? (i := 972) (by decide +kernel)) rfl), tbl_of (List.mem_of_getElem? (i := 973) (by decide +kernel)) rfl, tbl_of (List.mem_of_getElem? (i := 974) (by decide +kernel)) rfl, by decide, _, _, rfl⟩
theorem lk_X1_28 : LV RX1 28 mX10_wrap 10 := ⟨Or.inl (tbl_of (List.mem_of_getElem? (i := 976) (by decide +kernel)) rfl), tbl_of (List.mem_of_getElem? (i := 733) (by decide +kernel)) rfl, tbl_of (List.mem_of_getElem? (i := 734) (by decide +kernel)) rfl, by decide, _, _, rfl⟩
theorem lk_L_134 : LV RL 134 mX11_leak 11 := ⟨Or.inl (tbl_of (List.mem_of_getElem? (i := 977) (by decide +kernel)) rfl), tbl_of (List.mem_of_getElem? (i := 978) (by decide +kernel)) rfl, tbl_of (List.mem_of_getElem? (i := 979) (by decide +kernel)) rfl, by decide, _, _, rfl⟩
theorem lk_X11_320 : LV RX11 320 mX11_spreadOdds 11 := ⟨Or.inl (tbl_of (List.mem_of_getElem? (i := 982) (by decide +kernel)) rfl), tbl_of (List.mem_of_getElem? (i := 984) (by decide +kernel)) rfl, tbl_of (List.mem_of_getElem? (i := 30) (by decide +kernel)) rfl, by decide, _, _, rfl⟩
theorem lk_X11_323 : LSx RX11 323 mX11_commonDivisor := ⟨Or.inl (tbl_of (List.mem_of_getElem? (i := 987) (by decide +kernel)) rfl), tbl_of (List.mem_of_getElem? (i := 988) (by decide +kernel)) rfl⟩
theorem lk_L_139 : LV RL 139 mX11_year 11 := ⟨Or.inl (tbl_of (List.mem_of_getElem? (i := 990) (by decide +kernel)) rfl), tbl_of (List.mem_of_getElem? (i := 991) (by decide +kernel)) rfl, tbl_of (List.mem_of_getElem? (i := 992) (by decide +kernel)) rfl, by decide, _, _, rfl⟩
theorem lk_X11_327 : LV RX11 327 mX11_putDrawn 11 := ⟨Or.inl (tbl_of (List.mem_of_getElem? (i := 994) (by decide +kernel)) rfl), tbl_of (List.mem_of_getElem? (i := 996) (by decide +kernel)) rfl, tbl_of (List.mem_of_getElem? (i := 31) (by decide +kernel)) rfl, by decide, _, _, rfl⟩
theorem lk_X11_353 : LV RX11 353 mX10_wrap 10 := ⟨Or.inl (tbl_of (List.mem_of_getElem? (i := 1001) (by decide +kernel)) rfl), tbl_of (List.mem_of_getElem? (i := 733) (by decide +kernel)) rfl, tbl_of (List.mem_of_getElem? (i := 734) (by decide +kernel)) rfl, by decide, _, _, rfl⟩
theorem lk_L_143 : LV RL 143 mX11_keep 11 := ⟨Or.inl (tbl_of (List.mem_of_getElem? (i := 1002) (by decide +kernel)) rfl), tbl_of (List.mem_of_getElem? (i := 1003) (by decide +kernel)) rfl, tbl_of (List.mem_of_getElem? (i := 1004) (by decide +kernel)) rfl, by decide, _, _, rfl⟩
theorem lk_L_147 : LV RL 147 mX11_back 11 := ⟨Or.inl (tbl_of (List.mem_of_getElem? (i := 1006) (by decide +kernel)) rfl), tbl_of (List.mem_of_getElem? (i := 1007) (by decide +kernel)) rfl, tbl_of (List.mem_of_getElem? (i := 1008) (by decide +kernel)) rfl, by decide, _, _, rfl⟩
theorem lk_L_151 : LV RL 151 mX11_count 11 := ⟨Or.inl (tbl_of (List.mem_of_getElem? (i := 1010) (by decide +kernel)) rfl), tbl_of (List.mem_of_getElem? (i := 1011) (by decide +kernel)) rfl, tbl_of (List.mem_of_getElem? (i := 1012) (by decide +kernel)) rfl, by decide, _, _, rfl⟩
theorem lk_L_12 : LI RL 12 mX12_init := ⟨Or.inl (tbl_of (List.mem_of_getElem? (i := 1016) (by decide +kernel)) rfl), tbl_of (List.mem_of_getElem? (i := 1017) (by decide +kernel)) rfl, rfl, rfl⟩
theorem lk_X12_52 : LV RX12 52 mX12_begins 12 := ⟨Or.inl (tbl_of (List.mem_of_getElem? (i := 1021) (by decide +kernel)) rfl), tbl_of (List.mem_of_getElem? (i := 1023) (by decide +kernel)) rfl, tbl_of (List.mem_of_getElem? (i := 32) (by decide +kernel)) rfl, by decide, _, _, rfl⟩
theorem lk_X12_55 : LV RX12 55 mX12_takes 12 := ⟨Or.inl (tbl_of (List.mem_of_getElem? (i := 1025) (by decide +kernel)) rfl), tbl_of (List.mem_of_getElem? (i := 1027) (by decide +kernel)) rfl, tbl_of (List.mem_of_getElem? (i := 33) (by decide +kernel)) rfl, by decide, _, _, rfl⟩
theorem lk_L_17 : LV RL 17 mX12_write 12 := ⟨Or.inl (tbl_of (List.mem_of_getElem? (i := 1099) (by decide +kernel)) rfl), tbl_of (List.mem_of_getElem? (i := 1100) (by decide +kernel)) rfl, tbl_of (List.mem_of_getElem? (i := 1101) (by decide +kernel)) rfl, by decide, _, _, rfl⟩
theorem lk_X12_62 : LSx RX12 62 mX12_in := ⟨Or.inl (tbl_of (List.mem_of_getElem? (i := 1105) (by decide +kernel)) rfl), tbl_of (List.mem_of_getElem? (i := 1106) (by decide +kernel)) rfl⟩
theorem lk_L_22 : LV RL 22 mX12_wipe 12 := ⟨Or.inl (tbl_of (List.mem_of_getElem? (i := 1108) (by decide +kernel)) rfl), tbl_of (List.mem_of_getElem? (i := 1109) (by decide +kernel)) rfl, tbl_of (List.mem_of_getElem? (i := 1110) (by decide +kernel)) rfl, by decide, _, _, rfl⟩
theorem lk_L_26 : LV RL 26 mX12_fault 12 := ⟨Or.inl (tbl_of (List.mem_of_getElem? (i := 1112) (by decide +kernel)) rfl), tbl_of (List.mem_of_getElem? (i := 1113) (by decide +kernel)) rfl, tbl_of (List.mem_of_getElem? (i := 1114) (by decide +kernel)) rfl, by decide, _, _, rfl⟩
theorem lk_X12_117 : LV RX12 117 mX12_isItem 12 := ⟨Or.inl (tbl_of (List.mem_of_getElem? (i := 1116) (by decide +kernel)) rfl), tbl_of (List.mem_of_getElem? (i := 1118) (by decide +kernel)) rfl, tbl_of (List.mem_of_getElem? (i := 34) (by decide +kernel)) rfl, by decide, _, _, rfl⟩
theorem lk_X12_79 : LSx RX12 79 mX12_numbers := ⟨Or.inl (tbl_of (List.mem_of_getElem? (i := 1120) (by decide +kernel)) rfl), tbl_of (List.mem_of_getElem? (i := 1121) (by decide +kernel)) rfl⟩
theorem lk_X12_83 : LV RX12 83 mX12_number 12 := ⟨Or.inl (tbl_of (List.mem_of_getElem? (i := 1123) (by decide +kernel)) rfl), tbl_of (List.mem_of_getElem? (i := 1125) (by decide +kernel)) rfl, tbl_of (List.mem_of_getElem? (i := 35) (by decide +kernel)) rfl, by decide, _, _, rfl⟩
theorem lk_X12_87 : LV RX12 87 mX12_isGood 12 := ⟨Or.inl (tbl_of (List.mem_of_getElem? (i := 1130) (by decide +kernel)) rfl), tbl_of (List.mem_of_getElem? (i := 1132) (by decide +kernel)) rfl, tbl_of (List.mem_of_getElem? (i := 36) (by decide +kernel)) rfl, by decide, _, _, rfl⟩
theorem lk_X12_97 : LV RX12 97 mX12_isPut 12 := ⟨Or.inl (tbl_of (List.mem_of_getElem? (i := 1137) (by decide +kernel)) rfl), tbl_of (List.mem_of_getElem? (i := 1139) (by decide +kernel)) rfl, tbl_of (List.mem_of_getElem? (i := 37) (by decide +kernel)) rfl, by decide, _, _, rfl⟩
theorem lk_L_30 : LV RL 30 mX12_lay 12 := ⟨Or.inl (tbl_of (List.mem_of_getElem? (i := 1141) (by decide +kernel)) rfl), tbl_of (List.mem_of_getElem? (i := 1142) (by decide +kernel)) rfl, tbl_of (List.mem_of_getElem? (i := 1143) (by decide +kernel)) rfl, by decide, _, _, rfl⟩
theorem lk_X12_121 : LV RX12 121 mX12_fault 12 := ⟨Or.inl (tbl_of (List.mem_of_getElem? (i := 1145) (by decide +kernel)) rfl), tbl_of (List.mem_of_getElem? (i := 1113) (by decide +kernel)) rfl, tbl_of (List.mem_of_getElem? (i := 1114) (by decide +kernel)) rfl, by decide, _, _, rfl⟩
theorem lk_X12_124 : LV RX12 124 mX12_isSound 12 := ⟨Or.inl (tbl_of (List.mem_of_getElem? (i := 1146) (by decide +kernel)) rfl), tbl_of (List.mem_of_getElem? (i := 1148) (by decide +kernel)) rfl, tbl_of (List.mem_of_getElem? (i := 38) (by decide +kernel)) rfl, by decide, _, _, rfl⟩
theorem lk_L_35 : LV RL 35 mX12_level 12 := ⟨Or.inl (tbl_of (List.mem_of_getElem? (i := 1150) (by decide +kernel)) rfl), tbl_of (List.mem_of_getElem? (i := 1151) (by decide +kernel)) rfl, tbl_of (List.mem_of_getElem? (i := 1152) (by decide +kernel)) rfl, by decide, _, _, rfl⟩
theorem lk_X12_130 : LV RX12 130 mX12_isLevel 12 := ⟨Or.inl (tbl_of (List.mem_of_getElem? (i := 1154) (by decide +kernel)) rfl), tbl_of (List.mem_of_getElem? (i := 1156) (by decide +kernel)) rfl, tbl_of (List.mem_of_getElem? (i := 39) (by decide +kernel)) rfl, by decide, _, _, rfl⟩
theorem lk_L_39 : LV RL 39 mX12_town 12 := ⟨Or.inl (tbl_of (List.mem_of_getElem? (i := 1158) (by decide +kernel)) rfl), tbl_of (List.mem_of_getElem? (i := 1159) (by decide +kernel)) rfl, tbl_of (List.mem_of_getElem? (i := 1160) (by decide +kernel)) rfl, by decide, _, _, rfl⟩
theorem lk_X12_133 : LV RX12 133 mX12_isTown 12 := ⟨Or.inl (tbl_of (List.mem_of_getElem? (i := 1162) (by decide +kernel)) rfl), tbl_of (List.mem_of_getElem? (i := 1164) (by decide +kernel)) rfl, tbl_of (List.mem_of_getElem? (i := 40) (by decide +kernel)) rfl, by decide, _, _, rfl⟩
theorem lk_X12_127 : LV RX12 127 mX12_levelOf 12 := ⟨Or.inl (tbl_of (List.mem_of_getElem? (i := 1166) (by decide +kernel)) rfl), tbl_of (List.mem_of_getElem? (i := 1168) (by decide +kernel)) rfl, tbl_of (List.mem_of_getElem? (i := 41) (by decide +kernel)) rfl, by decide, _, _, rfl⟩
theorem lk_L_43 : LV RL 43 mX12_thing 12 := ⟨Or.inl (tbl_of (List.mem_of_getElem? (i := 1170) (by decide +kernel)) rfl), tbl_of (List.mem_of_getElem? (i := 1171) (by decide +kernel)) rfl, tbl_of (List.mem_of_getElem? (i := 1172) (by decide +kernel)) rfl, by decide, _, _, rfl⟩
theorem lk_X12_136 : LV RX12 136 mX12_isThing 12 := ⟨Or.inl (tbl_of (List.mem_of_getElem? (i := 1174) (by decide +kernel)) rfl), tbl_of (List.mem_of_getElem? (i := 1176) (by decide +kernel)) rfl, tbl_of (List.mem_of_getElem? (i := 42) (by decide +kernel)) rfl, by decide, _, _, rfl⟩
theorem lk_X12_141 : LV RX12 141 mX12_tells 12 := ⟨Or.inl (tbl_of (List.mem_of_getElem? (i := 1179) (by decide +kernel)) rfl), tbl_of (List.mem_of_getElem? (i := 1181) (by decide +kernel)) rfl, tbl_of (List.mem_of_getElem? (i := 43) (by decide +kernel)) rfl, by decide, _, _, rfl⟩
theorem lk_L_47 : LV RL 47 mX12_steps 12 := ⟨Or.inl (tbl_of (List.mem_of_getElem? (i := 1183) (by decide +kernel)) rfl), tbl_of (List.mem_of_getElem? (i := 1184) (by decide +kernel)) rfl, tbl_of (List.mem_of_getElem? (i := 1185) (by decide +kernel)) rfl, by decide, _, _, rfl⟩
theorem lk_X12_159 : LV RX12 159 mX12_known 12 := ⟨Or.inl (tbl_of (List.mem_of_getElem? (i := 1188) (by decide +kernel)) rfl), tbl_of (List.mem_of_getElem? (i := 1190) (by decide +kernel)) rfl, tbl_of (List.mem_of_getElem? (i := 44) (by decide +kernel)) rfl, by decide, _, _, rfl⟩
theorem lk_X12_145 : LV RX12 145 mX12_copies 12 := ⟨Or.inl (tbl_of (List.mem_of_getElem? (i := 1192) (by decide +kernel)) rfl), tbl_of (List.mem_of_getElem? (i := 1194) (by decide +kernel)) rfl, tbl_of (List.mem_of_getElem? (i := 45) (by decide +kernel)) rfl, by decide, _, _, rfl⟩
theorem lk_X12_162 : LV RX12 162 mX12_step 12 := ⟨Or.inl (tbl_of (List.mem_of_getElem? (i := 1196) (by decide +kernel)) rfl), tbl_of (List.mem_of_getElem? (i := 1198) (by decide +kernel)) rfl, tbl_of (List.mem_of_getElem? (i := 46) (by decide +kernel)) rfl, by decide, _, _, rfl⟩
theorem lk_X12_154 : LV RX12 154 mX12_goes 12 := ⟨Or.inl (tbl_of (List.mem_of_getElem? (i := 1200) (by decide +kernel)) rfl), tbl_of (List.mem_of_getElem? (i := 1202) (by decide +kernel)) rfl, tbl_of (List.mem_of_getElem? (i := 47) (by decide +kernel)) rfl, by decide, _, _, rfl⟩
theorem lk_X12_149 : LV RX12 149 mX12_drifts 12 := ⟨Or.inl (tbl_of (List.mem_of_getElem? (i := 1204) (by decide +kernel)) rfl), tbl_of (List.mem_of_getElem? (i := 1206) (by decide +kernel)) rfl, tbl_of (List.mem_of_getElem? (i := 48) (by decide +kernel)) rfl, by decide, _, _, rfl⟩
theorem lk_X12_151 : LV RX12 151 mX12_townAt 12 := ⟨Or.inl (tbl_of (List.mem_of_getElem? (i := 1208) (by decide +kernel)) rfl), tbl_of (List.mem_of_getElem? (i := 1210) (by decide +kernel)) rfl, tbl_of (List.mem_of_getElem? (i := 49) (by decide +kernel)) rfl, by decide, _, _, rfl⟩
theorem lk_L_51 : LV RL 51 mX12_letGo 12 := ⟨Or.inl (tbl_of (List.mem_of_getElem? (i := 1212) (by decide +kernel)) rfl), tbl_of (List.mem_of_getElem? (i := 1213) (by decide +kernel)) rfl, tbl_of (List.mem_of_getElem? (i := 1214) (by decide +kernel)) rfl, by decide, _, _, rfl⟩
theorem lk_X12_165 : LV RX12 165 mX12_isCut 12 := ⟨Or.inl (tbl_of (List.mem_of_getElem? (i := 1216) (by decide +kernel)) rfl), tbl_of (List.mem_of_getElem? (i := 1218) (by decide +kernel)) rfl, tbl_of (List.mem_of_getElem? (i := 50) (by decide +kernel)) rfl, by decide, _, _, rfl⟩
theorem lk_X12_168 : LV RX12 168 mX12_more 12 := ⟨Or.inl (tbl_of (List.mem_of_getElem? (i := 1220) (by decide +kernel)) rfl), tbl_of (List.mem_of_getElem? (i := 1222) (by decide +kernel)) rfl, tbl_of (List.mem_of_getElem? (i := 51) (by decide +kernel)) rfl, by decide, _, _, rfl⟩
theorem lk_L_55 : LV RL 55 mX12_hang 12 := ⟨Or.inl (tbl_of (List.mem_of_getElem? (i := 1224) (by decide +kernel)) rfl), tbl_of (List.mem_of_getElem? (i := 1225) (by decide +kernel)) rfl, tbl_of (List.mem_of_getElem? (i := 1226) (by decide +kernel)) rfl, by decide, _, _, rfl⟩
theorem lk_X12_172 : LV RX12 172 mX12_isPlace 12 := ⟨Or.inl (tbl_of (List.mem_of_getElem? (i := 1228) (by decide +kernel)) rfl), tbl_of (List.mem_of_getElem? (i := 1230) (by decide +kernel)) rfl, tbl_of (List.mem_of_getElem? (i := 52) (by decide +kernel)) rfl, by decide, _, _, rfl⟩
theorem lk_X12_175 : LV RX12 175 mX12_isMarket 12 := ⟨Or.inl (tbl_of (List.mem_of_getElem? (i := 1232) (by decide +kernel)) rfl), tbl_of (List.mem_of_getElem? (i := 1234) (by decide +kernel)) rfl, tbl_of (List.mem_of_getElem? (i := 53) (by decide +kernel)) rfl, by decide, _, _, rfl⟩
theorem lk_L_59 : LV RL 59 mX12_cut 12 := ⟨Or.inl (tbl_of (List.mem_of_getElem? (i := 1236) (by decide +kernel)) rfl), tbl_of (List.mem_of_getElem? (i := 1237) (by decide +kernel)) rfl, tbl_of (List.mem_of_getElem? (i := 1238) (by decide +kernel)) rfl, by decide, _, _, rfl⟩
theorem lk_L_63 : LV RL 63 mX12_undo 12 := ⟨Or.inl (tbl_of (List.mem_of_getElem? (i := 1240) (by decide +kernel)) rfl), tbl_of (List.mem_of_getElem? (i := 1241) (by decide +kernel)) rfl, tbl_of (List.mem_of_getElem? (i := 1242) (by decide +kernel)) rfl, by decide, _, _, rfl⟩
theorem lk_L_68 : LV RL 68 mX12_behind 12 := ⟨Or.inl (tbl_of (List.mem_of_getElem? (i := 1244) (by decide +kernel)) rfl), tbl_of (List.mem_of_getElem? (i := 1245) (by decide +kernel)) rfl, tbl_of (List.mem_of_getElem? (i := 1246) (by decide +kernel)) rfl, by decide, _, _, rfl⟩
theorem lk_L_72 : LV RL 72 mX12_meet 12 := ⟨Or.inl (tbl_of (List.mem_of_getElem? (i := 1248) (by decide +kernel)) rfl), tbl_of (List.mem_of_getElem? (i := 1249) (by decide +kernel)) rfl, tbl_of (List.mem_of_getElem? (i := 1250) (by decide +kernel)) rfl, by decide, _, _, rfl⟩
theorem lk_X12_179 : LV RX12 179 mX12_areMet 12 := ⟨Or.inl (tbl_of (List.mem_of_getElem? (i := 1252) (by decide +kernel)) rfl), tbl_of (List.mem_of_getElem? (i := 1254) (by decide +kernel)) rfl, tbl_of (List.mem_of_getElem? (i := 54) (by decide +kernel)) rfl, by decide, _, _, rfl⟩
theorem lk_L_76 : LV RL 76 mX12_round 12 := ⟨Or.inl (tbl_of (List.mem_of_getElem? (i := 1256) (by decide +kernel)) rfl), tbl_of (List.mem_of_getElem? (i := 1257) (by decide +kernel)) rfl, tbl_of (List.mem_of_getElem? (i := 1258) (by decide +kernel)) rfl, by decide, _, _, rfl⟩
theorem lk_L_81 : LV RL 81 mX12_time 12 := ⟨Or.inl (tbl_of (List.mem_of_getElem? (i := 1260) (by decide +kernel)) rfl), tbl_of (List.mem_of_getElem? (i := 1261) (by decide +kernel)) rfl, tbl_of (List.mem_of_getElem? (i := 1262) (by decide +kernel)) rfl, by decide, _, _, rfl⟩
theorem lk_X12_193 : LV RX12 193 mX12_sounds 12 := ⟨Or.inl (tbl_of (List.mem_of_getElem? (i := 1264) (by decide +kernel)) rfl), tbl_of (List.mem_of_getElem? (i := 1266) (by decide +kernel)) rfl, tbl_of (List.mem_of_getElem? (i := 55) (by decide +kernel)) rfl, by decide, _, _, rfl⟩
theorem lk_X12_182 : LV RX12 182 mX12_isSpot 12 := ⟨Or.inl (tbl_of (List.mem_of_getElem? (i := 1268) (by decide +kernel)) rfl), tbl_of (List.mem_of_getElem? (i := 1270) (by decide +kernel)) rfl, tbl_of (List.mem_of_getElem? (i := 56) (by decide +kernel)) rfl, by decide, _, _, rfl⟩
theorem lk_X12_190 : LV RX12 190 mX12_isSpread 12 := ⟨Or.inl (tbl_of (List.mem_of_getElem? (i := 1273) (by decide +kernel)) rfl), tbl_of (List.mem_of_getElem? (i := 1275) (by decide +kernel)) rfl, tbl_of (List.mem_of_getElem? (i := 57) (by decide +kernel)) rfl, by decide, _, _, rfl⟩
theorem lk_X12_186 : LV RX12 186 mX12_isSooner 12 := ⟨Or.inl (tbl_of (List.mem_of_getElem? (i := 1277) (by decide +kernel)) rfl), tbl_of (List.mem_of_getElem? (i := 1279) (by decide +kernel)) rfl, tbl_of (List.mem_of_getElem? (i := 58) (by decide +kernel)) rfl, by decide, _, _, rfl⟩
theorem lk_X12_196 : LV RX12 196 mX12_timeOf 12 := ⟨Or.inl (tbl_of (List.mem_of_getElem? (i := 1281) (by decide +kernel)) rfl), tbl_of (List.mem_of_getElem? (i := 1283) (by decide +kernel)) rfl, tbl_of (List.mem_of_getElem? (i := 59) (by decide +kernel)) rfl, by decide, _, _, rfl⟩
theorem lk_L_85 : LV RL 85 mX12_hears 12 := ⟨Or.inl (tbl_of (List.mem_of_getElem? (i := 1285) (by decide +kernel)) rfl), tbl_of (List.mem_of_getElem? (i := 1286) (by decide +kernel)) rfl, tbl_of (List.mem_of_getElem? (i := 1287) (by decide +kernel)) rfl, by decide, _, _, rfl⟩
theorem lk_X12_202 : LV RX12 202 mX12_spot 12 := ⟨Or.inl (tbl_of (List.mem_of_getElem? (i := 1290) (by decide +kernel)) rfl), tbl_of (List.mem_of_getElem? (i := 1292) (by decide +kernel)) rfl, tbl_of (List.mem_of_getElem? (i := 60) (by decide +kernel)) rfl, by decide, _, _, rfl⟩
theorem lk_L_89 : LV RL 89 mX12_shadow 12 := ⟨Or.inl (tbl_of (List.mem_of_getElem? (i := 1294) (by decide +kernel)) rfl), tbl_of (List.mem_of_getElem? (i := 1295) (by decide +kernel)) rfl, tbl_of (List.mem_of_getElem? (i := 1296) (by decide +kernel)) rfl, by decide, _, _, rfl⟩
theorem lk_L_93 : LV RL 93 mX12_heard 12 := ⟨Or.inl (tbl_of (List.mem_of_getElem? (i := 1298) (by decide +kernel)) rfl), tbl_of (List.mem_of_getElem? (i := 1299) (by decide +kernel)) rfl, tbl_of (List.mem_of_getElem? (i := 1300) (by decide +kernel)) rfl, by decide, _, _, rfl⟩
theorem lk_L_97 : LV RL 97 mX12_hush 12 := ⟨Or.inl (tbl_of (List.mem_of_getElem? (i := 1302) (by decide +kernel)) rfl), tbl_of (List.mem_of_getElem? (i := 1303) (by decide +kernel)) rfl, tbl_of (List.mem_of_getElem? (i := 1304) (by decide +kernel)) rfl, by decide, _, _, rfl⟩
theorem lk_L_101 : LV RL 101 mX12_whence 12 := ⟨Or.inl (tbl_of (List.mem_of_getElem? (i := 1306) (by decide +kernel)) rfl), tbl_of (List.mem_of_getElem? (i := 1307) (by decide +kernel)) rfl, tbl_of (List.mem_of_getElem? (i := 1308) (by decide +kernel)) rfl, by decide, _, _, rfl⟩
theorem lk_X12_205 : LV RX12 205 mX12_isWhence 12 := ⟨Or.inl (tbl_of (List.mem_of_getElem? (i := 1310) (by decide +kernel)) rfl), tbl_of (List.mem_of_getElem? (i := 1312) (by decide +kernel)) rfl, tbl_of (List.mem_of_getElem? (i := 61) (by decide +kernel)) rfl, by decide, _, _, rfl⟩
theorem lk_L_105 : LV RL 105 mX12_moved 12 := ⟨Or.inl (tbl_of (List.mem_of_getElem? (i := 1314) (by decide +kernel)) rfl), tbl_of (List.mem_of_getElem? (i := 1315) (by decide +kernel)) rfl, tbl_of (List.mem_of_getElem? (i := 1316) (by decide +kernel)) rfl, by decide, _, _, rfl⟩
theorem lk_X12_223 : LV RX12 223 mX12_movedOf 12 := ⟨Or.inl (tbl_of (List.mem_of_getElem? (i := 1318) (by decide +kernel)) rfl), tbl_of (List.mem_of_getElem? (i := 1320) (by decide +kernel)) rfl, tbl_of (List.mem_of_getElem? (i := 62) (by decide +kernel)) rfl, by decide, _, _, rfl⟩
theorem lk_X12_211 : LV RX12 211 mX12_isAll 12 := ⟨Or.inl (tbl_of (List.mem_of_getElem? (i := 1322) (by decide +kernel)) rfl), tbl_of (List.mem_of_getElem? (i := 1324) (by decide +kernel)) rfl, tbl_of (List.mem_of_getElem? (i := 63) (by decide +kernel)) rfl, by decide, _, _, rfl⟩
theorem lk_X12_220 : LV RX12 220 mX12_hangs 12 := ⟨Or.inl (tbl_of (List.mem_of_getElem? (i := 1326) (by decide +kernel)) rfl), tbl_of (List.mem_of_getElem? (i := 1328) (by decide +kernel)) rfl, tbl_of (List.mem_of_getElem? (i := 64) (by decide +kernel)) rfl, by decide, _, _, rfl⟩
theorem lk_X12_208 : LV RX12 208 mX12_canHang 12 := ⟨Or.inl (tbl_of (List.mem_of_getElem? (i := 1330) (by decide +kernel)) rfl), tbl_of (List.mem_of_getElem? (i := 1332) (by decide +kernel)) rfl, tbl_of (List.mem_of_getElem? (i := 65) (by decide +kernel)) rfl, by decide, _, _, rfl⟩
theorem lk_L_109 : LV RL 109 mX12_sent 12 := ⟨Or.inl (tbl_of (List.mem_of_getElem? (i := 1334) (by decide +kernel)) rfl), tbl_of (List.mem_of_getElem? (i := 1335) (by decide +kernel)) rfl, tbl_of (List.mem_of_getElem? (i := 1336) (by decide +kernel)) rfl, by decide, _, _, rfl⟩
theorem lk_X12_229 : LV RX12 229 mX12_alone 12 := ⟨Or.inl (tbl_of (List.mem_of_getElem? (i := 1338) (by decide +kernel)) rfl), tbl_of (List.mem_of_getElem? (i := 1340) (by decide +kernel)) rfl, tbl_of (List.mem_of_getElem? (i := 66) (by decide +kernel)) rfl, by decide, _, _, rfl⟩
theorem lk_X12_232 : LV RX12 232 mX12_lands 12 := ⟨Or.inl (tbl_of (List.mem_of_getElem? (i := 1342) (by decide +kernel)) rfl), tbl_of (List.mem_of_getElem? (i := 1344) (by decide +kernel)) rfl, tbl_of (List.mem_of_getElem? (i := 67) (by decide +kernel)) rfl, by decide, _, _, rfl⟩
theorem lk_L_113 : LV RL 113 mX12_fall 12 := ⟨Or.inl (tbl_of (List.mem_of_getElem? (i := 1346) (by decide +kernel)) rfl), tbl_of (List.mem_of_getElem? (i := 1347) (by decide +kernel)) rfl, tbl_of (List.mem_of_getElem? (i := 1348) (by decide +kernel)) rfl, by decide, _, _, rfl⟩
theorem lk_L_117 : LV RL 117 mX12_clear 12 := ⟨Or.inl (tbl_of (List.mem_of_getElem? (i := 1350) (by decide +kernel)) rfl), tbl_of (List.mem_of_getElem? (i := 1351) (by decide +kernel)) rfl, tbl_of (List.mem_of_getElem? (i := 1352) (by decide +kernel)) rfl, by decide, _, _, rfl⟩
theorem lk_X12_235 : LV RX12 235 mX12_clearOf 12 := ⟨Or.inl (tbl_of (List.mem_of_getElem? (i := 1354) (by decide +kernel)) rfl), tbl_of (List.mem_of_getElem? (i := 1356) (by decide +kernel)) rfl, tbl_of (List.mem_of_getElem? (i := 68) (by decide +kernel)) rfl, by decide, _, _, rfl⟩
theorem lk_L_121 : LV RL 121 mX12_gain 12 := ⟨Or.inl (tbl_of (List.mem_of_getElem? (i := 1358) (by decide +kernel)) rfl), tbl_of (List.mem_of_getElem? (i := 1359) (by decide +kernel)) rfl, tbl_of (List.mem_of_getElem? (i := 1360) (by decide +kernel)) rfl, by decide, _, _, rfl⟩
theorem lk_L_125 : LV RL 125 mX12_drifted 12 := ⟨Or.inl (tbl_of (List.mem_of_getElem? (i := 1362) (by decide +kernel)) rfl), tbl_of (List.mem_of_getElem? (i := 1363) (by decide +kernel)) rfl, tbl_of (List.mem_of_getElem? (i := 1364) (by decide +kernel)) rfl, by decide, _, _, rfl⟩
theorem lk_L_129 : LV RL 129 mX12_forget 12 := ⟨Or.inl (tbl_of (List.mem_of_getElem? (i := 1367) (by decide +kernel)) rfl), tbl_of (List.mem_of_getElem? (i := 1368) (by decide +kernel)) rfl, tbl_of (List.mem_of_getElem? (i := 1369) (by decide +kernel)) rfl, by decide, _, _, rfl⟩
theorem lk_L_133 : LV RL 133 mX12_currents 12 := ⟨Or.inl (tbl_of (List.mem_of_getElem? (i := 1371) (by decide +kernel)) rfl), tbl_of (List.mem_of_getElem? (i := 1372) (by decide +kernel)) rfl, tbl_of (List.mem_of_getElem? (i := 1373) (by decide +kernel)) rfl, by decide, _, _, rfl⟩
theorem lk_L_138 : LV RL 138 mX12_leak 12 := ⟨Or.inl (tbl_of (List.mem_of_getElem? (i := 1375) (by decide +kernel)) rfl), tbl_of (List.mem_of_getElem? (i := 1376) (by decide +kernel)) rfl, tbl_of (List.mem_of_getElem? (i := 1377) (by decide +kernel)) rfl, by decide, _, _, rfl⟩
theorem lk_L_142 : LV RL 142 mX12_year 12 := ⟨Or.inl (tbl_of (List.mem_of_getElem? (i := 1381) (by decide +kernel)) rfl), tbl_of (List.mem_of_getElem? (i := 1382) (by decide +kernel)) rfl, tbl_of (List.mem_of_getElem? (i := 1383) (by decide +kernel)) rfl, by decide, _, _, rfl⟩
theorem lk_L_146 : LV RL 146 mX12_keep 12 := ⟨Or.inl (tbl_of (List.mem_of_getElem? (i := 1389) (by decide +kernel)) rfl), tbl_of (List.mem_of_getElem? (i := 1390) (by decide +kernel)) rfl, tbl_of (List.mem_of_getElem? (i := 1391) (by decide +kernel)) rfl, by decide, _, _, rfl⟩
theorem lk_L_150 : LV RL 150 mX12_back 12 := ⟨Or.inl (tbl_of (List.mem_of_getElem? (i := 1393) (by decide +kernel)) rfl), tbl_of (List.mem_of_getElem? (i := 1394) (by decide +kernel)) rfl, tbl_of (List.mem_of_getElem? (i := 1395) (by decide +kernel)) rfl, by decide, _, _, rfl⟩
theorem lk_L_154 : LV RL 154 mX12_count 12 := ⟨Or.inl (tbl_of (List.mem_of_getElem? (i := 1397) (by decide +kernel)) rfl), tbl_of (List.mem_of_getElem? (i := 1398) (by decide +kernel)) rfl, tbl_of (List.mem_of_getElem? (i := 1399) (by decide +kernel)) rfl, by decide, _, _, rfl⟩
theorem oi_2 : Cond.instanceMethod Lib.objectInit ∈ tbl := tbl_of (List.mem_of_getElem? (i := 94) (by decide +kernel)) rfl
theorem oi_3 : Cond.code Lib.objectInit ⟨#[0xb1]⟩ 1 none ∈ tbl := tbl_of (List.mem_of_getElem? (i := 95) (by decide +kernel)) rfl
theorem oi_X11_3 : Cond.methodLink RX11 3 Lib.objectInit ∈ tbl := tbl_of (List.mem_of_getElem? (i := 93) (by decide +kernel)) rfl
theorem oi_X9_3 : Cond.methodLink RX9 3 Lib.objectInit ∈ tbl := tbl_of (List.mem_of_getElem? (i := 101) (by decide +kernel)) rfl
theorem oi_X6_3 : Cond.methodLink RX6 3 Lib.objectInit ∈ tbl := tbl_of (List.mem_of_getElem? (i := 122) (by decide +kernel)) rfl
theorem oi_X10_3 : Cond.methodLink RX10 3 Lib.objectInit ∈ tbl := tbl_of (List.mem_of_getElem? (i := 128) (by decide +kernel)) rfl
theorem oi_X8_3 : Cond.methodLink RX8 3 Lib.objectInit ∈ tbl := tbl_of (List.mem_of_getElem? (i := 217) (by decide +kernel)) rfl
theorem oi_X4_1 : Cond.methodLink RX4 1 Lib.objectInit ∈ tbl := tbl_of (List.mem_of_getElem? (i := 280) (by decide +kernel)) rfl
theorem oi_X0_3 : Cond.methodLink RX0 3 Lib.objectInit ∈ tbl := tbl_of (List.mem_of_getElem? (i := 303) (by decide +kernel)) rfl
theorem oi_X7_3 : Cond.methodLink RX7 3 Lib.objectInit ∈ tbl := tbl_of (List.mem_of_getElem? (i := 328) (by decide +kernel)) rfl
theorem oi_X5_3 : Cond.methodLink RX5 3 Lib.objectInit ∈ tbl := tbl_of (List.mem_of_getElem? (i := 335) (by decide +kernel)) rfl
theorem oi_X2_3 : Cond.methodLink RX2 3 Lib.objectInit ∈ tbl := tbl_of (List.mem_of_getElem? (i := 369) (by decide +kernel)) rfl
theorem oi_X3_3 : Cond.methodLink RX3 3 Lib.objectInit ∈ tbl := tbl_of (List.mem_of_getElem? (i := 400) (by decide +kernel)) rfl
theorem oi_X1_3 : Cond.methodLink RX1 3 Lib.objectInit ∈ tbl := tbl_of (List.mem_of_getElem? (i := 435) (by decide +kernel)) rfl
theorem oi_X12_1 : Cond.methodLink RX12 1 Lib.objectInit ∈ tbl := tbl_of (List.mem_of_getElem? (i := 1019) (by decide +kernel)) rfl
theorem cl_L_7 : Cond.classLink RL 7 RX11 ∈ tbl := tbl_of (List.mem_of_getElem? (i := 88) (by decide +kernel)) rfl
theorem cl_X11_9 : Cond.classLink RX11 9 RX9 ∈ tbl := tbl_of (List.mem_of_getElem? (i := 96) (by decide +kernel)) rfl
theorem cl_X11_16 : Cond.classLink RX11 16 RX6 ∈ tbl := tbl_of (List.mem_of_getElem? (i := 117) (by decide +kernel)) rfl
theorem cl_X6_9 : Cond.classLink RX6 9 RX10 ∈ tbl := tbl_of (List.mem_of_getElem? (i := 123) (by decide +kernel)) rfl
theorem cl_X6_18 : Cond.classLink RX6 18 RX8 ∈ tbl := tbl_of (List.mem_of_getElem? (i := 212) (by decide +kernel)) rfl
theorem cl_X11_23 : Cond.classLink RX11 23 RX4 ∈ tbl := tbl_of (List.mem_of_getElem? (i := 275) (by decide +kernel)) rfl
theorem cl_X4_22 : Cond.classLink RX4 22 RX8 ∈ tbl := tbl_of (List.mem_of_getElem? (i := 284) (by decide +kernel)) rfl
theorem cl_X11_35 : Cond.classLink RX11 35 RX0 ∈ tbl := tbl_of (List.mem_of_getElem? (i := 298) (by decide +kernel)) rfl
theorem cl_X11_47 : Cond.classLink RX11 47 RX7 ∈ tbl := tbl_of (List.mem_of_getElem? (i := 323) (by decide +kernel)) rfl
theorem cl_X7_9 : Cond.classLink RX7 9 RX5 ∈ tbl := tbl_of (List.mem_of_getElem? (i := 329) (by decide +kernel)) rfl
theorem cl_X11_54 : Cond.classLink RX11 54 RX2 ∈ tbl := tbl_of (List.mem_of_getElem? (i := 364) (by decide +kernel)) rfl
theorem cl_X11_63 : Cond.classLink RX11 63 RX3 ∈ tbl := tbl_of (List.mem_of_getElem? (i := 395) (by decide +kernel)) rfl
theorem cl_X3_15 : Cond.classLink RX3 15 RX5 ∈ tbl := tbl_of (List.mem_of_getElem? (i := 401) (by decide +kernel)) rfl
theorem cl_X11_70 : Cond.classLink RX11 70 RX1 ∈ tbl := tbl_of (List.mem_of_getElem? (i := 430) (by decide +kernel)) rfl
theorem cl_X11_81 : Cond.classLink RX11 81 RX10 ∈ tbl := tbl_of (List.mem_of_getElem? (i := 453) (by decide +kernel)) rfl
theorem cl_L_10 : Cond.classLink RL 10 RX12 ∈ tbl := tbl_of (List.mem_of_getElem? (i := 1014) (by decide +kernel)) rfl
theorem in_0 : Cond.instantiable RX0 5 ∈ tbl := tbl_of (List.mem_of_getElem? (i := 299) (by decide +kernel)) rfl
theorem ii_0 : Cond.initialized RX0 ∈ tbl := tbl_of (List.mem_of_getElem? (i := 77) (by decide +kernel)) rfl
theorem in_1 : Cond.instantiable RX1 5 ∈ tbl := tbl_of (List.mem_of_getElem? (i := 431) (by decide +kernel)) rfl
theorem ii_1 : Cond.initialized RX1 ∈ tbl := tbl_of (List.mem_of_getElem? (i := 82) (by decide +kernel)) rfl
theorem in_2 : Cond.instantiable RX2 7 ∈ tbl := tbl_of (List.mem_of_getElem? (i := 365) (by decide +kernel)) rfl
theorem ii_2 : Cond.initialized RX2 ∈ tbl := tbl_of (List.mem_of_getElem? (i := 80) (by decide +kernel)) rfl
theorem in_3 : Cond.instantiable RX3 8 ∈ tbl := tbl_of (List.mem_of_getElem? (i := 396) (by decide +kernel)) rfl
theorem ii_3 : Cond.initialized RX3 ∈ tbl := tbl_of (List.mem_of_getElem? (i := 81) (by decide +kernel)) rfl
theorem in_4 : Cond.instantiable RX4 3 ∈ tbl := tbl_of (List.mem_of_getElem? (i := 276) (by decide +kernel)) rfl
theorem ii_4 : Cond.initialized RX4 ∈ tbl := tbl_of (List.mem_of_getElem? (i := 75) (by decide +kernel)) rfl
theorem in_5 : Cond.instantiable RX5 2 ∈ tbl := tbl_of (List.mem_of_getElem? (i := 331) (by decide +kernel)) rfl
theorem ii_5 : Cond.initialized RX5 ∈ tbl := tbl_of (List.mem_of_getElem? (i := 79) (by decide +kernel)) rfl
theorem in_6 : Cond.instantiable RX6 2 ∈ tbl := tbl_of (List.mem_of_getElem? (i := 118) (by decide +kernel)) rfl
theorem ii_6 : Cond.initialized RX6 ∈ tbl := tbl_of (List.mem_of_getElem? (i := 72) (by decide +kernel)) rfl
theorem in_7 : Cond.instantiable RX7 4 ∈ tbl := tbl_of (List.mem_of_getElem? (i := 324) (by decide +kernel)) rfl
theorem ii_7 : Cond.initialized RX7 ∈ tbl := tbl_of (List.mem_of_getElem? (i := 78) (by decide +kernel)) rfl
theorem in_8 : Cond.instantiable RX8 8 ∈ tbl := tbl_of (List.mem_of_getElem? (i := 213) (by decide +kernel)) rfl
theorem ii_8 : Cond.initialized RX8 ∈ tbl := tbl_of (List.mem_of_getElem? (i := 74) (by decide +kernel)) rfl
theorem in_9 : Cond.instantiable RX9 4 ∈ tbl := tbl_of (List.mem_of_getElem? (i := 97) (by decide +kernel)) rfl
theorem ii_9 : Cond.initialized RX9 ∈ tbl := tbl_of (List.mem_of_getElem? (i := 71) (by decide +kernel)) rfl
theorem in_10 : Cond.instantiable RX10 17 ∈ tbl := tbl_of (List.mem_of_getElem? (i := 124) (by decide +kernel)) rfl
theorem ii_10 : Cond.initialized RX10 ∈ tbl := tbl_of (List.mem_of_getElem? (i := 73) (by decide +kernel)) rfl
theorem in_11 : Cond.instantiable RX11 12 ∈ tbl := tbl_of (List.mem_of_getElem? (i := 89) (by decide +kernel)) rfl
theorem ii_11 : Cond.initialized RX11 ∈ tbl := tbl_of (List.mem_of_getElem? (i := 70) (by decide +kernel)) rfl
theorem in_12 : Cond.instantiable RX12 23 ∈ tbl := tbl_of (List.mem_of_getElem? (i := 1015) (by decide +kernel)) rfl
theorem ii_12 : Cond.initialized RX12 ∈ tbl := tbl_of (List.mem_of_getElem? (i := 87) (by decide +kernel)) rfl
theorem ac_int : Cond.arrayClass .int ∈ tbl := tbl_of (List.mem_of_getElem? (i := 116) (by decide +kernel)) rfl
theorem ac_boolean : Cond.arrayClass .boolean ∈ tbl := tbl_of (List.mem_of_getElem? (i := 259) (by decide +kernel)) rfl
theorem ac_long : Cond.arrayClass .long ∈ tbl := tbl_of (List.mem_of_getElem? (i := 652) (by decide +kernel)) rfl
theorem ac_byte : Cond.arrayClass .byte ∈ tbl := tbl_of (List.mem_of_getElem? (i := 653) (by decide +kernel)) rfl
theorem ao_5 : Cond.arrayOver (.object RX5) ∈ ntbl := ntbl_of (List.mem_of_getElem? (i := 330) (by decide +kernel)) rfl
theorem ao_8 : Cond.arrayOver (.object RX8) ∈ ntbl := ntbl_of (List.mem_of_getElem? (i := 285) (by decide +kernel)) rfl
theorem kc_X5_19 : Jvm.Cond.constant RX5 19 (Int32.ofInt 1000000) ∈ tbl := tbl_of (List.mem_of_getElem? (i := 350) (by decide +kernel)) rfl
theorem kc_X11_260 : Jvm.Cond.constant RX11 260 (Int32.ofInt 1000000) ∈ tbl := tbl_of (List.mem_of_getElem? (i := 825) (by decide +kernel)) rfl
theorem kc_X2_76 : Jvm.Cond.constant RX2 76 (Int32.ofInt 1000000) ∈ tbl := tbl_of (List.mem_of_getElem? (i := 868) (by decide +kernel)) rfl
theorem kc_X3_123 : Jvm.Cond.constant RX3 123 (Int32.ofInt 1000000) ∈ tbl := tbl_of (List.mem_of_getElem? (i := 891) (by decide +kernel)) rfl
theorem kc_X12_38 : Jvm.Cond.constant RX12 38 (Int32.ofInt 36864) ∈ tbl := tbl_of (List.mem_of_getElem? (i := 1020) (by decide +kernel)) rfl
theorem kc_X12_185 : Jvm.Cond.constant RX12 185 (Int32.ofInt 100000) ∈ tbl := tbl_of (List.mem_of_getElem? (i := 1272) (by decide +kernel)) rfl
theorem kl_X11_318 : Jvm.Cond.constantLong RX11 318 (Int64.ofInt (-1)) ∈ tbl := tbl_of (List.mem_of_getElem? (i := 981) (by decide +kernel)) rfl
theorem kl_X11_345 : Jvm.Cond.constantLong RX11 345 (Int64.ofInt (10)) ∈ tbl := tbl_of (List.mem_of_getElem? (i := 986) (by decide +kernel)) rfl
theorem kl_X11_347 : Jvm.Cond.constantLong RX11 347 (Int64.ofInt (7919)) ∈ tbl := tbl_of (List.mem_of_getElem? (i := 998) (by decide +kernel)) rfl
theorem kl_X11_349 : Jvm.Cond.constantLong RX11 349 (Int64.ofInt (6151)) ∈ tbl := tbl_of (List.mem_of_getElem? (i := 999) (by decide +kernel)) rfl
theorem kl_X11_351 : Jvm.Cond.constantLong RX11 351 (Int64.ofInt (65521)) ∈ tbl := tbl_of (List.mem_of_getElem? (i := 1000) (by decide +kernel)) rfl
theorem kl_X12_58 : Jvm.Cond.constantLong RX12 58 (Int64.ofInt (32)) ∈ tbl := tbl_of (List.mem_of_getElem? (i := 1103) (by decide +kernel)) rfl
theorem kl_X12_60 : Jvm.Cond.constantLong RX12 60 (Int64.ofInt (126)) ∈ tbl := tbl_of (List.mem_of_getElem? (i := 1104) (by decide +kernel)) rfl
theorem kl_X12_73 : Jvm.Cond.constantLong RX12 73 (Int64.ofInt (48)) ∈ tbl := tbl_of (List.mem_of_getElem? (i := 1127) (by decide +kernel)) rfl
theorem kl_X12_75 : Jvm.Cond.constantLong RX12 75 (Int64.ofInt (57)) ∈ tbl := tbl_of (List.mem_of_getElem? (i := 1128) (by decide +kernel)) rfl
theorem kl_X12_77 : Jvm.Cond.constantLong RX12 77 (Int64.ofInt (2)) ∈ tbl := tbl_of (List.mem_of_getElem? (i := 1129) (by decide +kernel)) rfl
theorem kl_X12_91 : Jvm.Cond.constantLong RX12 91 (Int64.ofInt (4)) ∈ tbl := tbl_of (List.mem_of_getElem? (i := 1134) (by decide +kernel)) rfl
theorem kl_X12_93 : Jvm.Cond.constantLong RX12 93 (Int64.ofInt (24)) ∈ tbl := tbl_of (List.mem_of_getElem? (i := 1135) (by decide +kernel)) rfl
theorem kl_X12_95 : Jvm.Cond.constantLong RX12 95 (Int64.ofInt (9)) ∈ tbl := tbl_of (List.mem_of_getElem? (i := 1136) (by decide +kernel)) rfl
theorem kl_X12_139 : Jvm.Cond.constantLong RX12 139 (Int64.ofInt (3)) ∈ tbl := tbl_of (List.mem_of_getElem? (i := 1178) (by decide +kernel)) rfl
theorem kl_X12_157 : Jvm.Cond.constantLong RX12 157 (Int64.ofInt (60)) ∈ tbl := tbl_of (List.mem_of_getElem? (i := 1187) (by decide +kernel)) rfl
theorem kl_X12_200 : Jvm.Cond.constantLong RX12 200 (Int64.ofInt (99)) ∈ tbl := tbl_of (List.mem_of_getElem? (i := 1289) (by decide +kernel)) rfl
theorem kl_X12_238 : Jvm.Cond.constantLong RX12 238 (Int64.ofInt (50)) ∈ tbl := tbl_of (List.mem_of_getElem? (i := 1366) (by decide +kernel)) rfl
theorem kl_X12_240 : Jvm.Cond.constantLong RX12 240 (Int64.ofInt (10)) ∈ tbl := tbl_of (List.mem_of_getElem? (i := 1379) (by decide +kernel)) rfl
theorem kl_X12_242 : Jvm.Cond.constantLong RX12 242 (Int64.ofInt (-1)) ∈ tbl := tbl_of (List.mem_of_getElem? (i := 1380) (by decide +kernel)) rfl
theorem kl_X12_244 : Jvm.Cond.constantLong RX12 244 (Int64.ofInt (9999)) ∈ tbl := tbl_of (List.mem_of_getElem? (i := 1385) (by decide +kernel)) rfl
theorem kl_X12_246 : Jvm.Cond.constantLong RX12 246 (Int64.ofInt (7919)) ∈ tbl := tbl_of (List.mem_of_getElem? (i := 1386) (by decide +kernel)) rfl
theorem kl_X12_248 : Jvm.Cond.constantLong RX12 248 (Int64.ofInt (6151)) ∈ tbl := tbl_of (List.mem_of_getElem? (i := 1387) (by decide +kernel)) rfl
theorem kl_X12_250 : Jvm.Cond.constantLong RX12 250 (Int64.ofInt (65521)) ∈ tbl := tbl_of (List.mem_of_getElem? (i := 1388) (by decide +kernel)) rfl
