/-! a sea is laid: what is told lies in its range -/
def Rg (D : Nat → Int → Int) : Prop := (∀ t, 0 ≤ t → t < D 0 1 → (0 ≤ D 1 t ∧ D 1 t ≤ 6) ∧ (0 ≤ D 2 t ∧ D 2 t ≤ 9) ∧ (1 ≤ D 3 t ∧ D 3 t ≤ 9)) ∧
  (∀ t, 0 ≤ t → t < D 0 5 → (0 ≤ D 4 t ∧ D 4 t ≤ 7) ∧ (0 ≤ D 5 t ∧ D 5 t < D 0 0) ∧ (0 ≤ D 6 t ∧ D 6 t ≤ 20) ∧ (0 ≤ D 7 t ∧ D 7 t ≤ 20)) ∧
  (∀ t, 0 ≤ t → t < D 0 10 → (0 ≤ D 8 t ∧ D 8 t ≤ 7) ∧ (0 ≤ D 9 t ∧ D 9 t < D 0 0)) ∧
  (∀ t, 0 ≤ t → t < D 0 13 → (0 ≤ D 10 t ∧ D 10 t ≤ 7) ∧ (0 ≤ D 11 t ∧ D 11 t < D 0 0) ∧ (0 ≤ D 12 t ∧ D 12 t ≤ 9))
theorem startD_Rg (D : Nat → Int → Int) : Rg (startD D) := by
  refine ⟨fun t x y => ?_, fun t x y => ?_, fun t x y => ?_, fun t x y => ?_⟩ <;> (exfalso; simp [startD, upD] at y; omega)
theorem addG_Rg {D D' : Nat → Int → Int} {l k a b c e : Int} (h : Rg D) (hc : Cn D) (ha : addG D l k a b c e = some D') : Rg D' := by
  obtain ⟨h1, h2, h3, h4⟩ := h
  obtain ⟨c1, c2, c3, c4, c5⟩ := hc
  unfold addG at ha
  repeat' split at ha
  all_goals first | (cases ha; done) | skip
  all_goals (cases ha; refine ⟨fun t x y => ?_, fun t x y => ?_, fun t x y => ?_, fun t x y => ?_⟩)
  all_goals (simp [upD] at y ⊢; have k1 := h1 t x; have k2 := h2 t x; have k3 := h3 t x; have k4 := h4 t x; repeat' split)
  all_goals omega
theorem rdF_RC (tx : Int → Int) (n : Int) : ∀ (m : Nat) (D : Nat → Int → Int) (p : Int), Cn D → Rg D → Cn (rdF tx n m D p).2 ∧ Rg (rdF tx n m D p).2
  | 0, D, p, hc, hr => ⟨hc, hr⟩
  | m + 1, D, p, hc, hr => by
    unfold rdF
    split
    · split
      · exact ⟨hc, hr⟩
      · split
        · exact ⟨hc, hr⟩
        · rename_i D' e
          exact rdF_RC tx n m D' _ (addG_Cn hc e) (addG_Rg hr hc e)
    · exact ⟨hc, hr⟩
theorem WF_of {D : Nat → Int → Int} (hc : Cn D) (hr : Rg D) (hh : hold D) : WF D := by
  obtain ⟨c1, c2, c3, c4, c5⟩ := hc
  obtain ⟨h1, h2, h3, h4⟩ := hr
  obtain ⟨d1, ⟨d2, d3, d4⟩, d5⟩ := hh
  refine ⟨c5, by omega, c2, c3, c4, h1, fun t x y => ?_, fun t x y => ?_, fun t x y => ?_⟩
  · have := h2 t x y; have := d2 t x y; omega
  · have := h3 t x y; have := d3 t x y; omega
  · have := h4 t x y; have := d4 t x y; omega
theorem c_seaStart {l : Launch} {g : Gt} {d : Nat} {Z : Zt} {I : It} {P : Pt'} (hZ : LayC Z) (hP : LayP P) {T : Nat} (hT0 : P 4 0 = some T) (hT : IsT T) (h13 : 0 ≤ I T 13 ∧ I T 13 ≤ 5) : Mt l g mX6_start (d + 2) 0 0 [vA 4] Z I P (QV (fun I' => I' 18 0 = 0 ∧ I' 18 1 = I T 13 ∧ (∀ j, 0 ≤ j → j < 6 → I' 19 j = I (T + 5) j ∧ I' 20 j = 0) ∧ (∀ j, 0 ≤ j → j < I T 13 → I' 21 j = I (T + 10) j ∧ I' 22 j = I (T + 11) j ∧ I' 23 j = I (T + 12) j ∧ I' 24 j = -4) ∧ Fr 18 25 I I') Z P) := by
  refine Mt.of kmX6_start (ls := [vA 4]) (fun _ => rfl) (fun _ => rfl) (okf_k (okf_n rfl)) (fun hok => ?_)
  refine ev_aload_0 0 dX6_start_0 ?_
  refine ev_getA 1 1 dX6_start_1 fa_X6_21 (kd_4 hZ) (pr_4_1 hP) rfl ?_
  refine ev_aload_0 4 dX6_start_4 ?_
  refine ev_getA 5 0 dX6_start_5 fa_X6_12 (kd_4 hZ) hT0 rfl ?_
  refine ev_cVv_1 8 dX6_start_8 kmX8_start lk_X6_25 (kd_18 hZ) (c_sstart hZ hP hT h13) rfl rfl (fun I8 f8 => ?_)
  refine ev_vret 11 dX6_start_11 ?_ rfl
  exact QV_of f8
