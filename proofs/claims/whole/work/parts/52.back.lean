/-! undo, keep, back; fault, lay -/
theorem RS.mw {b b' : Int} {I I' : It} {α σ : Nat → Int → Int} (h : RS b I α σ) (hW : WF α) (h7 : σ 0 1 ≤ 7) (e : ∀ i, 0 ≤ i → i < 42 → I' 138 (b' + i) = I 138 (b + i)) : RS b' I' α σ := by
  have h5 := hW.2.2.1
  have e0 := e 0 (by omega) (by omega)
  rw [Int.add_zero, Int.add_zero] at e0
  refine ⟨by rw [e0]; exact h.1, by rw [e 41 (by omega) (by omega)]; exact h.2.1, fun t a c => ?_, fun j a c => ?_⟩
  · rw [show b' + 29 + t = b' + (29 + t) by omega, show b' + 35 + t = b' + (35 + t) by omega, e _ (by omega) (by omega), e _ (by omega) (by omega), show b + (29 + t) = b + 29 + t by omega, show b + (35 + t) = b + 35 + t by omega]
    exact h.2.2.1 t a c
  · rw [show b' + 1 + j = b' + (1 + j) by omega, show b' + 15 + j = b' + (15 + j) by omega, show b' + 22 + j = b' + (22 + j) by omega, show b' + 8 + j = b' + (8 + j) by omega, e _ (by omega) (by omega), e _ (by omega) (by omega), e _ (by omega) (by omega), e _ (by omega) (by omega), show b + (1 + j) = b + 1 + j by omega, show b + (15 + j) = b + 15 + j by omega, show b + (22 + j) = b + 22 + j by omega, show b + (8 + j) = b + 8 + j by omega]
    exact h.2.2.2 j a c
theorem RK.mv {b b' : Int} {I I' : It} {α σ : Nat → Int → Int} (h : RK b α I σ) (hW : WF α) (e : ∀ i, 0 ≤ i → i < 42 → I' 138 (b' + i) = I 138 (b + i)) : RK b' α I' σ := ⟨h.1.mw hW h.2.1.2.1.2 e, h.2⟩
theorem cp_i {I : It} {a b i : Int} (h : 0 ≤ i ∧ i < 42) : cpN I a b 42 138 (42 * b + i) = I 138 (42 * a + i) := by
  unfold cpN
  rw [if_pos ⟨rfl, by omega, by omega⟩, show 42 * a + (42 * b + i - 42 * b) = 42 * a + i by omega]
section KBX
variable {T D : Nat} {α σ : Nat → Int → Int} {U V : Int → Nat → Int → Int} {Z : Zt} {I I0 : It} {P : Pt'}
theorem Bo.undo (h : Bo T D α σ U V Z I P) (h1 : 1 ≤ I 25 2) (p1 : I0 25 2 = I 25 2 - 1) (p2 : VP 25 8 I0 U) (p3 : EqS (vw 18 I0) (U (I 25 2 - 1))) (p4 : ∀ q, (q < 18 ∨ 25 ≤ q) → q ≠ 25 → I0 q = I q) :
    Bo T D α (vw 18 I0) U V Z (cpN (upI I0 131 10 (I0 131 10 - 1)) (3 + (I0 131 10 - 1)) 0 42) P := by
  have ht := h.tt
  have hW := h.w
  have hu := h.rb.un.1
  have e131 : I0 131 = I 131 := p4 131 (by omega) (by omega)
  have e138 : I0 138 = I 138 := p4 138 (by omega) (by omega)
  rw [show I0 131 10 = I 25 2 by rw [e131, hu]]
  generalize hJ : cpN (upI I0 131 10 (I 25 2 - 1)) (3 + (I 25 2 - 1)) 0 42 = J
  have eJ : ∀ a, a ≠ 131 → a ≠ 138 → J a = I0 a := fun a y z => by rw [← hJ, cpN_f z, upI_A y]
  have eA : ∀ a, (a < 18 ∨ 25 < a) → a ≠ 131 → a ≠ 138 → J a = I a := fun a y z w => by rw [eJ a z w, p4 a (by omega) (by omega)]
  have f131 : ∀ j, j ≠ 10 → J 131 j = I 131 j := fun j hj => by rw [← hJ, cpN_f (by omega), upI_k hj, e131]
  have g131 : J 131 10 = I 25 2 - 1 := by rw [← hJ, cpN_f (by omega), upI_s]
  have g138 : ∀ i, 42 ≤ i → J 138 i = I 138 i := fun i hi => by rw [← hJ, cpN_o (by omega), upI_A (by omega), e138]
  have k138 : ∀ i, 0 ≤ i → i < 42 → J 138 (0 + i) = I 138 (42 * (3 + (I 25 2 - 1)) + i) := fun i a b => by
    rw [← hJ, show (0 : Int) + i = 42 * 0 + i by omega, cp_i ⟨a, b⟩, upI_A (by omega), e138]
  have e25 : J 25 = I0 25 := eJ 25 (by omega) (by omega)
  have hn := h.rb.un.2.1.2.1
  have hk := h.rb.un.2.2 (I 25 2 - 1) (by omega) (by omega)
  refine ⟨h.sn.fi (fun a z => eA a (by omega) (by omega) (by omega)), h.d0, h.isd, h.ne, h.lm, h.lq, ⟨fun c hc => eJ (18 + c) (by omega) (by omega), h.rb.vm.fr (eA 133 (by omega) (by omega) (by omega)) (eA 134 (by omega) (by omega) (by omega)) (eA 135 (by omega) (by omega) (by omega)) (eA 136 (by omega) (by omega) (by omega)), RK.eqT hW (p3.eqT hk.2.1.2.1.2) (hk.mv hW k138), h.rb.hf.fr (f131 16 (by omega)) (eA 141 (by omega) (by omega) (by omega)), h.rb.tx.fr (f131 0 (by omega)) (by rw [eA 1 (by omega) (by omega) (by omega)]) (eA 2 (by omega) (by omega) (by omega)) (eA 132 (by omega) (by omega) (by omega)), h.rb.he.fr (f131 11 (by omega)) (by rw [eA 106 (by omega) (by omega) (by omega)]) (eA 139 (by omega) (by omega) (by omega)) (eA 107 (by omega) (by omega) (by omega)) (eA 108 (by omega) (by omega) (by omega)), h.rb.dr.fr (f131 13 (by omega)) (by rw [eA 112 (by omega) (by omega) (by omega)]) (eA 140 (by omega) (by omega) (by omega)) (fun a b c => eA a (by omega) (by omega) (by omega)), ⟨by rw [g131, e25, p1], p2.fr (fun a b c => eJ a (by omega) (by omega)), fun k a b => ?_⟩, h.rb.ke.fr hW (f131 9 (by omega)) (fun q a b => eA q (by omega) (by omega) (by omega)) (fun i a b => g138 i (by omega))⟩⟩
  rw [e25, p1] at b
  exact (h.rb.un.2.2 k a (by omega)).fr hW (fun i c e => g138 i (by omega))
theorem Bo.keep (h : Bo T D α σ U V Z I P) (h1 : I 83 2 < 2) (p1 : I0 83 2 = I 83 2 + 1) (p2 : VP 83 2 I0 (pshU 2 (I 83 2) V (vw 18 I))) (p4 : ∀ q, (q < 83 ∨ 99 ≤ q) → I0 q = I q) :
    Bo T D α σ U (pshU 2 (I 83 2) V σ) Z (cpN (upI I0 131 9 (I0 131 9 + 1)) 0 (I0 131 9 + 1) 42) P := by
  have ht := h.tt
  have hW := h.w
  have hu := h.rb.ke.1
  have e131 : I0 131 = I 131 := p4 131 (by omega)
  have e138 : I0 138 = I 138 := p4 138 (by omega)
  rw [show I0 131 9 = I 83 2 by rw [e131, hu]]
  generalize hJ : cpN (upI I0 131 9 (I 83 2 + 1)) 0 (I 83 2 + 1) 42 = J
  have hn := h.rb.ke.2.1.2.1
  have eJ : ∀ a, a ≠ 131 → a ≠ 138 → J a = I0 a := fun a y z => by rw [← hJ, cpN_f z, upI_A y]
  have eA : ∀ a, (a < 83 ∨ 99 ≤ a) → a ≠ 131 → a ≠ 138 → J a = I a := fun a y z w => by rw [eJ a z w, p4 a y]
  have f131 : ∀ j, j ≠ 9 → J 131 j = I 131 j := fun j hj => by rw [← hJ, cpN_f (by omega), upI_k hj, e131]
  have g131 : J 131 9 = I 83 2 + 1 := by rw [← hJ, cpN_f (by omega), upI_s]
  have g138 : ∀ i, (i < 42 * (I 83 2 + 1) ∨ 42 * (I 83 2 + 1) + 42 ≤ i) → J 138 i = I 138 i := fun i hi => by rw [← hJ, cpN_o (by omega), upI_A (by omega), e138]
  have k138 : ∀ i, 0 ≤ i → i < 42 → J 138 (42 * (I 83 2 + 1) + i) = I 138 (0 + i) := fun i a b => by
    rw [← hJ, cp_i ⟨a, b⟩, upI_A (by omega), e138, show 42 * 0 + i = 0 + i by omega]
  have e83 : J 83 = I0 83 := eJ 83 (by omega) (by omega)
  have hvp : VP 83 2 I0 (pshU 2 (I 83 2) V σ) := p2.eqS (fun k a b => by
    unfold pshU
    rw [if_pos h1, if_pos h1]
    try dsimp only
    by_cases z : k = I 83 2
    · rw [if_pos z, if_pos z]; exact h.rb.vs.eqS
    · rw [if_neg z, if_neg z]; exact EqS.rf)
  refine ⟨h.sn.fi (fun a z => eA a (by omega) (by omega) (by omega)), h.d0, h.isd, h.ne, h.lm, h.lq, ⟨h.rb.vs.fr (fun a b c => eA a (by omega) (by omega) (by omega)), h.rb.vm.fr (eA 133 (by omega) (by omega) (by omega)) (eA 134 (by omega) (by omega) (by omega)) (eA 135 (by omega) (by omega) (by omega)) (eA 136 (by omega) (by omega) (by omega)), h.rb.now.fr hW (fun i a b => g138 i (by omega)), h.rb.hf.fr (f131 16 (by omega)) (eA 141 (by omega) (by omega) (by omega)), h.rb.tx.fr (f131 0 (by omega)) (by rw [eA 1 (by omega) (by omega) (by omega)]) (eA 2 (by omega) (by omega) (by omega)) (eA 132 (by omega) (by omega) (by omega)), h.rb.he.fr (f131 11 (by omega)) (by rw [eA 106 (by omega) (by omega) (by omega)]) (eA 139 (by omega) (by omega) (by omega)) (eA 107 (by omega) (by omega) (by omega)) (eA 108 (by omega) (by omega) (by omega)), h.rb.dr.fr (f131 13 (by omega)) (by rw [eA 112 (by omega) (by omega) (by omega)]) (eA 140 (by omega) (by omega) (by omega)) (fun a b c => eA a (by omega) (by omega) (by omega)), h.rb.un.fr hW (f131 10 (by omega)) (fun q a b => eA q (by omega) (by omega) (by omega)) (fun i a b => g138 i (by omega)), ⟨by rw [g131, e83, p1], hvp.fr (fun a b c => eJ a (by omega) (by omega)), fun k a b => ?_⟩⟩⟩
  rw [e83, p1] at b
  unfold pshU
  rw [if_pos h1]
  try dsimp only
  by_cases z : k = I 83 2
  · rw [if_pos z]
    refine h.rb.now.mv hW (fun i c e => ?_)
    rw [show 42 * (1 + k) = 42 * (I 83 2 + 1) by omega]; exact k138 i c e
  · rw [if_neg z]
    exact (h.rb.ke.2.2 k a (by omega)).fr hW (fun i c e => g138 i (by omega))
theorem Bo.back (h : Bo T D α σ U V Z I P) (h1 : 1 ≤ I 83 2) (p1 : I0 83 2 = I 83 2 - 1) (p2 : VP 83 2 I0 V) (p3 : EqS (vw 18 I0) (V (I 83 2 - 1))) (p5 : I0 25 1 = 0) (p6 : I0 25 2 = 0) (p4 : ∀ q, (q < 18 ∨ 25 ≤ q) → q ≠ 25 → q ≠ 83 → I0 q = I q) :
    Bo T D α (vw 18 I0) U V Z (upI (upI (cpN I0 (I0 131 9) 0 42) 131 9 (I0 131 9 - 1)) 131 10 0) P := by
  have ht := h.tt
  have hW := h.w
  have hu := h.rb.ke.1
  have e131 : I0 131 = I 131 := p4 131 (by omega) (by omega) (by omega)
  have e138 : I0 138 = I 138 := p4 138 (by omega) (by omega) (by omega)
  rw [show I0 131 9 = I 83 2 by rw [e131, hu]]
  generalize hJ : upI (upI (cpN I0 (I 83 2) 0 42) 131 9 (I 83 2 - 1)) 131 10 0 = J
  have eJ : ∀ a, a ≠ 131 → a ≠ 138 → J a = I0 a := fun a y z => by rw [← hJ, upI_A y, upI_A y, cpN_f z]
  have eA : ∀ a, (a < 18 ∨ 25 < a) → a ≠ 83 → a ≠ 131 → a ≠ 138 → J a = I a := fun a y w2 z w => by rw [eJ a z w, p4 a (by omega) (by omega) w2]
  have f131 : ∀ j, j ≠ 9 → j ≠ 10 → J 131 j = I 131 j := fun j hj hk => by rw [← hJ, upI_k hk, upI_k hj, cpN_f (by omega), e131]
  have g131 : J 131 9 = I 83 2 - 1 := by rw [← hJ, upI_k (by omega), upI_s]
  have g10 : J 131 10 = 0 := by rw [← hJ, upI_s]
  have g138 : ∀ i, 42 ≤ i → J 138 i = I 138 i := fun i hi => by rw [← hJ, upI_A (by omega), upI_A (by omega), cpN_o (by omega), e138]
  have k138 : ∀ i, 0 ≤ i → i < 42 → J 138 (0 + i) = I 138 (42 * (1 + (I 83 2 - 1)) + i) := fun i a b => by
    rw [← hJ, upI_A (by omega), upI_A (by omega), show (0 : Int) + i = 42 * 0 + i by omega, cp_i ⟨a, b⟩, e138, show 1 + (I 83 2 - 1) = I 83 2 by omega]
  have e25 : J 25 = I0 25 := eJ 25 (by omega) (by omega)
  have e83 : J 83 = I0 83 := eJ 83 (by omega) (by omega)
  have hn := h.rb.ke.2.1.2.1
  have hk := h.rb.ke.2.2 (I 83 2 - 1) (by omega) (by omega)
  refine ⟨h.sn.fi (fun a z => eA a (by omega) (by omega) (by omega) (by omega)), h.d0, h.isd, h.ne, h.lm, h.lq, ⟨fun c hc => eJ (18 + c) (by omega) (by omega), h.rb.vm.fr (eA 133 (by omega) (by omega) (by omega) (by omega)) (eA 134 (by omega) (by omega) (by omega) (by omega)) (eA 135 (by omega) (by omega) (by omega) (by omega)) (eA 136 (by omega) (by omega) (by omega) (by omega)), RK.eqT hW (p3.eqT hk.2.1.2.1.2) (hk.mv hW k138), h.rb.hf.fr (f131 16 (by omega) (by omega)) (eA 141 (by omega) (by omega) (by omega) (by omega)), h.rb.tx.fr (f131 0 (by omega) (by omega)) (by rw [eA 1 (by omega) (by omega) (by omega) (by omega)]) (eA 2 (by omega) (by omega) (by omega) (by omega)) (eA 132 (by omega) (by omega) (by omega) (by omega)), h.rb.he.fr (f131 11 (by omega) (by omega)) (by rw [eA 106 (by omega) (by omega) (by omega) (by omega)]) (eA 139 (by omega) (by omega) (by omega) (by omega)) (eA 107 (by omega) (by omega) (by omega) (by omega)) (eA 108 (by omega) (by omega) (by omega) (by omega)), h.rb.dr.fr (f131 13 (by omega) (by omega)) (by rw [eA 112 (by omega) (by omega) (by omega) (by omega)]) (eA 140 (by omega) (by omega) (by omega) (by omega)) (fun a b c => eA a (by omega) (by omega) (by omega) (by omega)), ⟨by rw [g10, e25, p6], ⟨by rw [e25, p5]; omega, by rw [e25, p6]; omega, fun k a b => by rw [e25, p6] at b; omega⟩, fun k a b => by rw [e25, p6] at b; omega⟩, ⟨by rw [g131, e83, p1], p2.fr (fun a b c => eJ a (by omega) (by omega)), fun k a b => ?_⟩⟩⟩
  rw [e83, p1] at b
  exact (h.rb.ke.2.2 k a (by omega)).fr hW (fun i c e => g138 i (by omega))
end KBX
theorem b_undo {l : Launch} {g : Gt} {T D : Nat} {α σ : Nat → Int → Int} {U V : Int → Nat → Int → Int} {Z : Zt} {I : It} {P : Pt'} {L i : Int} {X : Int → Int} {Q : Qt} (hX : SCR g L X) (hi : 0 ≤ i ∧ i + 6 ≤ L) (h : Bo T D α σ U V Z I P) (k : NXT l g Q i) : Ev l g mL 9 (2 * nn P) (194 * nn P) Z I P 457 [vS, vA 0, vA 131, vI i] [] Q := by
  have hL := hX.2.1
  have hZ := h.sn.1
  have hM := h.lm
  refine ev_aload_1 457 dL_law_457 ?_
  refine ev_cVm_0 458 dL_law_458 kmX11_undo lk_L_60 (kd_0 hZ) (c_undo (d := 6) h.sn h.rb.vs h.ws h.rb.un.2.1 (fun k a b => (h.rb.un.2.2 k a b).2.1.2.2.2.1)) rfl rfl (fun r0 I0 f0 => ?_)
  have e131 : I0 131 = I 131 := by
    rcases f0 with ⟨a1, a2, a3⟩ | ⟨a1, a2, a3, a4, a5, a6⟩
    · rw [a3]
    · exact a6 131 (by omega) (by omega)
  have hu := h.rb.un.1
  refine ev_aload_2 461 dL_law_461 ?_
  refine ev_cVm_0 462 dL_law_462 kmX12_undo lk_L_63 (kd_131 hM) (m_undo (d := 7) h.lm h.lq (by rw [e131, hu]; exact h.rb.un.2.1.2.1)) rfl rfl (fun r1 I1 f1 => ?_)
  have e132 : I0 131 10 = I 25 2 := by rw [e131, hu]
  refine ev_icmp_eq 465 1157 dL_law_465 rfl (fun hq => ?_) (fun hq => ?_)
  · rcases f0 with ⟨a1, a2, a3⟩ | ⟨a1, a2, a3, a4, a5, a6⟩
    · rcases f1 with ⟨b1, b2, b3⟩ | ⟨b1, b2, b3⟩
      · subst a3; subst b3; exact k _ _ _ _ _ _ _ _ _ h
      · omega
    · rcases f1 with ⟨b1, b2, b3⟩ | ⟨b1, b2, b3⟩
      · omega
      · subst b3; exact k _ _ _ _ _ _ _ _ _ (h.undo a1 a3 a4 a5 a6)
  · exfalso
    rcases f0 with ⟨a1, a2, a3⟩ | ⟨a1, a2, a3, a4, a5, a6⟩ <;> rcases f1 with ⟨b1, b2, b3⟩ | ⟨b1, b2, b3⟩ <;> omega
theorem b_keep {l : Launch} {g : Gt} {T D : Nat} {α σ : Nat → Int → Int} {U V : Int → Nat → Int → Int} {Z : Zt} {I : It} {P : Pt'} {L i : Int} {X : Int → Int} {Q : Qt} (hX : SCR g L X) (hi : 0 ≤ i ∧ i + 6 ≤ L) (h : Bo T D α σ U V Z I P) (k : NXT l g Q i) : Ev l g mL 9 (2 * nn P) (194 * nn P) Z I P 1108 [vS, vA 0, vA 131, vI i] [] Q := by
  have hL := hX.2.1
  have hZ := h.sn.1
  have hM := h.lm
  refine ev_aload_1 1108 dL_law_1108 ?_
  refine ev_cVm_0 1109 dL_law_1109 kmX11_keep lk_L_143 (kd_0 hZ) (c_keep (d := 6) h.sn h.rb.vs h.ws h.rb.ke.2.1) rfl rfl (fun r0 I0 f0 => ?_)
  have e131 : I0 131 = I 131 := by
    rcases f0 with ⟨a1, a2, a3⟩ | ⟨a1, a2, a3, a4, a5⟩
    · rw [a3]
    · exact a5 131 (by omega)
  have hu := h.rb.ke.1
  refine ev_aload_2 1112 dL_law_1112 ?_
  refine ev_cVm_0 1113 dL_law_1113 kmX12_keep lk_L_146 (kd_131 hM) (m_keep (d := 7) h.lm h.lq (by rw [e131, hu]; exact h.rb.ke.2.1.2.1)) rfl rfl (fun r1 I1 f1 => ?_)
  have e132 : I0 131 9 = I 83 2 := by rw [e131, hu]
  refine ev_icmp_eq 1116 1157 dL_law_1116 rfl (fun hq => ?_) (fun hq => ?_)
  · rcases f0 with ⟨a1, a2, a3⟩ | ⟨a1, a2, a3, a4, a5⟩
    · rcases f1 with ⟨b1, b2, b3⟩ | ⟨b1, b2, b3⟩
      · subst a3; subst b3; exact k _ _ _ _ _ _ _ _ _ h
      · omega
    · rcases f1 with ⟨b1, b2, b3⟩ | ⟨b1, b2, b3⟩
      · omega
      · subst b3; exact k _ _ _ _ _ _ _ _ _ (h.keep a1 a3 a4 a5)
  · exfalso
    rcases f0 with ⟨a1, a2, a3⟩ | ⟨a1, a2, a3, a4, a5⟩ <;> rcases f1 with ⟨b1, b2, b3⟩ | ⟨b1, b2, b3⟩ <;> omega
theorem b_back {l : Launch} {g : Gt} {T D : Nat} {α σ : Nat → Int → Int} {U V : Int → Nat → Int → Int} {Z : Zt} {I : It} {P : Pt'} {L i : Int} {X : Int → Int} {Q : Qt} (hX : SCR g L X) (hi : 0 ≤ i ∧ i + 6 ≤ L) (h : Bo T D α σ U V Z I P) (k : NXT l g Q i) : Ev l g mL 9 (2 * nn P) (194 * nn P) Z I P 1121 [vS, vA 0, vA 131, vI i] [] Q := by
  have hL := hX.2.1
  have hZ := h.sn.1
  have hM := h.lm
  refine ev_aload_1 1121 dL_law_1121 ?_
  refine ev_cVm_0 1122 dL_law_1122 kmX11_back lk_L_147 (kd_0 hZ) (c_back (d := 6) h.sn h.rb.vs h.ws h.rb.ke.2.1 (fun k a b => (h.rb.ke.2.2 k a b).2.1.2.2.2.1)) rfl rfl (fun r0 I0 f0 => ?_)
  have e131 : I0 131 = I 131 := by
    rcases f0 with ⟨a1, a2, a3⟩ | ⟨a1, a2, a3, a4, a5, a6, a7, a8⟩
    · rw [a3]
    · exact a8 131 (by omega) (by omega) (by omega)
  have hu := h.rb.ke.1
  refine ev_aload_2 1125 dL_law_1125 ?_
  refine ev_cVm_0 1126 dL_law_1126 kmX12_back lk_L_150 (kd_131 hM) (m_back (d := 7) h.lm h.lq (by rw [e131, hu]; exact h.rb.ke.2.1.2.1)) rfl rfl (fun r1 I1 f1 => ?_)
  have e132 : I0 131 9 = I 83 2 := by rw [e131, hu]
  refine ev_icmp_eq 1129 1157 dL_law_1129 rfl (fun hq => ?_) (fun hq => ?_)
  · rcases f0 with ⟨a1, a2, a3⟩ | ⟨a1, a2, a3, a4, a5, a6, a7, a8⟩
    · rcases f1 with ⟨b1, b2, b3⟩ | ⟨b1, b2, b3⟩
      · subst a3; subst b3; exact k _ _ _ _ _ _ _ _ _ h
      · omega
    · rcases f1 with ⟨b1, b2, b3⟩ | ⟨b1, b2, b3⟩
      · omega
      · subst b3; exact k _ _ _ _ _ _ _ _ _ (h.back a1 a3 a4 a5 a6 a7 a8)
  · exfalso
    rcases f0 with ⟨a1, a2, a3⟩ | ⟨a1, a2, a3, a4, a5, a6, a7, a8⟩ <;> rcases f1 with ⟨b1, b2, b3⟩ | ⟨b1, b2, b3⟩ <;> omega
