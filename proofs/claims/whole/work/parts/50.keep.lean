/-! what the calls that change something leave behind -/
theorem TXR.fr {I I' : It} (h : TXR I) (e1 : I' 131 0 = I 131 0) (e2 : I' 1 3 = I 1 3) (e3 : I' 2 = I 2) (e4 : I' 132 = I 132) : TXR I' := by unfold TXR; rw [e1, e2, e3, e4]; exact h
theorem HER.fr {I I' : It} {α : Nat → Int → Int} (h : HER I α) (e1 : I' 131 11 = I 131 11) (e2 : I' 106 4 = I 106 4) (e3 : I' 139 = I 139) (e4 : I' 107 = I 107) (e5 : I' 108 = I 108) : HER I' α := by unfold HER; rw [e1, e2, e3, e4, e5]; exact h
theorem DRR.fr {I I' : It} {α : Nat → Int → Int} (h : DRR I α) (e1 : I' 131 13 = I 131 13) (e2 : I' 112 4 = I 112 4) (e3 : I' 140 = I 140) (e4 : ∀ a, 113 ≤ a → a < 117 → I' a = I a) : DRR I' α := by
  unfold DRR; rw [e1, e2, e3, e4 113 (by omega) (by omega), e4 114 (by omega) (by omega), e4 115 (by omega) (by omega), e4 116 (by omega) (by omega)]; exact h
theorem UNR.fr {I I' : It} {α : Nat → Int → Int} {U : Int → Nat → Int → Int} (hW : WF α) (h : UNR I α U) (e1 : I' 131 10 = I 131 10) (e2 : ∀ q, 25 ≤ q → q < 83 → I' q = I q) (e3 : ∀ i, 126 ≤ i → i < 462 → I' 138 i = I 138 i) : UNR I' α U := by
  have e25 := e2 25 (by omega) (by omega)
  refine ⟨by rw [e1, e25]; exact h.1, h.2.1.fr (fun q a b => e2 q (by omega) (by omega)), fun k a b => ?_⟩
  rw [e25] at b
  have := h.2.1.2.1.2
  exact (h.2.2 k a b).fr hW (fun i c e => e3 i (by omega) (by omega))
theorem KER.fr {I I' : It} {α : Nat → Int → Int} {V : Int → Nat → Int → Int} (hW : WF α) (h : KER I α V) (e1 : I' 131 9 = I 131 9) (e2 : ∀ q, 83 ≤ q → q < 99 → I' q = I q) (e3 : ∀ i, 42 ≤ i → i < 126 → I' 138 i = I 138 i) : KER I' α V := by
  have e83 := e2 83 (by omega) (by omega)
  refine ⟨by rw [e1, e83]; exact h.1, h.2.1.fr (fun q a b => e2 q (by omega) (by omega)), fun k a b => ?_⟩
  rw [e83] at b
  have := h.2.1.2.1.2
  exact (h.2.2 k a b).fr hW (fun i c e => e3 i (by omega) (by omega))
theorem VS.fr {I I' : It} {σ : Nat → Int → Int} (h : VS I σ) (e : ∀ a, 18 ≤ a → a < 25 → I' a = I a) : VS I' σ := fun c hc => by rw [e (18 + c) (by omega) (by omega)]; exact h c hc
-- states that are alike in what counts
theorem EqS.eqT {a b : Nat → Int → Int} (h : EqS a b) (h7 : b 0 1 ≤ 7) : EqT a b := ⟨h.1, h.2.1, h.2.2.1, fun j x y => h.2.2.2 j x (by omega)⟩
theorem RK.eqT {b : Int} {α σ σ' : Nat → Int → Int} {I : It} (hW : WF α) (e : EqT σ σ') (h : RK b α I σ') : RK b α I σ := by
  obtain ⟨e1, e2, e3, e4⟩ := e
  obtain ⟨⟨r1, r2, r3, r4⟩, ⟨w1, w2, w3, w4, w5⟩, ap, ca⟩ := h
  have h5 := hW.2.2.1
  refine ⟨⟨by rw [e2]; exact r1, by rw [e1]; exact r2, fun t x y => ?_, fun j x y => ?_⟩, ⟨by rw [e1]; exact w1, by rw [e2]; exact w2, fun t x y => ?_, fun t x y => ?_, fun j x y => ?_⟩, fun t u t1 t2 u1 u2 c1 c2 c3 c4 => ?_, fun j x y z => ?_⟩
  · rw [(e3 t x (by omega)).1, (e3 t x (by omega)).2]; exact r3 t x y
  · rw [e2] at y
    obtain ⟨q1, q2, q3, q4⟩ := e4 j x y
    rw [q1, q2, q3, q4]; exact r4 j x y
  · rw [(e3 t x (by omega)).1]; exact w3 t x y
  · rw [(e3 t x y).2]; exact w4 t x y
  · rw [e2] at y
    obtain ⟨q1, q2, q3, q4⟩ := e4 j x y
    rw [q1, q2, q3, q4]; exact w5 j x y
  · rw [(e3 t t1 (by omega)).2] at c1
    rw [(e3 u u1 (by omega)).2] at c2
    rw [(e3 t t1 (by omega)).1, (e3 u u1 (by omega)).1] at c4
    exact ap t u t1 t2 u1 u2 c1 c2 c3 c4
  · rw [e2] at y
    obtain ⟨q1, q2, q3, q4⟩ := e4 j x y
    rw [q4] at z ⊢
    obtain ⟨z1, z2⟩ := ca j x y z
    rw [q2, (e3 (σ' 6 j) z1.1 (by omega)).1]; exact ⟨z1, z2⟩
theorem VP.eqS {p : Nat} {n : Int} {I : It} {U U' : Int → Nat → Int → Int} (h : VP p n I U) (e : ∀ k, 0 ≤ k → k < I p 2 → EqS (U k) (U' k)) : VP p n I U' := ⟨h.1, h.2.1, fun k a b => (h.2.2 k a b).tr (e k a b)⟩
theorem VS.eqS {I : It} {σ : Nat → Int → Int} (h : VS I σ) : EqS (vw 18 I) σ := by
  have e : ∀ c, c ≤ 6 → vw 18 I c = σ c := fun c hc => h c hc
  unfold EqS
  rw [e 0 (by omega), e 1 (by omega), e 2 (by omega), e 3 (by omega), e 4 (by omega), e 5 (by omega), e 6 (by omega)]
  exact EqS.rf
-- the sea went on, on both sides
theorem Bo.ps {T D : Nat} {α σ σ' : Nat → Int → Int} {U V : Int → Nat → Int → Int} {Z : Zt} {I I1 I2 : It} {P : Pt'} (h : Bo T D α σ U V Z I P) (p : PS U σ' I I1) (q : PM α U σ σ' I1 I2) (hws : WS α σ') (hap : AP α σ') (hca : CA α σ') : Bo T D α (vw 18 I1) (pshU 8 (I 25 2) U σ) V Z I2 P := by
  obtain ⟨p1, p2, p3, p4⟩ := p
  obtain ⟨q1, q2, q3, q4, q5, q6⟩ := q
  have ht := h.tt
  have hW := h.w
  have eA : ∀ a, (a < 18 ∨ 83 ≤ a) → a ≠ 99 → a ≠ 100 → a ≠ 131 → a ≠ 138 → I2 a = I a := fun a b c e f g => by rw [q5 a f g, p4 a b c e]
  have e131 : I1 131 = I 131 := p4 131 (by omega) (by omega) (by omega)
  have e138 : I1 138 = I 138 := p4 138 (by omega) (by omega) (by omega)
  have f131 : ∀ j, j ≠ 10 → I2 131 j = I 131 j := fun j hj => by rw [q4 j hj, e131]
  have hu := h.rb.un.1
  rw [e131] at q2 q3
  have e25 : I2 25 = I1 25 := q5 25 (by omega) (by omega)
  have hvp : VP 25 8 I1 (pshU 8 (I 25 2) U σ) := p3.eqS (fun k a b => by
    unfold pshU
    split
    · dsimp only
      by_cases z : k = I 25 2
      · rw [if_pos z, if_pos z]; exact h.rb.vs.eqS
      · rw [if_neg z, if_neg z]; exact EqS.rf
    · dsimp only
      by_cases z : k = 8 - 1
      · rw [if_pos z, if_pos z]; exact h.rb.vs.eqS
      · rw [if_neg z, if_neg z]; exact EqS.rf)
  refine ⟨h.sn.fi (fun a z => eA a (by omega) (by omega) (by omega) (by omega) (by omega)), h.d0, h.isd, h.ne, h.lm, h.lq, ⟨fun c hc => ?_, ?_, RK.eqT hW p1 ⟨q1, hws, hap, hca⟩, ?_, ?_, ?_, ?_, ⟨?_, ?_, fun k a b => ?_⟩, ?_⟩⟩
  · exact q5 (18 + c) (by omega) (by omega)
  · exact h.rb.vm.fr (eA 133 (by omega) (by omega) (by omega) (by omega) (by omega)) (eA 134 (by omega) (by omega) (by omega) (by omega) (by omega)) (eA 135 (by omega) (by omega) (by omega) (by omega) (by omega)) (eA 136 (by omega) (by omega) (by omega) (by omega) (by omega))
  · exact h.rb.hf.fr (f131 16 (by omega)) (eA 141 (by omega) (by omega) (by omega) (by omega) (by omega))
  · exact h.rb.tx.fr (f131 0 (by omega)) (by rw [eA 1 (by omega) (by omega) (by omega) (by omega) (by omega)]) (eA 2 (by omega) (by omega) (by omega) (by omega) (by omega)) (eA 132 (by omega) (by omega) (by omega) (by omega) (by omega))
  · exact h.rb.he.fr (f131 11 (by omega)) (by rw [eA 106 (by omega) (by omega) (by omega) (by omega) (by omega)]) (eA 139 (by omega) (by omega) (by omega) (by omega) (by omega)) (eA 107 (by omega) (by omega) (by omega) (by omega) (by omega)) (eA 108 (by omega) (by omega) (by omega) (by omega) (by omega))
  · exact h.rb.dr.fr (f131 13 (by omega)) (by rw [eA 112 (by omega) (by omega) (by omega) (by omega) (by omega)]) (eA 140 (by omega) (by omega) (by omega) (by omega) (by omega)) (fun a b c => eA a (by omega) (by omega) (by omega) (by omega) (by omega))
  · rw [q2, e25, p2, hu]
  · exact hvp.fr (fun a b c => q5 a (by omega) (by omega))
  · rw [e25] at b
    have hb : k < I2 131 10 := by rw [q2, hu]; rw [p2] at b; exact b
    refine ⟨by rw [← hu]; exact q3 k a hb, ?_⟩
    rw [p2] at b
    have hn := h.rb.un.2.1.2.1
    unfold pshU
    split
    · rename_i hc
      rw [if_pos hc] at b
      dsimp only
      by_cases z : k = I 25 2
      · rw [if_pos z]; exact h.rb.now.2
      · rw [if_neg z]; exact (h.rb.un.2.2 k a (by omega)).2
    · rename_i hc
      rw [if_neg hc] at b
      dsimp only
      by_cases z : k = 8 - 1
      · rw [if_pos z]; exact h.rb.now.2
      · rw [if_neg z]; exact (h.rb.un.2.2 (k + 1) (by omega) (by omega)).2
  · exact h.rb.ke.fr hW (f131 9 (by omega)) (fun a b c => eA a (by omega) (by omega) (by omega) (by omega) (by omega)) (fun i a b => by rw [q6 i a b, e138])
-- the states that the calls make are sound
theorem WS.st {α σ : Nat → Int → Int} (hW : WF α) (h : WS α σ) {n : Int} (hn : 0 ≤ n ∧ σ 0 0 + n ≤ 9999) : WS α (stepS α σ n) := by
  have k := WK.st hW h.k (n := n) (by omega)
  refine ⟨by rw [st00]; have := h.1; omega, k.2.1, fun t a b => by rw [st1]; exact h.2.2.1 t a b, fun t a b => by rw [st2]; exact h.2.2.2.1 t a b, k.2.2⟩
theorem AP.st {α σ : Nat → Int → Int} (h : AP α σ) (n : Int) : AP α (stepS α σ n) := fun t u t1 t2 u1 u2 c1 c2 c3 c4 => by
  rw [st2] at c1 c2
  rw [st1] at c4
  exact h t u t1 t2 u1 u2 c1 c2 c3 c4
theorem ad1 (σ : Nat → Int → Int) (a b c : Int) : addS σ a b c 1 = σ 1 := by funext j; simp [addS]
theorem ad2 (σ : Nat → Int → Int) (a b c : Int) : addS σ a b c 2 = σ 2 := by funext j; simp [addS]
theorem ad00 (σ : Nat → Int → Int) (a b c : Int) : addS σ a b c 0 0 = σ 0 0 := by simp [addS]
theorem ad01 (σ : Nat → Int → Int) (a b c : Int) : addS σ a b c 0 1 = σ 0 1 + 1 := by simp [addS]
theorem adn (σ : Nat → Int → Int) (a b c : Int) : addS σ a b c 3 (σ 0 1) = a ∧ addS σ a b c 4 (σ 0 1) = b ∧ addS σ a b c 5 (σ 0 1) = c ∧ addS σ a b c 6 (σ 0 1) = -4 := by simp [addS]
theorem ado (σ : Nat → Int → Int) (a b c : Int) {j : Int} (h : j ≠ σ 0 1) : addS σ a b c 3 j = σ 3 j ∧ addS σ a b c 4 j = σ 4 j ∧ addS σ a b c 5 j = σ 5 j ∧ addS σ a b c 6 j = σ 6 j := by simp [addS, h]
theorem WS.ad {α σ : Nat → Int → Int} {a b c : Int} (h : WS α σ) (h7 : σ 0 1 < 7) (ha : 0 ≤ a ∧ a < α 0 1) (hb : 0 ≤ b ∧ b < α 0 0) (hc : 0 ≤ c ∧ c ≤ 9) : WS α (addS σ a b c) := by
  obtain ⟨w1, w2, w3, w4, w5⟩ := h
  refine ⟨by rw [ad00]; exact w1, by rw [ad01]; omega, fun t x y => by rw [ad1]; exact w3 t x y, fun t x y => by rw [ad2]; exact w4 t x y, fun j x y => ?_⟩
  rw [ad01] at y
  by_cases e : j = σ 0 1
  · subst e
    obtain ⟨e1, e2, e3, e4⟩ := adn σ a b c
    rw [e1, e2, e3, e4]; exact ⟨⟨ha, hb, hc⟩, Or.inl rfl⟩
  · obtain ⟨e1, e2, e3, e4⟩ := ado σ a b c e
    rw [e1, e2, e3, e4]; exact w5 j x (by omega)
theorem AP.ad {α σ : Nat → Int → Int} {a b c : Int} (h : AP α σ) : AP α (addS σ a b c) := fun t u t1 t2 u1 u2 c1 c2 c3 c4 => by
  rw [ad2] at c1 c2
  rw [ad1] at c4
  exact h t u t1 t2 u1 u2 c1 c2 c3 c4
theorem CA.ad {α σ : Nat → Int → Int} {a b c : Int} (h : CA α σ) : CA α (addS σ a b c) := fun j x y z => by
  rw [ad01] at y
  by_cases e : j = σ 0 1
  · subst e
    exact absurd (adn σ a b c).2.2.2 z
  · obtain ⟨e1, e2, e3, e4⟩ := ado σ a b c e
    rw [e4] at z ⊢
    rw [e2, ad1]; exact h j x (by omega) z
theorem ct_o (σ : Nat → Int → Int) (t : Int) {k : Nat} (h2 : k ≠ 2) (h6 : k ≠ 6) : cutS σ t k = σ k := by funext j; simp [cutS, h2, h6]
theorem ct6 (σ : Nat → Int → Int) (t j : Int) : cutS σ t 6 j = if σ 6 j = t then -4 else σ 6 j := by simp [cutS]
theorem ct2 (σ : Nat → Int → Int) (t j : Int) : cutS σ t 2 j = if j = t then 1 else σ 2 j := by simp [cutS]
theorem WS.ct {α σ : Nat → Int → Int} (h : WS α σ) (t : Int) : WS α (cutS σ t) := by
  obtain ⟨w1, w2, w3, w4, w5⟩ := h
  refine ⟨by rw [ct_o σ t (by omega) (by omega)]; exact w1, by rw [ct_o σ t (by omega) (by omega)]; exact w2, fun u x y => by rw [ct_o σ t (by omega) (by omega)]; exact w3 u x y, fun u x y => ?_, fun j x y => ?_⟩
  · rw [ct2]
    split
    · exact Or.inr rfl
    · exact w4 u x y
  · rw [ct_o σ t (k := 0) (by omega) (by omega)] at y
    rw [ct_o σ t (k := 3) (by omega) (by omega), ct_o σ t (k := 4) (by omega) (by omega), ct_o σ t (k := 5) (by omega) (by omega), ct6]
    obtain ⟨i1, i2⟩ := w5 j x y
    split
    · exact ⟨i1, Or.inl rfl⟩
    · exact ⟨i1, i2⟩
theorem AP.ct {α σ : Nat → Int → Int} (h : AP α σ) (t : Int) : AP α (cutS σ t) := fun u v t1 t2 u1 u2 c1 c2 c3 c4 => by
  rw [ct2] at c1 c2
  rw [ct_o σ t (by omega) (by omega)] at c4
  split at c1
  · omega
  · split at c2
    · omega
    · exact h u v t1 t2 u1 u2 c1 c2 c3 c4
theorem CA.ct {α σ : Nat → Int → Int} (h : CA α σ) (t : Int) : CA α (cutS σ t) := fun j x y z => by
  rw [ct_o σ t (k := 0) (by omega) (by omega)] at y
  rw [ct6] at z ⊢
  rw [ct_o σ t (k := 4) (by omega) (by omega), ct_o σ t (k := 1) (by omega) (by omega)]
  split at z
  · exact absurd rfl z
  · rename_i c
    rw [if_neg c]; exact h j x y z
theorem hg_o (σ : Nat → Int → Int) (t x : Int) {k : Nat} (h2 : k ≠ 1) (h6 : k ≠ 4) : hangS σ t x k = σ k := by funext j; simp [hangS, h2, h6]
theorem hg1 (σ : Nat → Int → Int) (t x j : Int) : hangS σ t x 1 j = if j = t then x else σ 1 j := by simp [hangS]
theorem hg4 (σ : Nat → Int → Int) (t x j : Int) : hangS σ t x 4 j = if σ 6 j = t then x else σ 4 j := by simp [hangS]
theorem WS.hg {α σ : Nat → Int → Int} (h : WS α σ) {t x : Int} (hx : 0 ≤ x ∧ x < α 0 0) : WS α (hangS σ t x) := by
  obtain ⟨w1, w2, w3, w4, w5⟩ := h
  refine ⟨by rw [hg_o σ t x (by omega) (by omega)]; exact w1, by rw [hg_o σ t x (by omega) (by omega)]; exact w2, fun u a b => ?_, fun u a b => by rw [hg_o σ t x (by omega) (by omega)]; exact w4 u a b, fun j a b => ?_⟩
  · rw [hg1]
    split
    · exact hx
    · exact w3 u a b
  · rw [hg_o σ t x (k := 0) (by omega) (by omega)] at b
    rw [hg_o σ t x (k := 3) (by omega) (by omega), hg_o σ t x (k := 5) (by omega) (by omega), hg_o σ t x (k := 6) (by omega) (by omega), hg4]
    obtain ⟨i1, i2⟩ := w5 j a b
    split
    · exact ⟨⟨i1.1, hx, i1.2.2⟩, i2⟩
    · exact ⟨i1, i2⟩
theorem AP.hg {α σ : Nat → Int → Int} (hW : WF α) (h : AP α σ) {t x : Int} (hf : tAt (α 4) (σ 1) (σ 2) (α 4 t) x (-1) (α 0 5).toNat 0 = -4) : AP α (hangS σ t x) := fun u v t1 t2 u1 u2 c1 c2 c3 c4 => by
  have h5 := hW.2.2.1
  have no : ∀ w, 0 ≤ w → w < α 0 5 → ¬ (σ 2 w = 0 ∧ α 4 w = α 4 t ∧ σ 1 w = x) := fun w a b z => tAt_no (α 0 5).toNat 0 (by omega) hf w a (by omega) ⟨by omega, z.1, z.2.1, z.2.2⟩
  rw [hg_o σ t x (k := 2) (by omega) (by omega)] at c1 c2
  rw [hg1, hg1] at c4
  by_cases e1 : u = t
  · by_cases e2 : v = t
    · omega
    · subst e1
      rw [if_pos rfl, if_neg e2] at c4
      exact absurd ⟨c2, c3.symm, c4.symm⟩ (no v u1 u2)
  · by_cases e2 : v = t
    · subst e2
      rw [if_neg e1, if_pos rfl] at c4
      exact absurd ⟨c1, c3, c4⟩ (no u t1 t2)
    · rw [if_neg e1, if_neg e2] at c4
      exact h u v t1 t2 u1 u2 c1 c2 c3 c4
theorem CA.hg {α σ : Nat → Int → Int} (h : CA α σ) {t x : Int} : CA α (hangS σ t x) := fun j a b z => by
  rw [hg_o σ t x (k := 0) (by omega) (by omega)] at b
  rw [hg_o σ t x (k := 6) (by omega) (by omega)] at z ⊢
  obtain ⟨z1, z2⟩ := h j a b z
  rw [hg4, hg1]
  refine ⟨z1, ?_⟩
  by_cases e : σ 6 j = t
  · rw [if_pos e, if_pos e]
  · rw [if_neg e, if_neg e]; exact z2
