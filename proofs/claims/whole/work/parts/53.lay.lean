/-! fault and lay -/
theorem LayQ.sw {P : Pt'} {x y : Option Nat} (h : LayQ P) : LayQ (upP (upP P 4 0 x) 0 11 y) := fun q hq => by
  have h1 : q.1 = 131 := by revert q; decide +kernel
  rw [h1, upP_A (by omega), upP_A (by omega), ← h1]; exact h q hq
theorem nn_sw {P : Pt'} {x y : Option Nat} : nn (upP (upP P 4 0 x) 0 11 y) = nn P := by
  unfold nn; rw [upP_A (by omega), upP_A (by omega)]
/-- a new sea, on both sides -/
theorem RB.new {α : Nat → Int → Int} {U V : Int → Nat → Int → Int} {I : It} (hW : WF α) (hh : hold α) (hl : LD1 α I) (hv : VM I α) (hr : ∀ σ, INI α σ → RS 0 I α σ) (h0 : I 131 16 = 0 ∧ I 131 11 = 0 ∧ I 131 13 = 0 ∧ I 131 10 = 0 ∧ I 131 9 = 0) (ht : TXR I) : RB α (vw 18 I) U V I := by
  obtain ⟨⟨s1, s2, s3, s4⟩, l1, l2, l3, l4, l5, l6⟩ := hl
  obtain ⟨z1, z2, z3, z4, z5⟩ := h0
  have hI : INI α (vw 18 I) := ⟨s1, s2, s3, s4⟩
  obtain ⟨w0, w1, w2, w3, w4, w5, w6, w7, w8⟩ := id hW
  have s1' : vw 18 I 0 0 = 0 := s1
  have s2' : vw 18 I 0 1 = α 0 13 := s2
  refine ⟨fun c _ => rfl, hv, ⟨hr _ hI, ⟨by omega, by omega, fun t a b => ?_, fun t a b => Or.inl (s3 t a b).2, fun j a b => ?_⟩, fun t u t1 t2 u1 u2 c1 c2 c3 c4 => ?_, fun j a b c => ?_⟩, Or.inl z1, ht, ⟨by omega, by omega, fun i a b => by omega⟩, ⟨by omega, by omega, fun i a b => by omega⟩, ⟨by omega, ⟨by omega, by omega, fun k a b => by omega⟩, fun k a b => by omega⟩, ⟨by omega, ⟨by omega, by omega, fun k a b => by omega⟩, fun k a b => by omega⟩⟩
  · have e : vw 18 I 1 t = α 5 t := (s3 t a (by omega)).1
    rw [e]; exact (w6 t a b).2.1
  · rw [s2'] at b
    obtain ⟨y1, y2, y3, y4⟩ := s4 j a b
    have x1 : vw 18 I 3 j = α 10 j := y1
    have x2 : vw 18 I 4 j = α 11 j := y2
    have x3 : vw 18 I 5 j = α 12 j := y3
    have x4 : vw 18 I 6 j = -4 := y4
    rw [x1, x2, x3, x4]; exact ⟨w8 j a b, Or.inl rfl⟩
  · have e1 : vw 18 I 1 t = α 5 t := (s3 t t1 (by omega)).1
    have e2 : vw 18 I 1 u = α 5 u := (s3 u u1 (by omega)).1
    rw [e1, e2] at c4
    rcases Int.lt_trichotomy t u with z | z | z
    · exact absurd ⟨c3.symm, c4.symm⟩ ((hh.2.2 u u1 u2).1 t t1 z)
    · exact z
    · exact absurd ⟨c3, c4⟩ ((hh.2.2 t t1 t2).1 u u1 z)
  · rw [s2'] at b
    exact absurd (s4 j a b).2.2.2 c
section FLX
variable {T D : Nat} {α σ : Nat → Int → Int} {U V : Int → Nat → Int → Int} {Z : Zt} {I I' : It} {P : Pt'}
/-- the draft is read into, and nothing else -/
theorem Bo.dr (h : Bo T D α σ U V Z I P) (e : ∀ a, (a < D ∨ D + 13 ≤ a) → a ≠ 1 → a ≠ 3 → I' a = I a) (e1 : ∀ j, j ≠ 2 → I' 1 j = I 1 j) : Bo T D α σ U V Z I' P := by
  have ht := h.tt
  have hd : D = 5 ∨ D = 118 := h.isd
  have hne := h.ne
  have e0 : ∀ a, ((18 ≤ a ∧ a < 118) ∨ 131 ≤ a ∨ a = 2 ∨ (T ≤ a ∧ a < T + 13)) → I' a = I a := fun a z => e a (by omega) (by omega) (by omega)
  refine h.fx ⟨fun a z => e0 a (by omega), ⟨e1 3 (by omega), by rw [e0 106 (by omega)], by rw [e0 112 (by omega)]⟩, fun j _ => by rw [e0 131 (by omega)], fun j _ => by rw [e0 138 (by omega)], ⟨fun j _ => by rw [e0 133 (by omega)], fun j _ => by rw [e0 134 (by omega)], fun j _ => by rw [e0 135 (by omega)], fun j _ => by rw [e0 136 (by omega)]⟩, h.rb.hf.fr (by rw [e0 131 (by omega)]) (e0 141 (by omega))⟩ (fun a z => e0 a (by omega))
theorem Bo.gi (h : Bo T D α σ U V Z I P) (k : GI I I') : Bo T D α σ U V Z I' P := by
  have ht := h.tt
  obtain ⟨k1, k2, k3, k4, k5, k6, k7⟩ := k
  have e0 : ∀ a, (a < 131 ∨ a = 132 ∨ (138 ≤ a ∧ a < 144) ∨ 144 < a) → I' a = I a := fun a z => k7 a (by omega) (by omega) (by omega) (by omega) (by omega) (by omega) (by omega)
  refine h.fx ⟨fun a z => e0 a (by omega), ⟨by rw [e0 1 (by omega)], by rw [e0 106 (by omega)], by rw [e0 112 (by omega)]⟩, fun j z => k6 j (by omega), fun j _ => by rw [e0 138 (by omega)], ⟨k1, k2, k3, k4⟩, h.rb.hf.fr (k6 16 (by omega)) (e0 141 (by omega))⟩ (fun a z => e0 a (by omega))
theorem Bo.ltr (h : Bo T D α σ U V Z I P) : Ltr (I 132) (I 131 0) := fun p a b => by
  obtain ⟨x1, x2, x3, x4⟩ := h.rb.tx
  rw [x1] at b
  rw [← x4 p a b]; exact x3 p a b
theorem Bo.len (h : Bo T D α σ U V Z I P) : 0 ≤ I 131 0 ∧ I 131 0 ≤ 200 := by
  obtain ⟨x1, x2, x3, x4⟩ := h.rb.tx
  rw [x1]; exact x2
theorem Bo.rd (h : Bo T D α σ U V Z I P) (D0 : Nat → Int → Int) : rdF (I 2) (I 1 3) 200 D0 0 = rdF (I 132) (I 131 0) 200 D0 0 := by
  obtain ⟨x1, x2, x3, x4⟩ := h.rb.tx
  rw [x1]; exact rdF_cg (fun p a b => x4 p a b) 200 D0 0 (by omega)
end FLX
theorem b_fault {l : Launch} {g : Gt} {T D : Nat} {α σ : Nat → Int → Int} {U V : Int → Nat → Int → Int} {Z : Zt} {I : It} {P : Pt'} {L i : Int} {X : Int → Int} {Q : Qt} (hX : SCR g L X) (hi : 0 ≤ i ∧ i + 6 ≤ L) (h : Bo T D α σ U V Z I P) (k : NXT l g Q i) : Ev l g mL 9 (2 * nn P) (194 * nn P) Z I P 220 [vS, vA 0, vA 131, vI i] [] Q := by
  have hL := hX.2.1
  have hZ := h.sn.1
  have hM := h.lm
  refine ev_aload_1 220 dL_law_220 ?_
  refine ev_cVm_0 221 dL_law_221 kmX11_fault lk_L_23 (kd_0 hZ) (c_fault (d := 3) h.sn h.rb.vs h.ws h.d0 h.isd rfl rfl h.rb.tx.2.1 h.rb.tx.2.2.1) rfl rfl (fun r0 I0 f0 => ?_)
  obtain ⟨c1, c2, c3, c4⟩ := f0
  have h1 := h.dr c3 c4
  have e131 : I0 131 = I 131 := c3 131 (by have hd : D = 5 ∨ D = 118 := h.isd
                                           omega) (by omega) (by omega)
  have e132 : I0 132 = I 132 := c3 132 (by have hd : D = 5 ∨ D = 118 := h.isd
                                           omega) (by omega) (by omega)
  refine ev_aload_2 224 dL_law_224 ?_
  refine ev_cVm_0 225 dL_law_225 kmX12_fault lk_L_26 (kd_131 hM) (m_fault (d := 5) h1.lm h1.lq rfl rfl h1.len h1.ltr (vw D I)) rfl rfl (fun r1 I1 f1 => ?_)
  obtain ⟨b1, b2, -⟩ := f1
  refine ev_icmp_eq 228 1157 dL_law_228 rfl (fun hq => ?_) (fun hq => ?_)
  · exact k _ _ _ _ _ _ _ _ _ (h1.gi b2)
  · exact absurd (by rw [c1, b1, e131, e132, h.rd]) hq
theorem b_lay {l : Launch} {g : Gt} {T D : Nat} {α σ : Nat → Int → Int} {U V : Int → Nat → Int → Int} {Z : Zt} {I : It} {P : Pt'} {L i : Int} {X : Int → Int} {Q : Qt} (hX : SCR g L X) (hi : 0 ≤ i ∧ i + 6 ≤ L) (h : Bo T D α σ U V Z I P) (k : NXT l g Q i) : Ev l g mL 9 (2 * nn P) (194 * nn P) Z I P 233 [vS, vA 0, vA 131, vI i] [] Q := by
  have hL := hX.2.1
  have hZ := h.sn.1
  have hM := h.lm
  refine ev_aload_1 233 dL_law_233 ?_
  refine Ev.mono (bc' := 2 * nn P + 0) (bs' := 194 * nn P + 0) (by omega) (by omega) ?_
  refine ev_cVg_0 234 dL_law_234 kmX11_lay lk_L_27 (kd_0 hZ) (c_lay (d := 2) h.sn.1 h.sn.2.1 h.sn.2.2.1 h.sn.2.2.2.1 h.d0 h.isd h.ne h.sn.2.2.2.2.2.2.1 h.sn.2.2.2.2.2.2.2.2.1 rfl rfl h.rb.tx.2.1 h.rb.tx.2.2.1) rfl rfl (fun r0 Z0 I0 P0 f0 _ _ => ?_)
  obtain ⟨rfl, f0⟩ := f0
  rw [h.rd] at f0
  have hd : D = 5 ∨ D = 118 := h.isd
  have htt := h.tt
  have hne := h.ne
  have e131 : I0 131 = I 131 := by
    rcases f0 with ⟨-, -, -, z, -⟩ | ⟨-, -, -, -, -, -, z, -⟩
    · exact z 131 (by omega) (by omega) (by omega)
    · exact z 131 (by omega)
  have e132 : I0 132 = I 132 := by
    rcases f0 with ⟨-, -, -, z, -⟩ | ⟨-, -, -, -, -, -, z, -⟩
    · exact z 132 (by omega) (by omega) (by omega)
    · exact z 132 (by omega)
  have hN0 : LayQ P0 := by
    rcases f0 with ⟨-, -, z, -⟩ | ⟨-, -, z, -⟩
    · rw [z]; exact h.lq
    · rw [z]; exact h.lq.sw
  have hnn : nn P0 = nn P := by
    rcases f0 with ⟨-, -, z, -⟩ | ⟨-, -, z, -⟩
    · rw [z]
    · rw [z]; exact nn_sw
  refine Ev.mono (bc' := 2 * nn P0) (bs' := 194 * nn P0) (by omega) (by omega) ?_
  refine ev_aload_2 237 dL_law_237 ?_
  refine ev_cVm_0 238 dL_law_238 kmX12_lay lk_L_30 (kd_131 hM) (m_lay (d := 4) h.lm hN0 (tx := I 132) (n := I 131 0) e132 (by rw [e131]) h.len h.ltr (vw D I)) rfl rfl (fun r1 I1 f1 => ?_)
  refine ev_icmp_eq 241 1157 dL_law_241 rfl (fun hq => ?_) (fun hq => ?_)
  · rcases f0 with ⟨a1, a2, a3, a4, a5⟩ | ⟨a1, a2, a3, a4, a5⟩
    · rcases f1 with ⟨b1, b2, b3⟩ | ⟨b1, -⟩
      · subst a3; exact k _ _ _ _ _ _ _ _ _ ((h.dr a4 a5).gi b3)
      · exact absurd b1 a1
    · rcases f1 with ⟨b1, -⟩ | ⟨-, b2, b3, b4, b5, b6, b7, b8⟩
      · exact absurd a1 b1
      · subst a3
        obtain ⟨x1, x2, x3, x4⟩ := h.rb.tx
        have q : ∀ a, a < 131 → I1 a = I0 a := fun a z => b8 a (Or.inl z)
        have hl1 : LD1 (rdF (I 132) (I 131 0) 200 (startD (vw D I)) 0).2 I1 := by
          unfold LD1
          rw [q 18 (by omega), q 19 (by omega), q 20 (by omega), q 21 (by omega), q 22 (by omega), q 23 (by omega), q 24 (by omega), q 106 (by omega), q 112 (by omega), q 25 (by omega), q 83 (by omega)]
          exact ⟨a5.1, a5.2.1⟩
        have hsn := a4.fi (I' := I1) (fun a z => b8 a (by omega))
        have i13 : I1 1 3 = I 1 3 := by rw [q 1 (by omega)]; exact a5.2.2.2 3 (by omega)
        have i2 : I1 2 = I 2 := by rw [q 2 (by omega)]; exact a5.2.2.1 2 (Or.inl rfl)
        refine k D T _ (vw 18 I1) U V _ _ _ ⟨hsn, by rw [upP_s], htt, fun z => hne z.symm, h.lm, h.lq.sw, RB.new hsn.2.2.2.2.2.1 a1.2 hl1 b3 b4 b5 ⟨by rw [b6, e131, x1, i13], by rw [i13]; exact x2, by rw [i13, i2]; exact x3, fun i y z => by rw [i2, b7, e132]; rw [i13] at z; exact x4 i y z⟩⟩
  · exfalso
    rcases f0 with ⟨a1, a2, -⟩ | ⟨a1, a2, -⟩ <;> rcases f1 with ⟨b1, b2, -⟩ | ⟨b1, b2, -⟩
    · omega
    · exact a1 b1
    · exact b1 a1
    · omega
