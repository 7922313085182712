/-! the two sides over one memory: what holds between the calls; the script's reads -/
def RK (b : Int) (α : Nat → Int → Int) (I : It) (U : Nat → Int → Int) : Prop := RS b I α U ∧ WS α U ∧ AP α U ∧ CA α U
theorem RK.fr {b : Int} {I I' : It} {α U : Nat → Int → Int} (h : RK b α I U) (hW : WF α) (e : ∀ i, b ≤ i → i < b + 42 → I' 138 i = I 138 i) : RK b α I' U := ⟨h.1.fr hW h.2.1.2.1.2 e, h.2⟩
def TXR (I : It) : Prop := I 131 0 = I 1 3 ∧ (0 ≤ I 1 3 ∧ I 1 3 ≤ 200) ∧ Ltr (I 2) (I 1 3) ∧ ∀ i, 0 ≤ i → i < I 1 3 → I 2 i = I 132 i
def HER (I : It) (α : Nat → Int → Int) : Prop := I 131 11 = I 106 4 ∧ (0 ≤ I 106 4 ∧ I 106 4 ≤ 6) ∧ ∀ i, 0 ≤ i → i < I 106 4 → (I 139 (2 * i) = I 107 i ∧ I 139 (2 * i + 1) = I 108 i) ∧ (0 ≤ I 107 i ∧ I 107 i < α 0 5) ∧ (0 ≤ I 108 i ∧ I 108 i ≤ 99)
def DRR (I : It) (α : Nat → Int → Int) : Prop := I 131 13 = I 112 4 ∧ (0 ≤ I 112 4 ∧ I 112 4 ≤ 6) ∧ ∀ i, 0 ≤ i → i < I 112 4 → (I 140 (4 * i) = I 113 i ∧ I 140 (4 * i + 1) = I 114 i ∧ I 140 (4 * i + 2) = I 115 i ∧ I 140 (4 * i + 3) = I 116 i) ∧ (0 ≤ I 114 i ∧ I 114 i ≤ 23) ∧ (1 ≤ I 116 i ∧ I 116 i ≤ 50) ∧ (0 ≤ I 115 i ∧ I 115 i < α 0 0)
def UNR (I : It) (α : Nat → Int → Int) (U : Int → Nat → Int → Int) : Prop := I 131 10 = I 25 2 ∧ VP 25 8 I U ∧ ∀ k, 0 ≤ k → k < I 25 2 → RK (42 * (3 + k)) α I (U k)
def KER (I : It) (α : Nat → Int → Int) (V : Int → Nat → Int → Int) : Prop := I 131 9 = I 83 2 ∧ VP 83 2 I V ∧ ∀ k, 0 ≤ k → k < I 83 2 → RK (42 * (1 + k)) α I (V k)
def RB (α σ : Nat → Int → Int) (U V : Int → Nat → Int → Int) (I : It) : Prop := VS I σ ∧ VM I α ∧ RK 0 α I σ ∧ HF I α ∧ TXR I ∧ HER I α ∧ DRR I α ∧ UNR I α U ∧ KER I α V
theorem RB.vs {α σ : Nat → Int → Int} {U V : Int → Nat → Int → Int} {I : It} (h : RB α σ U V I) : VS I σ := h.1
theorem RB.vm {α σ : Nat → Int → Int} {U V : Int → Nat → Int → Int} {I : It} (h : RB α σ U V I) : VM I α := h.2.1
theorem RB.now {α σ : Nat → Int → Int} {U V : Int → Nat → Int → Int} {I : It} (h : RB α σ U V I) : RK 0 α I σ := h.2.2.1
theorem RB.hf {α σ : Nat → Int → Int} {U V : Int → Nat → Int → Int} {I : It} (h : RB α σ U V I) : HF I α := h.2.2.2.1
theorem RB.tx {α σ : Nat → Int → Int} {U V : Int → Nat → Int → Int} {I : It} (h : RB α σ U V I) : TXR I := h.2.2.2.2.1
theorem RB.he {α σ : Nat → Int → Int} {U V : Int → Nat → Int → Int} {I : It} (h : RB α σ U V I) : HER I α := h.2.2.2.2.2.1
theorem RB.dr {α σ : Nat → Int → Int} {U V : Int → Nat → Int → Int} {I : It} (h : RB α σ U V I) : DRR I α := h.2.2.2.2.2.2.1
theorem RB.un {α σ : Nat → Int → Int} {U V : Int → Nat → Int → Int} {I : It} (h : RB α σ U V I) : UNR I α U := h.2.2.2.2.2.2.2.1
theorem RB.ke {α σ : Nat → Int → Int} {U V : Int → Nat → Int → Int} {I : It} (h : RB α σ U V I) : KER I α V := h.2.2.2.2.2.2.2.2
/-- what both sides remember stays -/
def FX (α : Nat → Int → Int) (I I' : It) : Prop := (∀ a, ((18 ≤ a ∧ a < 99) ∨ a = 2 ∨ a = 107 ∨ a = 108 ∨ (113 ≤ a ∧ a < 117) ∨ a = 132 ∨ a = 139 ∨ a = 140) → I' a = I a) ∧ (I' 1 3 = I 1 3 ∧ I' 106 4 = I 106 4 ∧ I' 112 4 = I 112 4) ∧
  (∀ j, (j = 0 ∨ j = 9 ∨ j = 10 ∨ j = 11 ∨ j = 13) → I' 131 j = I 131 j) ∧ (∀ j, j < 462 → I' 138 j = I 138 j) ∧
  ((∀ j, j < 6 → I' 133 j = I 133 j) ∧ (∀ j, j < 24 → I' 134 j = I 134 j) ∧ (∀ j, j < 24 → I' 135 j = I 135 j) ∧ ∀ j, j < 16 → I' 136 j = I 136 j) ∧ HF I' α
theorem VM.fx {α : Nat → Int → Int} {I I' : It} (hW : WF α) (h : VM I α) (x7 : ∀ j, j < 6 → I' 133 j = I 133 j) (x8 : ∀ j, j < 24 → I' 134 j = I 134 j) (x9 : ∀ j, j < 24 → I' 135 j = I 135 j) (x10 : ∀ j, j < 16 → I' 136 j = I 136 j) : VM I' α := by
  obtain ⟨⟨v0, v1, v2, v3, v4⟩, l, t, m⟩ := h
  have w1 := hW.2.1
  have w2 := hW.2.2.1
  have w3 := hW.2.2.2.1
  refine ⟨⟨by rw [x7 _ (by omega)]; exact v0, by rw [x7 _ (by omega)]; exact v1, by rw [x7 _ (by omega)]; exact v2, by rw [x7 _ (by omega)]; exact v3, by rw [x7 _ (by omega)]; exact v4⟩, fun i a b => ?_, fun i a b => ?_, fun i a b => ?_⟩
  · rw [x8 _ (by omega), x8 _ (by omega), x8 _ (by omega)]; exact l i a b
  · rw [x9 _ (by omega), x9 _ (by omega), x9 _ (by omega)]; exact t i a b
  · rw [x10 _ (by omega), x10 _ (by omega)]; exact m i a b
theorem RB.fx {α σ : Nat → Int → Int} {U V : Int → Nat → Int → Int} {I I' : It} (hW : WF α) (h : RB α σ U V I) (x : FX α I I') : RB α σ U V I' := by
  obtain ⟨x1, ⟨x2, x3, x4⟩, x5, x6, ⟨x7, x8, x9, x10⟩, x11⟩ := x
  have e25 : I' 25 = I 25 := x1 25 (by omega)
  have e83 : I' 83 = I 83 := x1 83 (by omega)
  refine ⟨fun c hc => by rw [x1 (18 + c) (by omega)]; exact h.vs c hc, h.vm.fx hW x7 x8 x9 x10, h.now.fr hW (fun i a b => x6 i (by omega)), x11, ?_, ?_, ?_, ⟨?_, ?_, fun k a b => ?_⟩, ⟨?_, ?_, fun k a b => ?_⟩⟩
  · unfold TXR
    rw [x5 0 (by omega), x2, x1 2 (by omega), x1 132 (by omega)]; exact h.tx
  · unfold HER
    rw [x5 11 (by omega), x3, x1 139 (by omega), x1 107 (by omega), x1 108 (by omega)]; exact h.he
  · unfold DRR
    rw [x5 13 (by omega), x4, x1 140 (by omega), x1 113 (by omega), x1 114 (by omega), x1 115 (by omega), x1 116 (by omega)]; exact h.dr
  · rw [x5 10 (by omega), e25]; exact h.un.1
  · exact h.un.2.1.fr (fun q a b => x1 q (by omega))
  · rw [e25] at b
    have := h.un.2.1.2.1.2
    exact (h.un.2.2 k a b).fr hW (fun i c e => x6 i (by omega))
  · rw [x5 9 (by omega), e83]; exact h.ke.1
  · exact h.ke.2.1.fr (fun q a b => x1 q (by omega))
  · rw [e83] at b
    have := h.ke.2.1.2.1.2
    exact (h.ke.2.2 k a b).fr hW (fun i c e => x6 i (by omega))
theorem SN.fi {T : Nat} {α : Nat → Int → Int} {Z : Zt} {I I' : It} {P : Pt'} (h : SN T α Z I P) (e : ∀ a, ((T ≤ a ∧ a < T + 13) ∨ a = 104 ∨ a = 105 ∨ 145 ≤ a) → I' a = I a) : SN T α Z I' P := by
  obtain ⟨hZ, hP, hT0, hT, hA, hW, hRO, hKN, hSH⟩ := h
  refine ⟨hZ, hP, hT0, hT, fun c hc => by rw [e (T + c) (by omega)]; exact hA c hc, hW, hRO, fun j R a b c => ?_, fun v a b => ?_, fun v hv => ?_⟩
  · have := hRO.2 j R a b c
    rw [e R (by omega), e (R + 1) (by omega)]; exact hKN j R a b c
  · rw [e 104 (by omega)]; exact hSH.1 v a b
  · rw [e 105 (by omega)]; exact hSH.2 v hv
def Bo (T D : Nat) (α σ : Nat → Int → Int) (U V : Int → Nat → Int → Int) (Z : Zt) (I : It) (P : Pt') : Prop := SN T α Z I P ∧ P 0 11 = some D ∧ IsT D ∧ D ≠ T ∧ LayM Z ∧ LayQ P ∧ RB α σ U V I
theorem Bo.sn {T D : Nat} {α σ : Nat → Int → Int} {U V : Int → Nat → Int → Int} {Z : Zt} {I : It} {P : Pt'} (h : Bo T D α σ U V Z I P) : SN T α Z I P := h.1
theorem Bo.d0 {T D : Nat} {α σ : Nat → Int → Int} {U V : Int → Nat → Int → Int} {Z : Zt} {I : It} {P : Pt'} (h : Bo T D α σ U V Z I P) : P 0 11 = some D := h.2.1
theorem Bo.isd {T D : Nat} {α σ : Nat → Int → Int} {U V : Int → Nat → Int → Int} {Z : Zt} {I : It} {P : Pt'} (h : Bo T D α σ U V Z I P) : IsT D := h.2.2.1
theorem Bo.ne {T D : Nat} {α σ : Nat → Int → Int} {U V : Int → Nat → Int → Int} {Z : Zt} {I : It} {P : Pt'} (h : Bo T D α σ U V Z I P) : D ≠ T := h.2.2.2.1
theorem Bo.lm {T D : Nat} {α σ : Nat → Int → Int} {U V : Int → Nat → Int → Int} {Z : Zt} {I : It} {P : Pt'} (h : Bo T D α σ U V Z I P) : LayM Z := h.2.2.2.2.1
theorem Bo.lq {T D : Nat} {α σ : Nat → Int → Int} {U V : Int → Nat → Int → Int} {Z : Zt} {I : It} {P : Pt'} (h : Bo T D α σ U V Z I P) : LayQ P := h.2.2.2.2.2.1
theorem Bo.rb {T D : Nat} {α σ : Nat → Int → Int} {U V : Int → Nat → Int → Int} {Z : Zt} {I : It} {P : Pt'} (h : Bo T D α σ U V Z I P) : RB α σ U V I := h.2.2.2.2.2.2
section RLX
variable {T D : Nat} {α σ : Nat → Int → Int} {U V : Int → Nat → Int → Int} {Z Z' : Zt} {I I' : It} {P P' : Pt'}
theorem Bo.w (h : Bo T D α σ U V Z I P) : WF α := h.sn.2.2.2.2.2.1
theorem Bo.ws (h : Bo T D α σ U V Z I P) : WS α σ := h.rb.now.2.1
theorem Bo.ap (h : Bo T D α σ U V Z I P) : AP α σ := h.rb.now.2.2.1
theorem Bo.ca (h : Bo T D α σ U V Z I P) : CA α σ := h.rb.now.2.2.2
theorem Bo.rs (h : Bo T D α σ U V Z I P) : RS 0 I α σ := h.rb.now.1
theorem Bo.rt (h : Bo T D α σ U V Z I P) : RT 0 I α σ := h.rb.now.1.2.2.1
theorem Bo.cut (h : Bo T D α σ U V Z I P) : ∀ t, 0 ≤ t → t < 6 → σ 2 t = 0 ∨ σ 2 t = 1 := h.ws.2.2.2.1
theorem Bo.tt (h : Bo T D α σ U V Z I P) : T = 5 ∨ T = 118 := h.sn.2.2.2.1
theorem Bo.fx (h : Bo T D α σ U V Z I P) (x : FX α I I') (e : ∀ a, ((T ≤ a ∧ a < T + 13) ∨ a = 104 ∨ a = 105 ∨ 145 ≤ a) → I' a = I a) : Bo T D α σ U V Z I' P :=
  ⟨h.sn.fi e, h.d0, h.isd, h.ne, h.lm, h.lq, h.rb.fx h.w x⟩
theorem HF.fr (h : HF I α) (e1 : I' 131 16 = I 131 16) (e2 : I' 141 = I 141) : HF I' α := by
  unfold HF FO; rw [e1, e2]; exact h
/-- the class's own scratch -/
theorem Bo.cl (h : Bo T D α σ U V Z I P) (e : ∀ a, a ≠ 99 → a ≠ 100 → a ≠ 117 → I' a = I a) : Bo T D α σ U V Z I' P := by
  have ht := h.tt
  have e0 : ∀ a, (a < 99 ∨ 101 ≤ a) → a ≠ 117 → I' a = I a := fun a z y => e a (by omega) (by omega) y
  refine h.fx ⟨fun a z => e0 a (by omega) (by omega), ⟨by rw [e0 1 (by omega) (by omega)], by rw [e0 106 (by omega) (by omega)], by rw [e0 112 (by omega) (by omega)]⟩, fun j _ => by rw [e0 131 (by omega) (by omega)], fun j _ => by rw [e0 138 (by omega) (by omega)], ⟨fun j _ => by rw [e0 133 (by omega) (by omega)], fun j _ => by rw [e0 134 (by omega) (by omega)], fun j _ => by rw [e0 135 (by omega) (by omega)], fun j _ => by rw [e0 136 (by omega) (by omega)]⟩, h.rb.hf.fr (by rw [e0 131 (by omega) (by omega)]) (e0 141 (by omega) (by omega))⟩ (fun a z => e0 a (by omega) (by omega))
/-- the reference's own scratch -/
theorem Bo.md (h : Bo T D α σ U V Z I P) (e : ∀ a, a ≠ 131 → a ≠ 138 → a ≠ 141 → a ≠ 142 → a ≠ 143 → I' a = I a) (e1 : ∀ j, j ≠ 16 → j ≠ 18 → j ≠ 19 → j ≠ 22 → I' 131 j = I 131 j) (e2 : ∀ i, i < 462 → I' 138 i = I 138 i) (e3 : HF I' α) : Bo T D α σ U V Z I' P := by
  have ht := h.tt
  have e0 : ∀ a, (a < 131 ∨ (131 < a ∧ a < 138) ∨ (138 < a ∧ a < 141) ∨ 143 < a) → I' a = I a := fun a z => e a (by omega) (by omega) (by omega) (by omega) (by omega)
  refine h.fx ⟨fun a z => e0 a (by omega), ⟨by rw [e0 1 (by omega)], by rw [e0 106 (by omega)], by rw [e0 112 (by omega)]⟩, fun j z => e1 j (by omega) (by omega) (by omega) (by omega), e2, ⟨fun j _ => by rw [e0 133 (by omega)], fun j _ => by rw [e0 134 (by omega)], fun j _ => by rw [e0 135 (by omega)], fun j _ => by rw [e0 136 (by omega)]⟩, e3⟩ (fun a z => e0 a (by omega))
theorem Bo.tf (h : Bo T D α σ U V Z I P) (k : TF I I') : Bo T D α σ U V Z I' P :=
  h.md (fun a a1 a2 _ _ _ => k.1 a a1 a2) (fun j _ _ _ a4 => k.2.1 j a4) k.2.2 (h.rb.hf.fr (k.2.1 16 (by omega)) (k.1 141 (by omega) (by omega)))
theorem Bo.so (h : Bo T D α σ U V Z I P) (k : SO α I I') : Bo T D α σ U V Z I' P :=
  h.md (fun a a1 _ a3 _ _ => k.2.2 a a1 a3) (fun j a1 _ _ _ => k.2.1 j a1) (fun i _ => by rw [k.2.2 138 (by omega) (by omega)]) k.1
/-- rows come -/
theorem Bo.sy (h : Bo T D α σ U V Z I P) (hs : SN T α Z' I' P') (x : SY Z I P Z' I' P') (e : I' 106 4 = I 106 4) : Bo T D α σ U V Z' I' P' := by
  have hz : 145 ≤ Z.2.2 := h.sn.2.2.2.2.2.2.1.1
  have e0 : ∀ a, a < 145 → a ≠ 106 → a ≠ 109 → a ≠ 110 → I' a = I a := x.2.1
  refine ⟨hs, by rw [x.2.2.1 0 (by omega) (by omega) (by omega)]; exact h.d0, h.isd, h.ne, fun a ha hb => by rw [(x.1 a (by omega)).1, (x.1 a (by omega)).2]; exact h.lm a ha hb, fun q hq => ?_, ?_⟩
  · have h1 := rfM_lt q hq
    have h2 : q.1 ≠ 111 := by revert q; decide +kernel
    rw [x.2.2.1 q.1 h1.1 h1.2 h2]; exact h.lq q hq
  · refine h.rb.fx h.w ⟨fun a z => e0 a (by omega) (by omega) (by omega) (by omega), ⟨by rw [e0 1 (by omega) (by omega) (by omega) (by omega)], e, by rw [e0 112 (by omega) (by omega) (by omega) (by omega)]⟩, fun j _ => by rw [e0 131 (by omega) (by omega) (by omega) (by omega)], fun j _ => by rw [e0 138 (by omega) (by omega) (by omega) (by omega)], ⟨fun j _ => by rw [e0 133 (by omega) (by omega) (by omega) (by omega)], fun j _ => by rw [e0 134 (by omega) (by omega) (by omega) (by omega)], fun j _ => by rw [e0 135 (by omega) (by omega) (by omega) (by omega)], fun j _ => by rw [e0 136 (by omega) (by omega) (by omega) (by omega)]⟩, h.rb.hf.fr (by rw [e0 131 (by omega) (by omega) (by omega) (by omega)]) (e0 141 (by omega) (by omega) (by omega) (by omega))⟩
theorem Bo.sx (h : Bo T D α σ U V Z I P) (hs : SN T α Z' I' P') (x : SX Z I P Z' I' P') : Bo T D α σ U V Z' I' P' := h.sy hs x.sy (by rw [x.2.1 106 (by omega)])
end RLX
-- the script
def vS : Vv := Sum.inr (Sum.inr (Sum.inr true))
def SCR (g : Gt) (L : Int) (X : Int → Int) : Prop := g.2.2.2 < g0 g ∧ (0 ≤ L ∧ L ≤ 384) ∧ (∀ j, InR (X j)) ∧ ∃ scr : Cell, g.1[g.2.2.2]? = some scr ∧ scr.slots.size = L.toNat ∧ ∀ j : Nat, j < L.toNat → scr.slots[j]? = some (.int (Int32.ofInt (X (j : Int))))
section SCRX
variable {l : Launch} {g : Gt} {mm : Mm} {d bc bs : Nat} {Z : Zt} {I : It} {P : Pt'} {ls st : List Vv} {Q : Qt}
theorem ev_aloadS_0 (pc : Nat) {r : List Vv} (hd : decode mm.2.1 pc = .ok (.aload_n 0, 1)) (k : Ev l g mm d bc bs Z I P (pc + 1) (vS :: r) (vS :: st) Q) : Ev l g mm d bc bs Z I P pc (vS :: r) st Q :=
  Ev.step (fun h1 h2 => ok_c (ok_at (i := 0) h1 rfl) h2) (fun p e R s m args below meth c H locs cells slots lj Q0 hF hD kk => lv_aload_n hF.1 hF.2.1 hd rfl (lv_rd hD.2.2.1 (i := 0) (v := vS) rfl rfl) kk) k
theorem ev_sald (pc : Nat) {L i : Int} {X : Int → Int} (hX : SCR g L X) (hd : decode mm.2.1 pc = .ok (.iaload, 1)) (hi : 0 ≤ i ∧ i < L)
    (kk : Ev l g mm d bc bs Z I P (pc + 1) ls (vI (X i) :: st) Q) : Ev l g mm d bc bs Z I P pc ls (vI i :: vS :: st) Q := by
  intro p e R s m args below meth c H locs cells slots lj hF hD hc hs
  obtain ⟨hx, hb, hml, hr, hlk, hnm, hts, hown, ⟨hK, hNw, hSW⟩, hfr, hlo⟩ := id hF
  obtain ⟨scr, h1, h2, h3⟩ := hSW.2
  obtain ⟨hb0, -, e4, scr', e1, e2, e3⟩ := hX
  obtain rfl : scr = scr' := Option.some.inj (h1.symm.trans e1)
  have hri : InR i := ok_h hD.2.2.2.2
  have hH : H[g.2.2.2]? = some scr := by rw [hD.1.2.1 _ hb0]; exact h1
  have k1 := kk p e R s m args below meth c H locs cells slots lj hF ⟨hD.1, hD.2.1, hD.2.2.1, hD.2.2.2.1, ok_cI (e4 i) (ok_t (ok_t hD.2.2.2.2))⟩ hc hs
  refine W.iald hx hb hH h2 h3 (by rw [e2]; exact i_in hri hi.1 hi.2) (v := .int (Int32.ofInt (X i))) ?_ rfl rfl hd k1
  rw [i_nat hri, e3 i.toNat (by omega), Int.toNat_of_nonneg hi.1]
theorem ev_slen (pc : Nat) {L : Int} {X : Int → Int} (hX : SCR g L X) (hd : decode mm.2.1 pc = .ok (.arraylength, 1))
    (kk : Ev l g mm d bc bs Z I P (pc + 1) ls (vI L :: st) Q) : Ev l g mm d bc bs Z I P pc ls (vS :: st) Q := by
  intro p e R s m args below meth c H locs cells slots lj hF hD hc hs
  obtain ⟨hx, hb, hml, hr, hlk, hnm, hts, hown, ⟨hK, hNw, hSW⟩, hfr, hlo⟩ := id hF
  obtain ⟨scr, h1, h2, h3⟩ := hSW.2
  obtain ⟨hb0, hL, e4, scr', e1, e2, e3⟩ := hX
  obtain rfl : scr = scr' := Option.some.inj (h1.symm.trans e1)
  have hH : H[g.2.2.2]? = some scr := by rw [hD.1.2.1 _ hb0]; exact h1
  have k1 := kk p e R s m args below meth c H locs cells slots lj hF ⟨hD.1, hD.2.1, hD.2.2.1, hD.2.2.2.1, ok_cI ⟨by omega, by omega⟩ (ok_t hD.2.2.2.2)⟩ hc hs
  refine W.alen hx hb hH h2 (n := Int32.ofInt L) ?_ rfl rfl hd k1
  rw [e2]
  show Int32.ofNat _ = _
  rw [← Int32.ofInt_eq_ofNat, Int.toNat_of_nonneg hL.1]
/-- a long answer, and memory -/
theorem ev_cVn_5 (pc : Nat) {mk : Mm} {n ix a ci : Nat} {v1 v2 v3 v4 v5 : Vv} {f : Int → It → Prop} (hd : decode mm.2.1 pc = .ok (.invokevirtual ix, 3)) (hM : MK mk n) (hL : LV mm.1.cls ix mk ci) (ha : Z.1 a = ci) (hm : Mt l g mk d 0 0 [vA a, v1, v2, v3, v4, v5] Z I P (QN f Z P)) (hn : ([v1, v2, v3, v4, v5] : List Vv).length = n := by rfl) (h8 : Nat.ble ((st.map fun v => if isLg v = true then 2 else 1).sum) 8 = true := by rfl) (kk : ∀ x I', f x I' → Ev l g mm (d + 1) bc bs Z I' P (pc + 3) ls (vL x :: st) Q) : Ev l g mm (d + 1) bc bs Z I P pc ls (v5 :: v4 :: v3 :: v2 :: v1 :: vA a :: st) Q :=
  ev_callV pc [v1, v2, v3, v4, v5] hd hM hL ha hm hn rfl h8 (fun r Z' I' P' h _ _ => by obtain ⟨x, rfl, hf, rfl, rfl⟩ := h; exact Ev.mono (by omega) (by omega) (kk x I' hf))
def mL : Mm := (yL_law, cL_law, 4, some .boolean)
end SCRX
