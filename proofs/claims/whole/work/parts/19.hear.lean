/-! what was heard, and whence -/
def tsp (α σ : Nat → Int → Int) (t : Int) : Int := 24 * α 4 t + σ 1 t
theorem Ev.rows {l : Launch} {g : Gt} {mm : Mm} {d : Nat} {Z Z' : Zt} {I : It} {P P' : Pt'} {pc : Nat} {ls st : List Vv} {Q : Qt} (h1 : Z'.2.2 + 2 * nn P' = Z.2.2 + 2 * nn P) (h2 : TZ Z' + 194 * nn P' = TZ Z + 194 * nn P) (k : Ev l g mm d (2 * nn P') (194 * nn P') Z' I P' pc ls st Q) : Ev l g mm d (Z.2.2 + (0 + 2 * nn P) - Z'.2.2) (TZ Z + (0 + 194 * nn P) - TZ Z') Z' I P' pc ls st Q := Ev.mono (by omega) (by omega) k
/-- a state of a laid sea -/
def WS (α σ : Nat → Int → Int) : Prop := (0 ≤ σ 0 0 ∧ σ 0 0 ≤ 9999) ∧ (0 ≤ σ 0 1 ∧ σ 0 1 ≤ 7) ∧ (∀ t, 0 ≤ t → t < α 0 5 → 0 ≤ σ 1 t ∧ σ 1 t < α 0 0) ∧ (∀ t, 0 ≤ t → t < 6 → σ 2 t = 0 ∨ σ 2 t = 1) ∧
  ∀ j, 0 ≤ j → j < σ 0 1 → inD α (σ 3 j, σ 4 j, σ 5 j, σ 6 j) ∧ (σ 6 j = -4 ∨ (0 ≤ σ 6 j ∧ σ 6 j < α 0 5))
theorem tsp_gr {α σ : Nat → Int → Int} (hW : WF α) (hS : WS α σ) {t : Int} (h : 0 ≤ t ∧ t < α 0 5) : gr α (24 * α 4 t + σ 1 t) := by
  have h1 := (hW.2.2.2.2.2.2.1 t h.1 h.2).1
  have h2 := hS.2.2.1 t h.1 h.2
  have := hW.1
  exact ⟨by omega, by omega, by omega⟩
def CS (cap : Int) (α σ : Nat → Int → Int) (n : Int) (τ β : Int → Int) (v : Int) : Prop := ∀ i, 0 ≤ i → i < n → dS cap α (24 * α 4 (τ i) + σ 1 (τ i)) v < cap ∧ β i - dS cap α (24 * α 4 (τ i) + σ 1 (τ i)) v = β 0 - dS cap α (24 * α 4 (τ 0) + σ 1 (τ 0)) v
theorem dS_r {cap : Int} {α : Nat → Int → Int} (hW : WF α) (hc : 0 ≤ cap) (s v : Int) : 0 ≤ dS cap α s v ∧ dS cap α s v ≤ cap := ⟨dS_nn hW hc s v, (dS_p hW s v).2.1⟩
/-- rows come, and what is only for a call's own use changes -/
def SY (Z : Zt) (I : It) (P : Pt') (Z' : Zt) (I' : It) (P' : Pt') : Prop :=
  (∀ a, a < Z.2.2 → Z'.1 a = Z.1 a ∧ Z'.2.1 a = Z.2.1 a) ∧ (∀ a, a < 145 → a ≠ 106 → a ≠ 109 → a ≠ 110 → I' a = I a) ∧ (∀ a, a < 145 → a ≠ 102 → a ≠ 111 → P' a = P a) ∧
  (∀ R, RowAt Z P R → R + 1 < Z.2.2 → (R = 103 ∨ 145 ≤ R) → RowAt Z' P' R ∧ ((R = 103 ∨ I R 1 = 1) → I' R 1 = I R 1 ∧ ∀ v, I' (R + 1) v = I (R + 1) v)) ∧
  Z.2.2 ≤ Z'.2.2 ∧ Z'.2.2 + 2 * nn P' = Z.2.2 + 2 * nn P ∧ TZ Z' + 194 * nn P' = TZ Z + 194 * nn P
theorem SX.sy {Z Z' : Zt} {I I' : It} {P P' : Pt'} (h : SX Z I P Z' I' P') : SY Z I P Z' I' P' := ⟨h.1, fun a ha _ _ _ => h.2.1 a ha, fun a ha hb _ => h.2.2.1 a ha hb, h.2.2.2⟩
theorem SY.rf {Z : Zt} {I : It} {P : Pt'} : SY Z I P Z I P := SX.rf.sy
theorem SY.tr {Z Z1 Z2 : Zt} {I I1 I2 : It} {P P1 P2 : Pt'} (h : SY Z I P Z1 I1 P1) (k : SY Z1 I1 P1 Z2 I2 P2) : SY Z I P Z2 I2 P2 := by
  obtain ⟨h1, h2, h3, h4, h5, h6, h7⟩ := h
  obtain ⟨k1, k2, k3, k4, k5, k6, k7⟩ := k
  refine ⟨fun a ha => ?_, fun a ha a1 a2 a3 => (k2 a ha a1 a2 a3).trans (h2 a ha a1 a2 a3), fun a ha hb hc => (k3 a ha hb hc).trans (h3 a ha hb hc), fun R hr hz hR => ?_, by omega, by omega, by omega⟩
  · obtain ⟨e1, e2⟩ := h1 a ha; obtain ⟨f1, f2⟩ := k1 a (by omega); exact ⟨f1.trans e1, f2.trans e2⟩
  · obtain ⟨e1, e2⟩ := h4 R hr hz hR
    obtain ⟨f1, f2⟩ := k4 R e1 (by omega) hR
    refine ⟨f1, fun q => ?_⟩
    obtain ⟨g1, g2⟩ := e2 q
    obtain ⟨g3, g4⟩ := f2 (by rcases q with q | q; exact Or.inl q; exact Or.inr (g1.trans q))
    exact ⟨g3.trans g1, fun v => (g4 v).trans (g2 v)⟩
theorem SN.ch {T : Nat} {α : Nat → Int → Int} {Z : Zt} {I I' : It} {P P' : Pt'} (h : SN T α Z I P) (hi : ∀ a, a ≠ 106 → a ≠ 109 → a ≠ 110 → I' a = I a) (hp : ∀ a, a ≠ 111 → P' a = P a) : SN T α Z I' P' ∧ SY Z I P Z I' P' := by
  obtain ⟨hZ, hP, hT0, hT, hA, hW, hRO, hKN, hSH⟩ := h
  have ht : T = 5 ∨ T = 118 := hT
  have rf : ∀ q ∈ rfC, q.1 ≠ 111 := by decide +kernel
  have hr : ∀ R, RowAt Z P R → (R = 103 ∨ 145 ≤ R) → RowAt Z P' R := fun R q1 q2 => ⟨q1.1, by rw [hp R (by omega)]; exact q1.2.1, q1.2.2⟩
  have n1 : nn P' = nn P := by unfold nn; rw [hp 102 (by omega)]
  refine ⟨⟨hZ, fun q hq => by rw [hp q.1 (rf q hq)]; exact hP q hq, by rw [hp 4 (by omega)]; exact hT0, hT, fun c hc => by rw [hi (T + c) (by omega) (by omega) (by omega)]; exact hA c hc, hW, ⟨hRO.1, fun j R a b c => ?_⟩, fun j R a b c => ?_, fun v a b => by rw [hi 104 (by omega) (by omega) (by omega)]; exact hSH.1 v a b, fun v hv => by rw [hi 105 (by omega) (by omega) (by omega)]; exact hSH.2 v hv⟩,
    fun _ _ => ⟨rfl, rfl⟩, fun a _ a1 a2 a3 => hi a a1 a2 a3, fun a _ _ a1 => hp a a1, fun R q1 q2 q3 => ⟨hr R q1 q3, fun _ => ⟨by rw [hi R (by omega) (by omega) (by omega)], fun v => by rw [hi (R + 1) (by omega) (by omega) (by omega)]⟩⟩, Nat.le_refl _, by rw [n1], by rw [n1]⟩
  · rw [hp 102 (by omega)] at c
    obtain ⟨c1, c2, c3, c4⟩ := hRO.2 j R a b c
    exact ⟨c1, c2, hr R c3 (Or.inr c1), fun i i1 i2 i3 => by rw [hp 102 (by omega)] at i3; exact c4 i i1 i2 i3⟩
  · rw [hp 102 (by omega)] at c
    have := (hRO.2 j R a b c).1
    rw [hi R (by omega) (by omega) (by omega), hi (R + 1) (by omega) (by omega) (by omega)]
    exact hKN j R a b c
theorem SY.vs {Z Z' : Zt} {I I' : It} {P P' : Pt'} {σ : Nat → Int → Int} (h : SY Z I P Z' I' P') (k : VS I σ) : VS I' σ := fun c hc => by rw [h.2.1 (18 + c) (by omega) (by omega) (by omega) (by omega)]; exact k c hc
/-- the least that is so -/
def LW (p : Int → Prop) (hi r : Int) : Prop := (r = -4 ∧ ∀ v, 0 ≤ v → v < hi → ¬ p v) ∨ (0 ≤ r ∧ r < hi ∧ p r ∧ ∀ v, 0 ≤ v → v < r → ¬ p v)
theorem LW.u {p : Int → Prop} {hi r r' : Int} (h : LW p hi r) (k : LW p hi r') : r = r' := by
  rcases h with ⟨h1, h2⟩ | ⟨h1, h2, h3, h4⟩ <;> rcases k with ⟨k1, k2⟩ | ⟨k1, k2, k3, k4⟩
  · omega
  · exact absurd k3 (h2 r' k1 k2)
  · exact absurd h3 (k2 r h1 h2)
  · rcases Int.lt_trichotomy r r' with z | z | z
    · exact absurd h3 (k4 r h1 z)
    · exact z
    · exact absurd k3 (h4 r' k1 z)
theorem LW.skip {p : Int → Prop} {lo hi r : Int} (h : LW p lo r) (h1 : lo ≤ hi) (k : ∀ v, lo ≤ v → v < hi → ¬ p v) : LW p hi r := by
  rcases h with ⟨a, b⟩ | ⟨a, b, c, e⟩
  · exact Or.inl ⟨a, fun v x y => by
      rcases Int.lt_or_le v lo with z | z
      · exact b v x z
      · exact k v z y⟩
  · exact Or.inr ⟨a, by omega, c, e⟩
theorem LW.yes {p : Int → Prop} {v r : Int} (h : LW p v r) (h0 : 0 ≤ v) (hp : p v) : LW p (v + 1) (if r = -4 then v else r) := by
  rcases h with ⟨a, b⟩ | ⟨a, b, c, e⟩
  · rw [if_pos a]; exact Or.inr ⟨h0, by omega, hp, fun u x y => b u x y⟩
  · rw [if_neg (by omega)]; exact Or.inr ⟨a, by omega, c, e⟩
def SK (p : Int → Prop) (hi s r : Int) : Prop := s = cnt p hi.toNat ∧ LW p hi r
theorem cnt_st {p : Int → Prop} {v : Int} (h : 0 ≤ v) : cnt p (v + 1).toNat = cnt p v.toNat + b2 (p v) := by
  obtain ⟨n, rfl⟩ : ∃ n : Nat, v = n := ⟨v.toNat, by omega⟩
  rw [show ((n : Int) + 1).toNat = n + 1 by omega, show ((n : Int)).toNat = n by omega]; rfl
theorem SK.no {p : Int → Prop} {v s r : Int} (h : SK p v s r) (h0 : 0 ≤ v) (hp : ¬ p v) : SK p (v + 1) s r := ⟨by rw [cnt_st h0, b2_f hp, ← h.1]; omega, h.2.skip (by omega) (fun u a b => by rw [show u = v by omega]; exact hp)⟩
theorem SK.yes {p : Int → Prop} {v s r : Int} (h : SK p v s r) (h0 : 0 ≤ v) (hp : p v) : SK p (v + 1) (s + 1) (if r = -4 then v else r) := ⟨by rw [cnt_st h0, b2_t hp, ← h.1], h.2.yes h0 hp⟩
theorem SK.skip {p : Int → Prop} : ∀ (k : Nat) {v s r : Int}, SK p v s r → 0 ≤ v → (∀ u, v ≤ u → u < v + k → ¬ p u) → SK p (v + k) s r
  | 0, v, s, r, h, _, _ => by rw [show v + ((0 : Nat) : Int) = v by omega]; exact h
  | k + 1, v, s, r, h, h0, hk => by
    have := SK.skip k (h.no h0 (hk v (by omega) (by omega))) (by omega) (fun u a b => hk u (by omega) (by omega))
    rw [show v + ((k + 1 : Nat) : Int) = v + 1 + k by omega]; exact this
theorem SK.to {p : Int → Prop} {v w s r : Int} (h : SK p v s r) (h0 : 0 ≤ v) (h1 : v ≤ w) (hk : ∀ u, v ≤ u → u < w → ¬ p u) : SK p w s r := by
  have := h.skip (w - v).toNat h0 (fun u a b => hk u a (by omega))
  rw [show v + ((w - v).toNat : Int) = w by omega] at this; exact this
theorem SK.z {p : Int → Prop} : SK p 0 0 (-4) := ⟨rfl, Or.inl ⟨rfl, fun v a b => by omega⟩⟩
theorem c_canBe {l : Launch} {g : Gt} {d : Nat} {Z : Zt} {I : It} {P : Pt'} {T : Nat} {α σ : Nat → Int → Int} (hsn : SN T α Z I P) (hS : VS I σ) (hWS : WS α σ) (hn : 0 ≤ I 106 4 ∧ I 106 4 ≤ 6) (hτ : ∀ i, 0 ≤ i → i < I 106 4 → (0 ≤ I 107 i ∧ I 107 i < α 0 5) ∧ (0 ≤ I 108 i ∧ I 108 i ≤ 99)) {v : Int} (hv : gr α v) : Mt l g mX2_canBeSource (d + 3) (2 * nn P) (194 * nn P) [vA 106, vI v] Z I P (QG (fun r Z' I' P' => r = b2 (CS 1000000 α σ (I 106 4) (I 107) (I 108) v) ∧ SN T α Z' I' P' ∧ SX Z I P Z' I' P')) := by
  have hZ := hsn.1
  have hP := hsn.2.1
  have hW := hsn.2.2.2.2.2.1
  have hT := hsn.2.2.2.1
  have w0 := hW.1
  have w1 := hW.2.1
  have w5 := hW.2.2.1
  have hv2 := gr_192 hW hv
  refine Mt.of kmX2_canBeSource (ls := [vA 106, vI v, vX, vX, vX]) (fun _ => rfl) (fun _ => rfl) (okf_k (okf_k (okf_n rfl))) (fun hok => ?_)
  have loop : ∀ (k : Nat) (i b : Int) (Z1 : Zt) (I1 : It) (P1 : Pt') (vx : Vv), 0 ≤ i → i + k = I 106 4 → SN T α Z1 I1 P1 → SX Z I P Z1 I1 P1 → (∀ j, 0 ≤ j → j < i → dS 1000000 α (24 * α 4 (I 107 j) + σ 1 (I 107 j)) v < 1000000 ∧ I 108 j - dS 1000000 α (24 * α 4 (I 107 j) + σ 1 (I 107 j)) v = I 108 0 - dS 1000000 α (24 * α 4 (I 107 0) + σ 1 (I 107 0)) v) → (0 < i → b = I 108 0 - dS 1000000 α (24 * α 4 (I 107 0) + σ 1 (I 107 0)) v) → Ev l g mX2_canBeSource (d + 3) (2 * nn P1) (194 * nn P1) Z1 I1 P1 4 [vA 106, vI v, vI b, vI i, vx] [] (QG (fun r Z' I' P' => r = b2 (CS 1000000 α σ (I 106 4) (I 107) (I 108) v) ∧ SN T α Z' I' P' ∧ SX Z I P Z' I' P')) := by
    intro k
    induction k with
    | zero =>
      intro i b Z1 I1 P1 vx h0 h1 hsn sx0 g1 g2
      have hZ := hsn.1
      have hP := hsn.2.1
      have hT0 := hsn.2.2.1
      have e106 : I1 106 = I 106 := sx0.2.1 106 (by omega)
      refine ev_iload_3 4 dX2_canBeSource_4 ?_
      refine ev_aload_0 5 dX2_canBeSource_5 ?_
      refine ev_gI 6 4 4 dX2_canBeSource_6 fa_X2_18 (kd_106 hZ) rfl rfl rfl ?_
      try simp only [e106]
      refine ev_icmp_ge 9 82 dX2_canBeSource_9 rfl (fun h9 => ?_) (fun h9 => ?_)
      · refine ev_iconst 82 dX2_canBeSource_82 ⟨by decide, by decide⟩ ?_
        refine ev_zret 83 dX2_canBeSource_83 (by first | omega | exact b2_or _) ?_ rfl
        exact QG_of ⟨(b2_t (fun j a b => g1 j a (by omega))).symm, hsn, sx0⟩
      · exfalso; omega
    | succ k ih =>
      intro i b Z1 I1 P1 vx h0 h1 hsn sx0 g1 g2
      have hZ := hsn.1
      have hP := hsn.2.1
      have hT0 := hsn.2.2.1
      have a0 : I1 T 0 = α 0 0 := hsn.2.2.2.2.1.at 0
      have a1 : I1 T 1 = α 0 1 := hsn.2.2.2.2.1.at 1
      have a5 : I1 T 5 = α 0 5 := hsn.2.2.2.2.1.at 5
      have a4 : I1 (T + 4) = α 4 := hsn.2.2.2.2.1 4 (by omega)
      have s1 : I1 19 = σ 1 := (sx0.sy.vs hS) 1 (by omega)
      have s2 : I1 20 = σ 2 := (sx0.sy.vs hS) 2 (by omega)
      have e106 : I1 106 = I 106 := sx0.2.1 106 (by omega)
      have e107 : I1 107 = I 107 := sx0.2.1 107 (by omega)
      have e108 : I1 108 = I 108 := sx0.2.1 108 (by omega)
      have t0 := hτ i h0 (by omega)
      have t1 := (hW.2.2.2.2.2.2.1 (I 107 i) t0.1.1 t0.1.2).1
      have t2 := hWS.2.2.1 (I 107 i) t0.1.1 t0.1.2
      have hg := tsp_gr hW hWS t0.1
      have t00 := hτ 0 (by omega) (by omega)
      have dr := dS_r (cap := 1000000) hW (by omega) (24 * α 4 (I 107 i) + σ 1 (I 107 i)) v
      have dr0 := dS_r (cap := 1000000) hW (by omega) (24 * α 4 (I 107 0) + σ 1 (I 107 0)) v
      obtain ⟨dd, hdd⟩ : ∃ dd, dd = dS 1000000 α (24 * α 4 (I 107 i) + σ 1 (I 107 i)) v := ⟨_, rfl⟩
      obtain ⟨d0, hd0⟩ : ∃ d0, d0 = dS 1000000 α (24 * α 4 (I 107 0) + σ 1 (I 107 0)) v := ⟨_, rfl⟩
      rw [← hdd] at dr
      rw [← hd0] at g2 dr0
      refine ev_iload_3 4 dX2_canBeSource_4 ?_
      refine ev_aload_0 5 dX2_canBeSource_5 ?_
      refine ev_gI 6 4 4 dX2_canBeSource_6 fa_X2_18 (kd_106 hZ) rfl rfl rfl ?_
      try simp only [e106, e107, a4, s1, e108]
      refine ev_icmp_ge 9 82 dX2_canBeSource_9 rfl (fun h9 => ?_) (fun h9 => ?_)
      · exfalso; omega
      · refine ev_aload_0 12 dX2_canBeSource_12 ?_
        refine ev_getA 13 1 dX2_canBeSource_13 fa_X2_32 (kd_106 hZ) (pr_106_1 hP) rfl ?_
        refine ev_aload_0 16 dX2_canBeSource_16 ?_
        refine ev_getA 17 0 dX2_canBeSource_17 fa_X2_28 (kd_106 hZ) (pr_106_0 hP) rfl ?_
        refine ev_aload_0 20 dX2_canBeSource_20 ?_
        refine ev_getA 21 2 dX2_canBeSource_21 fa_X2_9 (kd_106 hZ) (pr_106_2 hP) rfl ?_
        refine ev_iload_3 24 dX2_canBeSource_24 ?_
        refine ev_iald 25 dX2_canBeSource_25 (kd_107 hZ) ⟨by omega, by have := (ln_107 hZ); omega⟩ ?_
        try simp only [e106, e107, a4, s1, e108]
        refine ev_cVp_1 26 dX2_canBeSource_26 kmX6_townSpot lk_X2_63 (kd_4 hZ) (c_townSpot hZ hP hT0 hT _ (by omega) (by rw [a4]; omega) (by rw [s1]; omega)) rfl rfl ?_
        try simp only [e106, e107, a4, s1, e108]
        refine Ev.mono (bc' := 0 + 2 * nn P1) (bs' := 0 + 194 * nn P1) (by omega) (by omega) ?_
        refine ev_cVa_1 29 dX2_canBeSource_29 kmX7_rowFrom lk_X2_67 (kd_101 hZ) (c_rowFrom hsn hg) rfl rfl (fun x29 Z29 I29 P29 f29 _ _ => ?_)
        obtain ⟨hsn, sx, hr, hlt, h3, hkn, hd⟩ := f29
        refine Ev.rows sx.2.2.2.2.2.1 sx.2.2.2.2.2.2 ?_
        have hZ := hsn.1
        have hP := hsn.2.1
        have hT0 := hsn.2.2.1
        have sx0 := sx0.tr sx
        have e108 : I29 108 = I 108 := sx0.2.1 108 (by omega)
        refine ev_iload_1 32 dX2_canBeSource_32 ?_
        refine ev_cVp_1 33 dX2_canBeSource_33 kmX5_beatsTo lk_X2_71 hr.1 (c_beatsTo hr _) rfl rfl ?_
        try simp only [e106, e107, a4, s1, e108]
        rw [if_pos (by omega), hd _ (by omega) (by omega), ← hdd]
        refine ev_istore_4 36 dX2_canBeSource_36 rfl rfl ?_
        refine ev_iload_4 38 dX2_canBeSource_38 ?_
        refine ev_ldc 40 dX2_canBeSource_40 kc_X2_76 ⟨by decide, by decide⟩ ?_
        refine ev_icmp_lt 42 47 dX2_canBeSource_42 rfl (fun h42 => ?_) (fun h42 => ?_)
        · refine ev_iload_3 47 dX2_canBeSource_47 ?_
          refine ev_if_le 48 66 dX2_canBeSource_48 rfl (fun h48 => ?_) (fun h48 => ?_)
          · refine ev_aload_0 66 dX2_canBeSource_66 ?_
            refine ev_getA 67 3 dX2_canBeSource_67 fa_X2_15 (kd_106 hZ) (pr_106_3 hP) rfl ?_
            refine ev_iload_3 70 dX2_canBeSource_70 ?_
            refine ev_iald 71 dX2_canBeSource_71 (kd_108 hZ) ⟨by omega, by have := (ln_108 hZ); omega⟩ ?_
            try simp only [e106, e107, a4, s1, e108]
            refine ev_iload_4 72 dX2_canBeSource_72 ?_
            refine ev_isub 74 dX2_canBeSource_74 ⟨by omega, by omega⟩ ?_
            refine ev_istore_2 75 dX2_canBeSource_75 rfl rfl ?_
            refine ev_iinc_3 76 dX2_canBeSource_76 ⟨by omega, by omega⟩ rfl rfl ?_
            refine ev_goto 79 4 dX2_canBeSource_79 rfl ?_
            exact ih _ _ _ _ _ _ (by omega) (by omega) hsn sx0 (fun j a b => by
              rcases Int.lt_or_le j i with z | z
              · exact g1 j a z
              · obtain rfl : j = i := by omega
                refine ⟨by omega, ?_⟩
                rcases Int.lt_or_le 0 j with y | y
                · have := g2 y; omega
                · obtain rfl : j = 0 := by omega
                  rfl) (fun _ => by
              rcases Int.lt_or_le 0 i with y | y
              · have := g2 y; omega
              · obtain rfl : i = 0 := by omega
                omega)
          · refine ev_aload_0 51 dX2_canBeSource_51 ?_
            refine ev_getA 52 3 dX2_canBeSource_52 fa_X2_15 (kd_106 hZ) (pr_106_3 hP) rfl ?_
            refine ev_iload_3 55 dX2_canBeSource_55 ?_
            refine ev_iald 56 dX2_canBeSource_56 (kd_108 hZ) ⟨by omega, by have := (ln_108 hZ); omega⟩ ?_
            try simp only [e106, e107, a4, s1, e108]
            refine ev_iload_4 57 dX2_canBeSource_57 ?_
            refine ev_isub 59 dX2_canBeSource_59 ⟨by omega, by omega⟩ ?_
            refine ev_iload_2 60 dX2_canBeSource_60 ?_
            refine ev_icmp_eq 61 66 dX2_canBeSource_61 rfl (fun h61 => ?_) (fun h61 => ?_)
            · refine ev_aload_0 66 dX2_canBeSource_66 ?_
              refine ev_getA 67 3 dX2_canBeSource_67 fa_X2_15 (kd_106 hZ) (pr_106_3 hP) rfl ?_
              refine ev_iload_3 70 dX2_canBeSource_70 ?_
              refine ev_iald 71 dX2_canBeSource_71 (kd_108 hZ) ⟨by omega, by have := (ln_108 hZ); omega⟩ ?_
              try simp only [e106, e107, a4, s1, e108]
              refine ev_iload_4 72 dX2_canBeSource_72 ?_
              refine ev_isub 74 dX2_canBeSource_74 ⟨by omega, by omega⟩ ?_
              refine ev_istore_2 75 dX2_canBeSource_75 rfl rfl ?_
              refine ev_iinc_3 76 dX2_canBeSource_76 ⟨by omega, by omega⟩ rfl rfl ?_
              refine ev_goto 79 4 dX2_canBeSource_79 rfl ?_
              exact ih _ _ _ _ _ _ (by omega) (by omega) hsn sx0 (fun j a b => by
                rcases Int.lt_or_le j i with z | z
                · exact g1 j a z
                · obtain rfl : j = i := by omega
                  refine ⟨by omega, ?_⟩
                  rcases Int.lt_or_le 0 j with y | y
                  · have := g2 y; omega
                  · obtain rfl : j = 0 := by omega
                    rfl) (fun _ => by
                rcases Int.lt_or_le 0 i with y | y
                · have := g2 y; omega
                · obtain rfl : i = 0 := by omega
                  omega)
            · refine ev_iconst 64 dX2_canBeSource_64 ⟨by decide, by decide⟩ ?_
              refine ev_zret 65 dX2_canBeSource_65 (by first | omega | exact b2_or _) ?_ rfl
              exact QG_of ⟨(b2_f (fun z => by have := (z i h0 (by omega)).2; have := g2 (by omega); omega)).symm, hsn, sx0⟩
        · refine ev_iconst 45 dX2_canBeSource_45 ⟨by decide, by decide⟩ ?_
          refine ev_zret 46 dX2_canBeSource_46 (by first | omega | exact b2_or _) ?_ rfl
          exact QG_of ⟨(b2_f (fun z => by have := (z i h0 (by omega)).1; omega)).symm, hsn, sx0⟩
  refine ev_iconst 0 dX2_canBeSource_0 ⟨by decide, by decide⟩ ?_
  refine ev_istore_2 1 dX2_canBeSource_1 rfl rfl ?_
  refine ev_iconst 2 dX2_canBeSource_2 ⟨by decide, by decide⟩ ?_
  refine ev_istore_3 3 dX2_canBeSource_3 rfl rfl ?_
  exact loop (I 106 4).toNat 0 0 Z I P _ (by omega) (by omega) hsn SX.rf (fun j a b => by omega) (fun z => by omega)
theorem c_seek {l : Launch} {g : Gt} {d : Nat} {Z : Zt} {I : It} {P : Pt'} {T : Nat} {α σ : Nat → Int → Int} (hsn : SN T α Z I P) (hS : VS I σ) (hWS : WS α σ) (hn : 0 ≤ I 106 4 ∧ I 106 4 ≤ 6) (hτ : ∀ i, 0 ≤ i → i < I 106 4 → (0 ≤ I 107 i ∧ I 107 i < α 0 5) ∧ (0 ≤ I 108 i ∧ I 108 i ≤ 99)) : Mt l g mX2_seek (d + 4) (2 * nn P) (194 * nn P) [vA 106] Z I P (QW (fun Z' I' P' => SN T α Z' I' P' ∧ SY Z I P Z' I' P' ∧ SK (fun v => op α v ∧ CS 1000000 α σ (I 106 4) (I 107) (I 108) v) 192 (I' 106 5) (I' 106 6) ∧ ∀ j, j ≠ 5 → j ≠ 6 → I' 106 j = I 106 j)) := by
  have hZ := hsn.1
  have hP := hsn.2.1
  have hT0 := hsn.2.2.1
  have hW := hsn.2.2.2.2.2.1
  have hT := hsn.2.2.2.1
  have w0 := hW.1
  have w1 := hW.2.1
  refine Mt.of kmX2_seek (ls := [vA 106, vX, vX, vX]) (fun _ => rfl) (fun _ => rfl) (okf_k (okf_n rfl)) (fun hok => ?_)
  have inner : ∀ (L : Int), 0 ≤ L → L < α 0 1 → (∀ (Z1 : Zt) (I1 : It) (P1 : Pt') (vy vx : Vv), SN T α Z1 I1 P1 → SY Z I P Z1 I1 P1 → SK (fun v => op α v ∧ CS 1000000 α σ (I 106 4) (I 107) (I 108) v) (24 * (L + 1)) (I1 106 5) (I1 106 6) → (∀ j, j ≠ 5 → j ≠ 6 → I1 106 j = I 106 j) → Ev l g mX2_seek (d + 4) (2 * nn P1) (194 * nn P1) Z1 I1 P1 101 [vA 106, vI L, vy, vx] [] (QW (fun Z' I' P' => SN T α Z' I' P' ∧ SY Z I P Z' I' P' ∧ SK (fun v => op α v ∧ CS 1000000 α σ (I 106 4) (I 107) (I 108) v) 192 (I' 106 5) (I' 106 6) ∧ ∀ j, j ≠ 5 → j ≠ 6 → I' 106 j = I 106 j))) → ∀ (k : Nat) (x : Int) (Z1 : Zt) (I1 : It) (P1 : Pt') (vx : Vv), 0 ≤ x → x + k = α 0 0 → SN T α Z1 I1 P1 → SY Z I P Z1 I1 P1 → SK (fun v => op α v ∧ CS 1000000 α σ (I 106 4) (I 107) (I 108) v) (24 * L + x) (I1 106 5) (I1 106 6) → (∀ j, j ≠ 5 → j ≠ 6 → I1 106 j = I 106 j) → Ev l g mX2_seek (d + 4) (2 * nn P1) (194 * nn P1) Z1 I1 P1 29 [vA 106, vI L, vI x, vx] [] (QW (fun Z' I' P' => SN T α Z' I' P' ∧ SY Z I P Z' I' P' ∧ SK (fun v => op α v ∧ CS 1000000 α σ (I 106 4) (I 107) (I 108) v) 192 (I' 106 5) (I' 106 6) ∧ ∀ j, j ≠ 5 → j ≠ 6 → I' 106 j = I 106 j)) := by
    intro L hL0 hL1 kq k
    induction k with
    | zero =>
      intro x Z1 I1 P1 vx h0 h1 hsn sy sk q4
      have hZ := hsn.1
      have hP := hsn.2.1
      have hT0 := hsn.2.2.1
      have a0 : I1 T 0 = α 0 0 := hsn.2.2.2.2.1.at 0
      have a1 : I1 T 1 = α 0 1 := hsn.2.2.2.2.1.at 1
      have a5 : I1 T 5 = α 0 5 := hsn.2.2.2.2.1.at 5
      have a4 : I1 (T + 4) = α 4 := hsn.2.2.2.2.1 4 (by omega)
      refine ev_iload_2 29 dX2_seek_29 ?_
      refine ev_aload_0 30 dX2_seek_30 ?_
      refine ev_getA 31 0 dX2_seek_31 fa_X2_28 (kd_106 hZ) (pr_106_0 hP) rfl ?_
      refine ev_getA 34 0 dX2_seek_34 fa_X2_36 (kd_4 hZ) hT0 rfl ?_
      refine ev_gI 37 0 0 dX2_seek_37 fa_X2_47 (kdT_0 hZ hT) rfl rfl rfl ?_
      try simp only [a0]
      refine ev_icmp_ge 40 101 dX2_seek_40 rfl (fun h40 => ?_) (fun h40 => ?_)
      · exact kq _ _ _ _ _ hsn sy (sk.to (by omega) (by omega) (fun u z1 z2 z3 => by have := z3.1.1.2.2; omega)) q4
      · exfalso; omega
    | succ k ih =>
      intro x Z1 I1 P1 vx h0 h1 hsn sy sk q4
      have n95 : ∀ (Z1 : Zt) (I1 : It) (P1 : Pt') (vx : Vv), SN T α Z1 I1 P1 → SY Z I P Z1 I1 P1 → SK (fun v => op α v ∧ CS 1000000 α σ (I 106 4) (I 107) (I 108) v) (24 * L + x + 1) (I1 106 5) (I1 106 6) → (∀ j, j ≠ 5 → j ≠ 6 → I1 106 j = I 106 j) → Ev l g mX2_seek (d + 4) (2 * nn P1) (194 * nn P1) Z1 I1 P1 95 [vA 106, vI L, vI x, vx] [] (QW (fun Z' I' P' => SN T α Z' I' P' ∧ SY Z I P Z' I' P' ∧ SK (fun v => op α v ∧ CS 1000000 α σ (I 106 4) (I 107) (I 108) v) 192 (I' 106 5) (I' 106 6) ∧ ∀ j, j ≠ 5 → j ≠ 6 → I' 106 j = I 106 j)) := by
        intro Z1 I1 P1 vx hsn sy sk q4
        refine ev_iinc_2 95 dX2_seek_95 ⟨by omega, by omega⟩ rfl rfl ?_
        refine ev_goto 98 29 dX2_seek_98 rfl ?_
        exact ih _ _ _ _ _ (by omega) (by omega) hsn sy (by rw [show 24 * L + (x + 1) = 24 * L + x + 1 by omega]; exact sk) q4
      have hZ := hsn.1
      have hP := hsn.2.1
      have hT0 := hsn.2.2.1
      have a0 : I1 T 0 = α 0 0 := hsn.2.2.2.2.1.at 0
      have a1 : I1 T 1 = α 0 1 := hsn.2.2.2.2.1.at 1
      have a5 : I1 T 5 = α 0 5 := hsn.2.2.2.2.1.at 5
      have a4 : I1 (T + 4) = α 4 := hsn.2.2.2.2.1 4 (by omega)
      have e107 : I1 107 = I 107 := sy.2.1 107 (by omega) (by omega) (by omega) (by omega)
      have e108 : I1 108 = I 108 := sy.2.1 108 (by omega) (by omega) (by omega) (by omega)
      have hg : gr α (24 * L + x) := ⟨by omega, by omega, by omega⟩
      have hsh := hsn.2.2.2.2.2.2.2.2.2 _ hg
      have hcr := cnt_r (fun v => op α v ∧ CS 1000000 α σ (I 106 4) (I 107) (I 108) v) (24 * L + x).toNat
      rw [← sk.1] at hcr
      refine ev_iload_2 29 dX2_seek_29 ?_
      refine ev_aload_0 30 dX2_seek_30 ?_
      refine ev_getA 31 0 dX2_seek_31 fa_X2_28 (kd_106 hZ) (pr_106_0 hP) rfl ?_
      refine ev_getA 34 0 dX2_seek_34 fa_X2_36 (kd_4 hZ) hT0 rfl ?_
      refine ev_gI 37 0 0 dX2_seek_37 fa_X2_47 (kdT_0 hZ hT) rfl rfl rfl ?_
      try simp only [a0]
      refine ev_icmp_ge 40 101 dX2_seek_40 rfl (fun h40 => ?_) (fun h40 => ?_)
      · exfalso; omega
      · refine ev_iload_1 43 dX2_seek_43 ?_
        refine ev_iload_2 44 dX2_seek_44 ?_
        refine ev_cSp_2 45 dX2_seek_45 kmX11_spotOf lk_X2_50 (c_spotOf _ _ (by omega)) rfl rfl ?_
        try simp only [a0]
        refine ev_istore_3 48 dX2_seek_48 rfl rfl ?_
        refine ev_aload_0 49 dX2_seek_49 ?_
        refine ev_getA 50 1 dX2_seek_50 fa_X2_32 (kd_106 hZ) (pr_106_1 hP) rfl ?_
        refine ev_iload_3 53 dX2_seek_53 ?_
        refine ev_cVp_1 54 dX2_seek_54 kmX7_isOpen lk_X2_54 (kd_101 hZ) (c_isOpen hZ hP _) rfl rfl ?_
        try simp only [a0]
        refine ev_ifb_eq 57 95 dX2_seek_57 rfl (fun h57 => ?_) (fun h57 => ?_)
        · exact n95 _ _ _ _ hsn sy (sk.no (by omega) (fun z => h57 ⟨by omega, hsh.mpr z.1.2⟩)) q4
        · refine Ev.mono (bc' := 0 + 2 * nn P1) (bs' := 0 + 194 * nn P1) (by omega) (by omega) ?_
          refine ev_aload_0 60 dX2_seek_60 ?_
          refine ev_iload_3 61 dX2_seek_61 ?_
          refine ev_cVg_1 62 dX2_seek_62 kmX2_canBeSource lk_X2_60 (kd_106 hZ) (c_canBe hsn (sy.vs hS) hWS (by rw [q4 4 (by omega) (by omega)]; exact hn) (by rw [q4 4 (by omega) (by omega), e107, e108]; exact hτ) hg) rfl rfl (fun x62 Z62 I62 P62 f62 _ _ => ?_)
          obtain ⟨e62, hsn2, sx⟩ := f62
          refine Ev.rows sx.2.2.2.2.2.1 sx.2.2.2.2.2.2 ?_
          rw [q4 4 (by omega) (by omega), e107, e108] at e62
          rw [e62]
          have hZ := hsn2.1
          have hP := hsn2.2.1
          have hT0 := hsn2.2.2.1
          have e106 : I62 106 = I1 106 := sx.2.1 106 (by omega)
          refine ev_ifb_ne 65 71 dX2_seek_65 rfl (fun h65 => ?_) (fun h65 => ?_)
          · have hop : op α (24 * L + x) := ⟨hg, hsh.mp h57.2⟩
            refine ev_aload_0 71 dX2_seek_71 ?_
            refine ev_gI 72 6 6 dX2_seek_72 fa_X2_25 (kd_106 hZ) rfl rfl rfl ?_
            try simp only [e106]
            refine ev_bipush 75 dX2_seek_75 ⟨by decide, by decide⟩ ?_
            refine ev_jne 77 85 dX2_seek_77 rfl (fun h77 => ?_) (fun h77 => ?_)
            · refine ev_aload_0 85 dX2_seek_85 ?_
              refine ev_dupA 86 dX2_seek_86 ?_
              refine ev_gI 87 5 5 dX2_seek_87 fa_X2_22 (kd_106 hZ) rfl rfl rfl ?_
              try simp only [e106]
              refine ev_iconst 90 dX2_seek_90 ⟨by decide, by decide⟩ ?_
              refine ev_iadd 91 dX2_seek_91 ⟨by omega, by omega⟩ ?_
              refine ev_pI 92 5 5 dX2_seek_92 fp_X2_22 (kd_106 hZ) rfl rfl ?_
              obtain ⟨hsn3, sy3⟩ := hsn2.ch (I' := upI I62 106 5 (I1 106 5 + 1)) (P' := P62) (fun a z1 z2 z3 => by simp (disch := omega) only [upI_A]) (fun _ _ => rfl)
              refine n95 _ _ _ _ hsn3 (sy.tr (sx.sy.tr sy3)) ?_ (fun j z1 z2 => ?_)
              · have hy := sk.yes (by omega) ⟨hop, h65⟩
                rw [if_neg h77] at hy
                simp (disch := omega) only [upI_s, upI_k, e106]
                exact hy
              · simp (disch := omega) only [upI_k, e106]; exact q4 j z1 z2
            · refine ev_aload_0 80 dX2_seek_80 ?_
              refine ev_iload_3 81 dX2_seek_81 ?_
              refine ev_pI 82 6 6 dX2_seek_82 fp_X2_25 (kd_106 hZ) rfl rfl ?_
              refine ev_aload_0 85 dX2_seek_85 ?_
              refine ev_dupA 86 dX2_seek_86 ?_
              refine ev_gI 87 5 5 dX2_seek_87 fa_X2_22 (kd_106 hZ) rfl rfl rfl ?_
              try simp (disch := omega) only [upI_s, upI_a, upI_k]
              try simp only [e106]
              refine ev_iconst 90 dX2_seek_90 ⟨by decide, by decide⟩ ?_
              refine ev_iadd 91 dX2_seek_91 ⟨by omega, by omega⟩ ?_
              refine ev_pI 92 5 5 dX2_seek_92 fp_X2_22 (kd_106 hZ) rfl rfl ?_
              obtain ⟨hsn3, sy3⟩ := hsn2.ch (I' := upI (upI I62 106 6 (24 * L + x)) 106 5 (I1 106 5 + 1)) (P' := P62) (fun a z1 z2 z3 => by simp (disch := omega) only [upI_A]) (fun _ _ => rfl)
              refine n95 _ _ _ _ hsn3 (sy.tr (sx.sy.tr sy3)) ?_ (fun j z1 z2 => ?_)
              · have hy := sk.yes (by omega) ⟨hop, h65⟩
                rw [if_pos h77] at hy
                simp (disch := omega) only [upI_s, upI_k, e106]
                exact hy
              · simp (disch := omega) only [upI_k, e106]; exact q4 j z1 z2
          · refine ev_goto 68 95 dX2_seek_68 rfl ?_
            exact n95 _ _ _ _ hsn2 (sy.tr sx.sy) (by rw [e106]; exact sk.no (by omega) (fun z => h65 z.2)) (fun j z1 z2 => by rw [e106]; exact q4 j z1 z2)
  have outer : ∀ (k : Nat) (L : Int) (Z1 : Zt) (I1 : It) (P1 : Pt') (vy vx : Vv), 0 ≤ L → L + k = α 0 1 → SN T α Z1 I1 P1 → SY Z I P Z1 I1 P1 → SK (fun v => op α v ∧ CS 1000000 α σ (I 106 4) (I 107) (I 108) v) (24 * L) (I1 106 5) (I1 106 6) → (∀ j, j ≠ 5 → j ≠ 6 → I1 106 j = I 106 j) → Ev l g mX2_seek (d + 4) (2 * nn P1) (194 * nn P1) Z1 I1 P1 13 [vA 106, vI L, vy, vx] [] (QW (fun Z' I' P' => SN T α Z' I' P' ∧ SY Z I P Z' I' P' ∧ SK (fun v => op α v ∧ CS 1000000 α σ (I 106 4) (I 107) (I 108) v) 192 (I' 106 5) (I' 106 6) ∧ ∀ j, j ≠ 5 → j ≠ 6 → I' 106 j = I 106 j)) := by
    intro k
    induction k with
    | zero =>
      intro L Z1 I1 P1 vy vx h0 h1 hsn sy sk q4
      have hZ := hsn.1
      have hP := hsn.2.1
      have hT0 := hsn.2.2.1
      have a0 : I1 T 0 = α 0 0 := hsn.2.2.2.2.1.at 0
      have a1 : I1 T 1 = α 0 1 := hsn.2.2.2.2.1.at 1
      have a5 : I1 T 5 = α 0 5 := hsn.2.2.2.2.1.at 5
      have a4 : I1 (T + 4) = α 4 := hsn.2.2.2.2.1 4 (by omega)
      refine ev_iload_1 13 dX2_seek_13 ?_
      refine ev_aload_0 14 dX2_seek_14 ?_
      refine ev_getA 15 0 dX2_seek_15 fa_X2_28 (kd_106 hZ) (pr_106_0 hP) rfl ?_
      refine ev_getA 18 0 dX2_seek_18 fa_X2_36 (kd_4 hZ) hT0 rfl ?_
      refine ev_gI 21 1 1 dX2_seek_21 fa_X2_42 (kdT_0 hZ hT) rfl rfl rfl ?_
      try simp only [a1]
      refine ev_icmp_ge 24 107 dX2_seek_24 rfl (fun h24 => ?_) (fun h24 => ?_)
      · refine ev_vret 107 dX2_seek_107 ?_ rfl
        exact QW_of ⟨hsn, sy, sk.to (by omega) (by omega) (fun u z1 z2 z3 => by have := z3.1.1.2.1; omega), q4⟩
      · exfalso; omega
    | succ k ih =>
      intro L Z1 I1 P1 vy vx h0 h1 hsn sy sk q4
      have hZ := hsn.1
      have hP := hsn.2.1
      have hT0 := hsn.2.2.1
      have a0 : I1 T 0 = α 0 0 := hsn.2.2.2.2.1.at 0
      have a1 : I1 T 1 = α 0 1 := hsn.2.2.2.2.1.at 1
      have a5 : I1 T 5 = α 0 5 := hsn.2.2.2.2.1.at 5
      have a4 : I1 (T + 4) = α 4 := hsn.2.2.2.2.1 4 (by omega)
      refine ev_iload_1 13 dX2_seek_13 ?_
      refine ev_aload_0 14 dX2_seek_14 ?_
      refine ev_getA 15 0 dX2_seek_15 fa_X2_28 (kd_106 hZ) (pr_106_0 hP) rfl ?_
      refine ev_getA 18 0 dX2_seek_18 fa_X2_36 (kd_4 hZ) hT0 rfl ?_
      refine ev_gI 21 1 1 dX2_seek_21 fa_X2_42 (kdT_0 hZ hT) rfl rfl rfl ?_
      try simp only [a1]
      refine ev_icmp_ge 24 107 dX2_seek_24 rfl (fun h24 => ?_) (fun h24 => ?_)
      · exfalso; omega
      · refine ev_iconst 27 dX2_seek_27 ⟨by decide, by decide⟩ ?_
        refine ev_istore_2 28 dX2_seek_28 rfl rfl ?_
        refine inner L h0 (by omega) (fun Z2 I2 P2 vy vx g1 g2 g3 g4 => ?_) (α 0 0).toNat 0 _ _ _ _ (by omega) (by omega) hsn sy (by rw [show 24 * L + 0 = 24 * L by omega]; exact sk) q4
        refine ev_iinc_1 101 dX2_seek_101 ⟨by omega, by omega⟩ rfl rfl ?_
        refine ev_goto 104 13 dX2_seek_104 rfl ?_
        exact ih _ _ _ _ _ _ (by omega) (by omega) g1 g2 g3 g4
  refine ev_aload_0 0 dX2_seek_0 ?_
  refine ev_iconst 1 dX2_seek_1 ⟨by decide, by decide⟩ ?_
  refine ev_pI 2 5 5 dX2_seek_2 fp_X2_22 (kd_106 hZ) rfl rfl ?_
  refine ev_aload_0 5 dX2_seek_5 ?_
  refine ev_bipush 6 dX2_seek_6 ⟨by decide, by decide⟩ ?_
  refine ev_pI 8 6 6 dX2_seek_8 fp_X2_25 (kd_106 hZ) rfl rfl ?_
  refine ev_iconst 11 dX2_seek_11 ⟨by decide, by decide⟩ ?_
  refine ev_istore_1 12 dX2_seek_12 rfl rfl ?_
  obtain ⟨hsn3, sy3⟩ := hsn.ch (I' := upI (upI I 106 5 0) 106 6 (-4)) (P' := P) (fun a z1 z2 z3 => by simp (disch := omega) only [upI_A]) (fun _ _ => rfl)
  refine outer (α 0 1).toNat 0 Z _ P _ _ (by omega) (by omega) hsn3 sy3 ?_ (fun j z1 z2 => by simp (disch := omega) only [upI_k])
  simp (disch := omega) only [upI_s, upI_k]
  exact SK.z
