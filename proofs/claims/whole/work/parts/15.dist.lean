/-! how long sound takes: ways, the shortest of them, what settles it -/
def mkt (α : Nat → Int → Int) (v : Int) : Prop := ∃ m, 0 ≤ m ∧ m < α 0 10 ∧ 24 * α 8 m + α 9 m = v
def gr (α : Nat → Int → Int) (v : Int) : Prop := 0 ≤ v ∧ v / 24 < α 0 1 ∧ v % 24 < α 0 0
def op (α : Nat → Int → Int) (v : Int) : Prop := gr α v ∧ ¬ mkt α v
def nx (N a b : Int) : Prop := (a + 1 < N ∧ b = a + 1) ∨ (a + 1 = N ∧ b = 0)
def Ed (α : Nat → Int → Int) (u v w : Int) : Prop := gr α u ∧ op α v ∧
  ((u / 24 = v / 24 ∧ (nx (α 0 0) (u % 24) (v % 24) ∨ nx (α 0 0) (v % 24) (u % 24)) ∧ w = 1) ∨ (u % 24 = v % 24 ∧ u / 24 + 1 = v / 24 ∧ w = α 3 (u / 24)) ∨ (u % 24 = v % 24 ∧ v / 24 + 1 = u / 24 ∧ w = α 3 (v / 24)))
def Wk (α : Nat → Int → Int) (s : Int) : Nat → Int → Int → Prop
  | 0, v, L => v = s ∧ L = 0 ∧ op α s
  | n + 1, v, L => ∃ u w, Wk α s n u (L - w) ∧ Ed α u v w
def Rch (α : Nat → Int → Int) (s v L : Int) : Prop := ∃ n, Wk α s n v L
theorem gr_192 {α : Nat → Int → Int} (hW : WF α) {v : Int} (h : gr α v) : 0 ≤ v ∧ v < 192 := by
  have := hW.2.1
  obtain ⟨h1, h2, h3⟩ := h
  omega
theorem Ed_w {α : Nat → Int → Int} (hW : WF α) {u v w : Int} (h : Ed α u v w) : 1 ≤ w ∧ w ≤ 9 := by
  obtain ⟨⟨a1, a2, a3⟩, ⟨⟨b1, b2, b3⟩, -⟩, h⟩ := h
  rcases h with ⟨-, -, h⟩ | ⟨-, -, h⟩ | ⟨-, -, h⟩
  · omega
  · have := hW.2.2.2.2.2.1 (u / 24) (by omega) (by omega); omega
  · have := hW.2.2.2.2.2.1 (v / 24) (by omega) (by omega); omega
theorem Ed_sy {α : Nat → Int → Int} {u v w : Int} (h : Ed α u v w) (hu : op α u) : Ed α v u w := by
  obtain ⟨a, b, h⟩ := h
  refine ⟨b.1, hu, ?_⟩
  rcases h with ⟨h1, h2, h3⟩ | ⟨h1, h2, h3⟩ | ⟨h1, h2, h3⟩
  · exact Or.inl ⟨h1.symm, h2.symm, h3⟩
  · exact Or.inr (Or.inr ⟨h1.symm, h2, h3⟩)
  · exact Or.inr (Or.inl ⟨h1.symm, h2, h3⟩)
theorem Wk_op {α : Nat → Int → Int} {s : Int} : ∀ (n : Nat) (v L : Int), Wk α s n v L → op α v
  | 0, v, L, h => by rw [h.1]; exact h.2.2
  | n + 1, v, L, ⟨u, w, _, h⟩ => h.2.1
theorem Wk_src {α : Nat → Int → Int} {s : Int} : ∀ (n : Nat) (v L : Int), Wk α s n v L → op α s
  | 0, v, L, h => h.2.2
  | n + 1, v, L, ⟨u, w, h, _⟩ => Wk_src n u _ h
theorem Wk_nn {α : Nat → Int → Int} (hW : WF α) {s : Int} : ∀ (n : Nat) (v L : Int), Wk α s n v L → 0 ≤ L
  | 0, v, L, h => by rw [h.2.1]; exact Int.le_refl _
  | n + 1, v, L, ⟨u, w, h, e⟩ => by
    have := Wk_nn hW n u _ h
    have := Ed_w hW e
    omega
theorem Wk_pre {α : Nat → Int → Int} {a u w : Int} (ha : op α a) (he : Ed α a u w) : ∀ (n : Nat) (v L : Int), Wk α u n v L → Wk α a (n + 1) v (L + w)
  | 0, v, L, h => ⟨a, w, ⟨rfl, by rw [h.2.1]; omega, ha⟩, by rw [h.1]; exact he⟩
  | n + 1, v, L, ⟨x, y, h, e⟩ => ⟨x, y, by have := Wk_pre ha he n x _ h; rwa [show L - y + w = L + w - y by omega] at this, e⟩
theorem Wk_rev {α : Nat → Int → Int} {s : Int} : ∀ (n : Nat) (v L : Int), Wk α s n v L → ∃ k, Wk α v k s L
  | 0, v, L, h => ⟨0, by rw [h.1]; exact ⟨rfl, h.2.1, h.2.2⟩⟩
  | n + 1, v, L, ⟨u, w, h, e⟩ => by
    obtain ⟨k, hk⟩ := Wk_rev n u _ h
    have := Wk_pre e.2.1 (Ed_sy e (Wk_op n u _ h)) k s _ hk
    rw [show L - w + w = L by omega] at this
    exact ⟨k + 1, this⟩
theorem Rch_sy {α : Nat → Int → Int} {s v L : Int} (h : Rch α s v L) : Rch α v s L := by
  obtain ⟨n, h⟩ := h
  exact Wk_rev n v L h
/-- the shortest, at most cap -/
def DsP (cap : Int) (α : Nat → Int → Int) (s v b : Int) : Prop := (b = cap ∨ Rch α s v b) ∧ b ≤ cap ∧ ∀ L, Rch α s v L → b ≤ L
theorem DsP_u {cap : Int} {α : Nat → Int → Int} {s v a b : Int} (h : DsP cap α s v a) (k : DsP cap α s v b) : a = b := by
  have h1 : a ≤ b := by
    rcases k.1 with e | e
    · have := h.2.1; omega
    · exact h.2.2 b e
  have h2 : b ≤ a := by
    rcases h.1 with e | e
    · have := k.2.1; omega
    · exact k.2.2 a e
  omega
theorem DsP_e {cap : Int} {α : Nat → Int → Int} (hW : WF α) (s v : Int) : ∃ b, DsP cap α s v b := by
  by_cases h : ∃ n : Nat, Rch α s v (n : Int)
  · obtain ⟨n, h1, h2⟩ := pk_least (fun n : Nat => Rch α s v (n : Int)) h
    have h3 : ∀ L, Rch α s v L → (n : Int) ≤ L := fun L hL => by
      have h0 : 0 ≤ L := by obtain ⟨k, hk⟩ := hL; exact Wk_nn hW k v L hk
      rcases Int.lt_or_le L n with q | q
      · exact absurd (by rw [Int.toNat_of_nonneg h0]; exact hL) (h2 L.toNat (by omega))
      · exact q
    by_cases hc : (n : Int) ≤ cap
    · exact ⟨n, Or.inr h1, hc, h3⟩
    · exact ⟨cap, Or.inl rfl, Int.le_refl _, fun L hL => by have := h3 L hL; omega⟩
  · refine ⟨cap, Or.inl rfl, Int.le_refl _, fun L hL => absurd ?_ h⟩
    have h0 : 0 ≤ L := by obtain ⟨k, hk⟩ := hL; exact Wk_nn hW k v L hk
    exact ⟨L.toNat, by rw [Int.toNat_of_nonneg h0]; exact hL⟩
noncomputable def dS (cap : Int) (α : Nat → Int → Int) (s v : Int) : Int := Classical.epsilon (fun b => DsP cap α s v b)
theorem dS_p {cap : Int} {α : Nat → Int → Int} (hW : WF α) (s v : Int) : DsP cap α s v (dS cap α s v) := Classical.epsilon_spec (DsP_e hW s v)
theorem dS_sy {cap : Int} {α : Nat → Int → Int} (hW : WF α) (s v : Int) : dS cap α s v = dS cap α v s := by
  have h := dS_p (cap := cap) hW s v
  have k := dS_p (cap := cap) hW v s
  exact DsP_u h ⟨k.1.imp id Rch_sy, k.2.1, fun L hL => k.2.2 L (Rch_sy hL)⟩
theorem dS_0 {cap : Int} {α : Nat → Int → Int} (hW : WF α) (hc : 0 < cap) {s : Int} (hs : op α s) : dS cap α s s = 0 := by
  have h := dS_p (cap := cap) hW s s
  have h1 := h.2.2 0 ⟨0, rfl, rfl, hs⟩
  rcases h.1 with e | ⟨n, e⟩
  · omega
  · have := Wk_nn hW n _ _ e; omega
theorem dS_nn {cap : Int} {α : Nat → Int → Int} (hW : WF α) (hc : 0 ≤ cap) (s v : Int) : 0 ≤ dS cap α s v := by
  have h := dS_p (cap := cap) hW s v
  rcases h.1 with e | ⟨n, e⟩
  · omega
  · exact Wk_nn hW n _ _ e
theorem dS_cl {cap : Int} {α : Nat → Int → Int} (hW : WF α) {s v : Int} (h : ¬ op α s ∨ ¬ op α v) : dS cap α s v = cap := by
  have k := dS_p (cap := cap) hW s v
  rcases k.1 with e | ⟨n, e⟩
  · exact e
  · rcases h with h | h
    · exact absurd (Wk_src n _ _ e) h
    · exact absurd (Wk_op n _ _ e) h
/-- a row that is sound and fixed is the shortest -/
theorem fix_d {cap : Int} {α : Nat → Int → Int} (hW : WF α) {s : Int} {β : Int → Int} (h1 : ∀ v, 0 ≤ v → v < 192 → β v = cap ∨ Rch α s v (β v)) (h2 : ∀ v, 0 ≤ v → v < 192 → β v ≤ cap) (h3 : op α s → β s = 0)
    (h4 : ∀ u v w, Ed α u v w → β v ≤ β u + w) : ∀ v, 0 ≤ v → v < 192 → β v = dS cap α s v := by
  have key : ∀ (n : Nat) (v L : Int), Wk α s n v L → β v ≤ L := by
    intro n
    induction n with
    | zero => intro v L h; rw [h.1, h3 h.2.2, h.2.1]; exact Int.le_refl _
    | succ n ih =>
      intro v L ⟨u, w, h, e⟩
      have := ih u _ h
      have := h4 u v w e
      omega
  intro v a b
  exact DsP_u ⟨h1 v a b, h2 v a b, fun L ⟨n, hL⟩ => key n v L hL⟩ (dS_p hW s v)
/-- how many below k are so -/
noncomputable def cnt (p : Int → Prop) : Nat → Int
  | 0 => 0
  | k + 1 => cnt p k + b2 (p (k : Int))
theorem cnt_r (p : Int → Prop) : ∀ k : Nat, 0 ≤ cnt p k ∧ cnt p k ≤ k
  | 0 => ⟨Int.le_refl _, Int.le_refl _⟩
  | k + 1 => by
    have := cnt_r p k
    have := b2_or (p (k : Int))
    unfold cnt
    omega
theorem cnt_le {p q : Int → Prop} (h : ∀ j, p j → q j) : ∀ k : Nat, cnt p k ≤ cnt q k
  | 0 => Int.le_refl _
  | k + 1 => by
    have := cnt_le h k
    unfold cnt
    by_cases hp : p (k : Int)
    · rw [b2_t hp, b2_t (h _ hp)]; omega
    · rw [b2_f hp]; have := b2_or (q (k : Int)); omega
theorem cnt_lt {p q : Int → Prop} (h : ∀ j, p j → q j) {j : Int} (h0 : 0 ≤ j) (hq : q j) (hp : ¬ p j) : ∀ k : Nat, j < k → cnt p k + 1 ≤ cnt q k
  | 0, hk => by omega
  | k + 1, hk => by
    unfold cnt
    by_cases e : j = (k : Int)
    · subst e
      rw [b2_f hp, b2_t hq]
      have := cnt_le h k
      omega
    · have := cnt_lt h h0 hq hp k (by omega)
      by_cases hp : p (k : Int)
      · rw [b2_t hp, b2_t (h _ hp)]; omega
      · rw [b2_f hp]; have := b2_or (q (k : Int)); omega
theorem cnt_0 {p : Int → Prop} : ∀ k : Nat, cnt p k = 0 → ∀ j : Int, 0 ≤ j → j < k → ¬ p j
  | 0, _, j, h0, h1 => by omega
  | k + 1, h, j, h0, h1 => by
    unfold cnt at h
    have := cnt_r p k
    have h2 := b2_or (p (k : Int))
    by_cases e : j = (k : Int)
    · subst e; exact (b2_0 _).mp (by omega)
    · exact cnt_0 k (by omega) j h0 (by omega)
/-- the last of the way to a spot -/
theorem last_e {cap : Int} {α : Nat → Int → Int} (hW : WF α) {s v : Int} (hv : dS cap α s v < cap) (hs : v ≠ s) : ∃ u w, Ed α u v w ∧ dS cap α s u + w ≤ dS cap α s v ∧ 0 ≤ u ∧ u < 192 := by
  have h := dS_p (cap := cap) hW s v
  rcases h.1 with e | ⟨n, e⟩
  · omega
  · cases n with
    | zero => exact absurd e.1 hs
    | succ n =>
      obtain ⟨u, w, h1, h2⟩ := e
      have h3 := (dS_p (cap := cap) hW s u).2.2 _ ⟨n, h1⟩
      exact ⟨u, w, h2, by omega, gr_192 hW h2.1⟩
theorem dS_ed {cap : Int} {α : Nat → Int → Int} (hW : WF α) {s u v w : Int} (e : Ed α u v w) (hu : dS cap α s u < cap) : dS cap α s v ≤ dS cap α s u + w := by
  have h := dS_p (cap := cap) hW s u
  rcases h.1 with q | ⟨n, q⟩
  · omega
  · exact (dS_p (cap := cap) hW s v).2.2 _ ⟨n + 1, u, w, by rw [Int.add_sub_cancel]; exact q, e⟩
theorem dS_bd {cap : Int} {α : Nat → Int → Int} (hW : WF α) {s : Int} : ∀ (n : Nat) (v : Int), (dS cap α s v).toNat = n → dS cap α s v < cap → 0 ≤ cap → dS cap α s v ≤ 9 * cnt (fun u => dS cap α s u < dS cap α s v) 192 := by
  intro n
  induction n using Nat.strongRecOn with
  | ind n ih =>
    intro v hn hv hc
    have h0 := dS_nn hW hc s v
    by_cases hs : v = s
    · have := (cnt_r (fun u => dS cap α s u < dS cap α s v) 192).1
      by_cases ho : op α s
      · rw [hs, dS_0 hW (by omega) ho] at this ⊢; omega
      · rw [dS_cl hW (Or.inl ho)] at hv; omega
    · obtain ⟨u, w, e, h1, h2, h3⟩ := last_e hW hv hs
      have hw := Ed_w hW e
      have h4 := dS_nn hW hc s u
      have h5 := ih (dS cap α s u).toNat (by omega) u rfl (by omega) hc
      have h6 := dS_ed hW e (show dS cap α s u < cap by omega)
      have h7 := cnt_lt (p := fun x => dS cap α s x < dS cap α s u) (q := fun x => dS cap α s x < dS cap α s v) (fun j hj => by omega) h2 (show dS cap α s u < dS cap α s v by omega) (by omega) 192 (by omega)
      omega
theorem dS_1728 {cap : Int} {α : Nat → Int → Int} (hW : WF α) (hc : 0 ≤ cap) (s v : Int) : dS cap α s v = cap ∨ dS cap α s v ≤ 1728 := by
  have h := dS_p (cap := cap) hW s v
  by_cases hv : dS cap α s v < cap
  · right
    have h1 := dS_bd hW _ v rfl hv hc
    have h2 := (cnt_r (fun u => dS cap α s u < dS cap α s v) 192).2
    omega
  · left; have := h.2.1; omega
/-- two caps, one way -/
theorem dS_cc {c1 c2 : Int} {α : Nat → Int → Int} (hW : WF α) (h1 : 1728 < c1) (h2 : 1728 < c2) (s v : Int) : (dS c1 α s v < c1 ↔ dS c2 α s v < c2) ∧ (dS c1 α s v < c1 → dS c1 α s v = dS c2 α s v) := by
  have p1 := dS_p (cap := c1) hW s v
  have p2 := dS_p (cap := c2) hW s v
  have b1 := dS_1728 hW (show 0 ≤ c1 by omega) s v
  have b2 := dS_1728 hW (show 0 ≤ c2 by omega) s v
  have k1 : dS c1 α s v < c1 → dS c2 α s v ≤ dS c1 α s v := fun h => by
    rcases p1.1 with e | e
    · omega
    · exact p2.2.2 _ e
  have k2 : dS c2 α s v < c2 → dS c1 α s v ≤ dS c2 α s v := fun h => by
    rcases p2.1 with e | e
    · omega
    · exact p1.2.2 _ e
  refine ⟨⟨fun h => ?_, fun h => ?_⟩, fun h => ?_⟩
  · have := k1 h; omega
  · have := k2 h; omega
  · have h3 := k1 h
    have h4 := k2 (by omega)
    omega
/-- a sweep: sound, no worse, each spot by what its neighbours had before -/
def Sw (cap : Int) (α : Nat → Int → Int) (s : Int) (β0 β1 : Int → Int) : Prop := (∀ v, 0 ≤ v → v < 192 → β1 v = cap ∨ Rch α s v (β1 v)) ∧ (∀ v, 0 ≤ v → v < 192 → β1 v ≤ β0 v) ∧ (∀ u v w, Ed α u v w → β1 v ≤ β0 u + w)
noncomputable def Uns (cap : Int) (α : Nat → Int → Int) (s : Int) (β : Int → Int) : Int := cnt (fun v => 0 ≤ v ∧ v < 192 ∧ β v ≠ dS cap α s v) 192
theorem le_of_sound {cap : Int} {α : Nat → Int → Int} (hW : WF α) {s v x : Int} (h : x = cap ∨ Rch α s v x) : dS cap α s v ≤ x := by
  have p := dS_p (cap := cap) hW s v
  rcases h with e | e
  · rw [e]; exact p.2.1
  · exact p.2.2 _ e
theorem sweep_dn {cap : Int} {α : Nat → Int → Int} (hW : WF α) {s : Int} {β0 β1 : Int → Int} (hc : 0 < cap) (h0 : ∀ v, 0 ≤ v → v < 192 → β0 v = cap ∨ Rch α s v (β0 v)) (hle : ∀ v, 0 ≤ v → v < 192 → β0 v ≤ cap) (hs : op α s → β0 s = 0) (h : Sw cap α s β0 β1) : Uns cap α s β1 + 1 ≤ Uns cap α s β0 ∨ ∀ v, 0 ≤ v → v < 192 → β0 v = dS cap α s v := by
  by_cases hu : ∀ v, 0 ≤ v → v < 192 → β0 v = dS cap α s v
  · exact Or.inr hu
  · left
    have hex : ∃ n : Nat, ∃ v, 0 ≤ v ∧ v < 192 ∧ β0 v ≠ dS cap α s v ∧ (dS cap α s v).toNat = n :=
      Classical.byContradiction fun hn => hu fun j a b => Classical.byContradiction fun hj => hn ⟨_, j, a, b, hj, rfl⟩
    obtain ⟨n, ⟨v, a, b, hv, hn⟩, hmin⟩ := pk_least _ hex
    have hd := le_of_sound hW (h0 v a b)
    have hl := hle v a b
    have hvc : dS cap α s v < cap := by omega
    have hvs : v ≠ s := fun e => by
      subst e
      by_cases ho : op α v
      · rw [hs ho, dS_0 hW hc ho] at hv; exact hv rfl
      · rw [dS_cl hW (Or.inl ho)] at hvc; omega
    obtain ⟨u, w, e, g1, g2, g3⟩ := last_e hW hvc hvs
    have hw := Ed_w hW e
    have hnu := dS_nn hW (show 0 ≤ cap by omega) s u
    have hnv := dS_nn hW (show 0 ≤ cap by omega) s v
    have hub : β0 u = dS cap α s u := Classical.byContradiction fun hq => hmin (dS cap α s u).toNat (by omega) ⟨u, g2, g3, hq, rfl⟩
    have h1 := h.2.2 u v w e
    have h2 := le_of_sound hW (h.1 v a b)
    unfold Uns
    refine cnt_lt (fun j ⟨j0, j1, j2⟩ => ⟨j0, j1, fun q => j2 ?_⟩) (j := v) a ⟨a, b, hv⟩ (fun ⟨_, _, q⟩ => q (by omega)) 192 (by omega)
    have h3 := h.2.1 j j0 j1
    have h4 := le_of_sound hW (h.1 j j0 j1)
    omega
theorem Uns_r {cap : Int} {α : Nat → Int → Int} {s : Int} {β : Int → Int} : 0 ≤ Uns cap α s β ∧ Uns cap α s β ≤ 192 := cnt_r _ 192
theorem Uns_0 {cap : Int} {α : Nat → Int → Int} {s : Int} {β : Int → Int} (h : Uns cap α s β = 0) : ∀ v, 0 ≤ v → v < 192 → β v = dS cap α s v := fun v a b => Classical.byContradiction fun q => cnt_0 192 h v a (by omega) ⟨a, b, q⟩
theorem cnt_n {p : Int → Prop} (h : ∀ j, ¬ p j) : ∀ k : Nat, cnt p k = 0
  | 0 => rfl
  | k + 1 => by unfold cnt; rw [cnt_n h k, b2_f (h _)]; rfl
theorem Uns_n {cap : Int} {α : Nat → Int → Int} {s : Int} {β : Int → Int} (h : ∀ v, 0 ≤ v → v < 192 → β v = dS cap α s v) : Uns cap α s β = 0 := cnt_n (fun j ⟨a, b, q⟩ => q (h j a b)) 192
/-- a sweep of a row brings it nearer -/
theorem sweep_u {cap : Int} {α : Nat → Int → Int} (hW : WF α) {s : Int} {β0 β1 : Int → Int} (hc : 0 < cap) (h0 : ∀ v, 0 ≤ v → v < 192 → β0 v = cap ∨ Rch α s v (β0 v)) (hle : ∀ v, 0 ≤ v → v < 192 → β0 v ≤ cap) (hs : op α s → β0 s = 0) (h : Sw cap α s β0 β1) : Uns cap α s β1 = 0 ∨ Uns cap α s β1 + 1 ≤ Uns cap α s β0 := by
  rcases sweep_dn hW hc h0 hle hs h with q | q
  · exact Or.inr q
  · refine Or.inl (Uns_n fun v a b => ?_)
    have h1 := le_of_sound hW (h.1 v a b)
    have h2 := h.2.1 v a b
    have h3 := q v a b
    omega
