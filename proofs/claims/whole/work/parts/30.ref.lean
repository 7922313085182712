/-! the reference: joins, what it was told, its slots -/
theorem Ev.join {l : Launch} {g : Gt} {mm : Mm} {d bc bs : Nat} {Z : Zt} {I : It} {P : Pt'} {ls st : List Vv} {Q : Qt} {pc : Nat} (pc' : Nat) (φ : Int → Prop) (k : ∀ x, φ x → Ev l g mm d bc bs Z I P pc' ls (vI x :: st) Q) (h : (∀ x, φ x → Ev l g mm d bc bs Z I P pc' ls (vI x :: st) Q) → Ev l g mm d bc bs Z I P pc ls st Q) : Ev l g mm d bc bs Z I P pc ls st Q := h k
theorem b2_i {p : Prop} {x : Int} (h : x = 0 ∨ x = 1) (k : x = 1 ↔ p) : x = b2 p := by
  rcases h with h | h
  · rw [b2_f (fun z => by have := k.mpr z; omega)]; exact h
  · rw [b2_t (k.mp h)]; exact h
/-- so for one, for all, below -/
def exB (p : Int → Prop) (n : Int) : Prop := ∃ m, 0 ≤ m ∧ m < n ∧ p m
def alB (p : Int → Prop) (n : Int) : Prop := ∀ m, 0 ≤ m → m < n → p m
theorem exB_0 {p : Int → Prop} : ¬ exB p 0 := fun ⟨m, a, b, _⟩ => by omega
theorem alB_0 {p : Int → Prop} : alB p 0 := fun m a b => by omega
theorem exB_s {p : Int → Prop} {n : Int} (h : 0 ≤ n) : exB p (n + 1) ↔ exB p n ∨ p n := by
  constructor
  · rintro ⟨m, a, b, c⟩
    by_cases e : m = n
    · subst e; exact Or.inr c
    · exact Or.inl ⟨m, a, by omega, c⟩
  · rintro (⟨m, a, b, c⟩ | c)
    · exact ⟨m, a, by omega, c⟩
    · exact ⟨n, h, by omega, c⟩
theorem alB_s {p : Int → Prop} {n : Int} (h : 0 ≤ n) : alB p (n + 1) ↔ alB p n ∧ p n := by
  constructor
  · intro k; exact ⟨fun m a b => k m a (by omega), k n h (by omega)⟩
  · rintro ⟨a, b⟩ m c e
    by_cases z : m = n
    · subst z; exact b
    · exact a m c (by omega)
/-- what the reference was told -/
def VM (I : It) (α : Nat → Int → Int) : Prop := (I 133 0 = α 0 0 ∧ I 133 1 = α 0 1 ∧ I 133 2 = α 0 5 ∧ I 133 3 = α 0 10 ∧ I 133 4 = α 0 13) ∧
  (∀ l, 0 ≤ l → l < α 0 1 → I 134 (3 * l) = α 1 l ∧ I 134 (3 * l + 1) = α 2 l ∧ I 134 (3 * l + 2) = α 3 l) ∧
  (∀ t, 0 ≤ t → t < α 0 5 → I 135 (4 * t + 1) = α 4 t ∧ I 135 (4 * t + 2) = α 6 t ∧ I 135 (4 * t + 3) = α 7 t) ∧
  (∀ m, 0 ≤ m → m < α 0 10 → I 136 (2 * m) = α 8 m ∧ I 136 (2 * m + 1) = α 9 m)
theorem VM.fr {I I' : It} {α : Nat → Int → Int} (h : VM I α) (e3 : I' 133 = I 133) (e4 : I' 134 = I 134) (e5 : I' 135 = I 135) (e6 : I' 136 = I 136) : VM I' α := by
  unfold VM; rw [e3, e4, e5, e6]; exact h
/-- a slot: towns; towns and things -/
def RT (b : Int) (I : It) (α σ : Nat → Int → Int) : Prop := ∀ t, 0 ≤ t → t < α 0 5 → I 138 (b + 29 + t) = σ 1 t ∧ I 138 (b + 35 + t) = σ 2 t
def cg (x : Int) : Int := if x = -4 then 0 else x + 1
def RS (b : Int) (I : It) (α σ : Nat → Int → Int) : Prop := I 138 b = σ 0 1 ∧ I 138 (b + 41) = σ 0 0 ∧ RT b I α σ ∧
  ∀ j, 0 ≤ j → j < σ 0 1 → I 138 (b + 1 + j) = σ 3 j ∧ I 138 (b + 15 + j) = σ 5 j ∧ I 138 (b + 22 + j) = cg (σ 6 j) ∧ (σ 6 j = -4 → I 138 (b + 8 + j) = σ 4 j)
theorem RT.x {b k t : Int} {I : It} {α σ : Nat → Int → Int} (h : RT b I α σ) (h0 : 0 ≤ t) (h1 : t < α 0 5) (hk : k = b + 29 + t) : I 138 k = σ 1 t := by subst hk; exact (h t h0 h1).1
theorem RT.c {b k t : Int} {I : It} {α σ : Nat → Int → Int} (h : RT b I α σ) (h0 : 0 ≤ t) (h1 : t < α 0 5) (hk : k = b + 35 + t) : I 138 k = σ 2 t := by subst hk; exact (h t h0 h1).2
theorem RS.l {b k j : Int} {I : It} {α σ : Nat → Int → Int} (h : RS b I α σ) (h0 : 0 ≤ j) (h1 : j < σ 0 1) (hk : k = b + 1 + j) : I 138 k = σ 3 j := by subst hk; exact (h.2.2.2 j h0 h1).1
theorem RS.w {b k j : Int} {I : It} {α σ : Nat → Int → Int} (h : RS b I α σ) (h0 : 0 ≤ j) (h1 : j < σ 0 1) (hk : k = b + 15 + j) : I 138 k = σ 5 j := by subst hk; exact (h.2.2.2 j h0 h1).2.1
theorem RS.b {b k j : Int} {I : It} {α σ : Nat → Int → Int} (h : RS b I α σ) (h0 : 0 ≤ j) (h1 : j < σ 0 1) (hk : k = b + 22 + j) : I 138 k = cg (σ 6 j) := by subst hk; exact (h.2.2.2 j h0 h1).2.2.1
theorem RS.p {b k j : Int} {I : It} {α σ : Nat → Int → Int} (h : RS b I α σ) (h0 : 0 ≤ j) (h1 : j < σ 0 1) (hk : k = b + 8 + j) (h6 : σ 6 j = -4) : I 138 k = σ 4 j := by subst hk; exact (h.2.2.2 j h0 h1).2.2.2 h6
theorem RS.n {b k : Int} {I : It} {α σ : Nat → Int → Int} (h : RS b I α σ) (hk : k = b) : I 138 k = σ 0 1 := by subst hk; exact h.1
theorem RS.g {b k : Int} {I : It} {α σ : Nat → Int → Int} (h : RS b I α σ) (hk : k = b + 41) : I 138 k = σ 0 0 := by subst hk; exact h.2.1
theorem RT.fr {b : Int} {I I' : It} {α σ : Nat → Int → Int} (h : RT b I α σ) (hW : WF α) (e : ∀ i, b ≤ i → i < b + 42 → I' 138 i = I 138 i) : RT b I' α σ := fun t a c => by
  have := hW.2.2.1
  rw [e _ (by omega) (by omega), e _ (by omega) (by omega)]; exact h t a c
theorem RS.fr {b : Int} {I I' : It} {α σ : Nat → Int → Int} (h : RS b I α σ) (hW : WF α) (h7 : σ 0 1 ≤ 7) (e : ∀ i, b ≤ i → i < b + 42 → I' 138 i = I 138 i) : RS b I' α σ := by
  refine ⟨by rw [e _ (by omega) (by omega)]; exact h.1, by rw [e _ (by omega) (by omega)]; exact h.2.1, h.2.2.1.fr hW e, fun j a c => ?_⟩
  rw [e _ (by omega) (by omega), e _ (by omega) (by omega), e _ (by omega) (by omega), e _ (by omega) (by omega)]; exact h.2.2.2 j a c
/-- a slot's words in another slot -/
theorem RT.mv {b b' : Int} {I I' : It} {α σ : Nat → Int → Int} (h : RT b I α σ) (hW : WF α) (e : ∀ i, 0 ≤ i → i < 42 → I' 138 (b' + i) = I 138 (b + i)) : RT b' I' α σ := fun t a c => by
  have := hW.2.2.1
  have e1 := e (29 + t) (by omega) (by omega)
  have e2 := e (35 + t) (by omega) (by omega)
  rw [show b' + 29 + t = b' + (29 + t) by omega, show b' + 35 + t = b' + (35 + t) by omega, e1, e2, show b + (29 + t) = b + 29 + t by omega, show b + (35 + t) = b + 35 + t by omega]
  exact h t a c
theorem RS.mv {b b' : Int} {I I' : It} {α σ : Nat → Int → Int} (h : RS b I α σ) (hW : WF α) (h7 : σ 0 1 ≤ 7) (e : ∀ i, 0 ≤ i → i < 42 → I' 138 (b' + i) = I 138 (b + i)) : RS b' I' α σ := by
  have e0 := e 0 (by omega) (by omega)
  have e41 := e 41 (by omega) (by omega)
  refine ⟨by rw [show b' = b' + 0 by omega, e0, show b + 0 = b by omega]; exact h.1, by rw [e41]; exact h.2.1, h.2.2.1.mv hW e, fun j a c => ?_⟩
  rw [show b' + 1 + j = b' + (1 + j) by omega, show b' + 15 + j = b' + (15 + j) by omega, show b' + 22 + j = b' + (22 + j) by omega, show b' + 8 + j = b' + (8 + j) by omega, e _ (by omega) (by omega), e _ (by omega) (by omega), e _ (by omega) (by omega), e _ (by omega) (by omega), show b + (1 + j) = b + 1 + j by omega, show b + (15 + j) = b + 15 + j by omega, show b + (22 + j) = b + 22 + j by omega, show b + (8 + j) = b + 8 + j by omega]
  exact h.2.2.2 j a c
theorem tAt_n {tl tx tc : Int → Int} {l x a b : Int} (ha : a < 0) (hb : b < 0) : ∀ (n : Nat) (t : Int), 0 ≤ t → tAt tl tx tc l x a n t = tAt tl tx tc l x b n t
  | 0, _, _ => rfl
  | n + 1, t, h => by
    unfold tAt
    rw [tAt_n ha hb n (t + 1) (by omega)]
    by_cases c : tc t = 0 ∧ tl t = l ∧ tx t = x
    · rw [if_pos ⟨by omega, c⟩, if_pos ⟨by omega, c⟩]
    · rw [if_neg (fun z => c z.2), if_neg (fun z => c z.2)]
theorem mk_iff {α : Nat → Int → Int} (hW : WF α) {l x : Int} (hx : 0 ≤ x ∧ x < 24) : mkt α (24 * l + x) ↔ exB (fun m => α 8 m = l ∧ α 9 m = x) (α 0 10) := by
  have w0 := hW.1
  constructor
  · rintro ⟨m, a, b, c⟩
    have := hW.2.2.2.2.2.2.2.1 m a b
    exact ⟨m, a, b, by omega, by omega⟩
  · rintro ⟨m, a, b, c⟩
    exact ⟨m, a, b, by omega⟩
