/-! the reference: prices, what drifted, what leaks -/
theorem CP_r {α σ : Nat → Int → Int} {a b r : Int} (h : CP α σ a b r) : r = -4 ∨ (0 ≤ r ∧ r ≤ 20) := by
  rcases h with ⟨_, h⟩ | ⟨_, h | h⟩
  · exact Or.inl h
  · exact Or.inl h.1
  · exact Or.inr ⟨h.1, by have := h.2.1; omega⟩
theorem CP.u {α σ : Nat → Int → Int} {a b r s : Int} (h : CP α σ a b r) (k : CP α σ a b s) : r = s := by
  rcases h with ⟨h1, h2⟩ | ⟨h1, h2⟩ <;> rcases k with ⟨k1, k2⟩ | ⟨k1, k2⟩
  · omega
  · exact absurd k1 h1
  · exact absurd h1 k1
  · exact h2.u k2
theorem bF_cg {p q : Int → Prop} (h : ∀ c, p c ↔ q c) (n : Nat) : bF p n = bF q n := by rw [show p = q from funext fun c => propext (h c)]
theorem tm0 {N s e : Int} (hN : 0 < N) (he : 0 ≤ e ∧ e < N) : (s - e).tmod N = 0 ↔ s % N = e := by
  rw [← Int.dvd_iff_tmod_eq_zero]
  constructor
  · rintro ⟨c, h⟩
    rw [show s = e + N * c by omega, Int.add_mul_emod_self_left, Int.emod_eq_of_lt he.1 he.2]
  · intro h
    have := Int.emod_add_mul_ediv s N
    exact ⟨s / N, by omega⟩
theorem mul7 {a c : Int} (ha : 1 ≤ a ∧ a ≤ 50) (hc : 0 ≤ c ∧ c ≤ 6) : -150 ≤ a * (c - 3) ∧ a * (c - 3) ≤ 150 := by
  rcases (show c = 0 ∨ c = 1 ∨ c = 2 ∨ c = 3 ∨ c = 4 ∨ c = 5 ∨ c = 6 by omega) with rfl | rfl | rfl | rfl | rfl | rfl | rfl <;> omega
/-- of ten ways a day: by how many each warmth is there -/
def odF (wm x : Int) : Nat → Int → Int
  | 0, w => if w = wm then 1 else 0
  | n + 1, w => (if w = 0 then 10 * odF wm x n 0 else (10 - x) * odF wm x n w) + (if w < 9 then x * odF wm x n (w + 1) else 0)
theorem mulb {x o B : Int} (hx : 0 ≤ x ∧ x ≤ 10) (ho : 0 ≤ o ∧ o ≤ B) : 0 ≤ x * o ∧ x * o ≤ 10 * B := ⟨Int.mul_nonneg hx.1 ho.1, Int.le_trans (Int.mul_le_mul_of_nonneg_right hx.2 ho.1) (Int.mul_le_mul_of_nonneg_left ho.2 (by omega))⟩
theorem odF_b {wm x : Int} (hx : 0 ≤ x ∧ x ≤ 10) : ∀ (n : Nat) (w : Int), 0 ≤ odF wm x n w ∧ odF wm x n w ≤ 20 ^ n
  | 0, w => by
    show 0 ≤ (if w = wm then (1 : Int) else 0) ∧ (if w = wm then (1 : Int) else 0) ≤ 1
    split <;> omega
  | n + 1, w => by
    have h0 := odF_b (wm := wm) hx n 0
    have h1 := odF_b (wm := wm) hx n w
    have h2 := odF_b (wm := wm) hx n (w + 1)
    have m2 := mulb hx h2
    have m3 := mulb (x := 10 - x) (by omega) h1
    have e20 : (20 : Int) ^ (n + 1) = 20 ^ n * 20 := by rw [Int.pow_succ]
    unfold odF
    rw [e20]
    split <;> split <;> omega
theorem p20 {n : Nat} (h : n ≤ 9) : (20 : Int) ^ n ≤ 512000000000 ∧ (10 : Int) ^ n ≤ 1000000000 ∧ 1 ≤ (10 : Int) ^ n := by
  rcases (show n = 0 ∨ n = 1 ∨ n = 2 ∨ n = 3 ∨ n = 4 ∨ n = 5 ∨ n = 6 ∨ n = 7 ∨ n = 8 ∨ n = 9 by omega) with rfl | rfl | rfl | rfl | rfl | rfl | rfl | rfl | rfl | rfl <;> decide
theorem odF_B {wm x : Int} (hx : 0 ≤ x ∧ x ≤ 10) {n : Nat} (hn : n ≤ 9) (w : Int) : 0 ≤ odF wm x n w ∧ odF wm x n w ≤ 512000000000 := by
  have := odF_b (wm := wm) hx n w
  have := p20 hn
  omega
def smF (f : Int → Int) (k : Int) : Nat → Int
  | 0 => 0
  | n + 1 => smF f k n + f (k + n)
theorem smF_b {f : Int → Int} {k B : Int} (h : ∀ v, 0 ≤ f v ∧ f v ≤ B) : ∀ n : Nat, 0 ≤ smF f k n ∧ smF f k n ≤ B * n
  | 0 => by unfold smF; simp
  | n + 1 => by
    have h1 := smF_b h (k := k) n
    have h2 := h (k + n)
    have e : B * ((n + 1 : Nat) : Int) = B * n + B := by rw [show ((n + 1 : Nat) : Int) = n + 1 by omega, Int.mul_add, Int.mul_one]
    unfold smF; rw [e]; omega
theorem odF_s {wm x : Int} (hw : 0 ≤ wm ∧ wm ≤ 9) : ∀ n : Nat, smF (odF wm x n) 0 10 = 10 ^ n
  | 0 => by
    simp only [smF, odF]
    rcases (show wm = 0 ∨ wm = 1 ∨ wm = 2 ∨ wm = 3 ∨ wm = 4 ∨ wm = 5 ∨ wm = 6 ∨ wm = 7 ∨ wm = 8 ∨ wm = 9 by omega) with rfl | rfl | rfl | rfl | rfl | rfl | rfl | rfl | rfl | rfl <;> rfl
  | n + 1 => by
    have ih := odF_s (x := x) hw n
    rw [Int.pow_succ, ← ih]
    simp only [smF, odF]
    simp only [Int.sub_mul]
    generalize odF wm x n = f
    simp
    generalize f 0 = a0; generalize f 1 = a1; generalize f 2 = a2; generalize f 3 = a3; generalize f 4 = a4; generalize f 5 = a5; generalize f 6 = a6; generalize f 7 = a7; generalize f 8 = a8; generalize f 9 = a9
    omega
def isG (a b g : Int) : Prop := g ∣ a ∧ g ∣ b ∧ ∀ c, c ∣ a → c ∣ b → c ∣ g
theorem isG_0 (a : Int) : isG a 0 a := ⟨Int.dvd_refl a, Int.dvd_zero a, fun _ h _ => h⟩
theorem isG_c {a b g : Int} (h : isG a b g) : isG b a g := ⟨h.2.1, h.1, fun c k j => h.2.2 c j k⟩
theorem isG_s {a b g : Int} (h : isG b (a.tmod b) g) : isG a b g := by
  have e := Int.mul_tdiv_add_tmod a b
  refine ⟨?_, h.1, fun c k j => h.2.2 c j ?_⟩
  · rw [← e]; exact Int.dvd_add (Int.dvd_mul_of_dvd_left h.1) h.2.1
  · rw [show a.tmod b = a - b * a.tdiv b by omega]; exact Int.dvd_sub k (Int.dvd_mul_of_dvd_left j)
theorem isG_u {a b g k : Int} (hg : 0 ≤ g) (hk : 0 ≤ k) (h : isG a b g) (j : isG a b k) : g = k := Int.dvd_antisymm hg hk (j.2.2 g h.1 h.2.1) (h.2.2 k j.1 j.2.1)
theorem isG_n {a b g : Int} (hb : 1 ≤ b) (h : isG a b g) : g ≠ 0 := fun z => by
  have := h.2.1; rw [z] at this; have := Int.zero_dvd.mp this; omega
theorem tdv {a g : Int} (ha : 0 ≤ a) (hg : 1 ≤ g) : 0 ≤ a.tdiv g ∧ a.tdiv g ≤ a := by
  rw [Int.tdiv_eq_ediv_of_nonneg ha]
  exact ⟨Int.ediv_nonneg ha (by omega), Int.ediv_le_self _ ha⟩
def lkG (α : Nat → Int → Int) (L k n x w : Int) : Prop := (0 ≤ L ∧ L < α 0 1) ∧ (0 ≤ k ∧ k ≤ 9) ∧ (0 ≤ n ∧ n ≤ 9) ∧ (0 ≤ x ∧ x ≤ 10) ∧ (0 ≤ w ∧ w ≤ 1)
def lkU (α : Nat → Int → Int) (L k n x : Int) : Int := smF (odF (α 2 L) x n.toNat) k (10 - k).toNat
def lkA (α : Nat → Int → Int) (L k n x w r : Int) : Prop := (lkG α L k n x w ∧ ∃ g, isG (lkU α L k n x) (10 ^ n.toNat) g ∧ 0 ≤ g ∧ r = if w = 0 then (lkU α L k n x).tdiv g else (10 ^ n.toNat : Int).tdiv g) ∨ (¬ lkG α L k n x w ∧ r = -1)
theorem lkA.u {α : Nat → Int → Int} {L k n x w r s : Int} (h : lkA α L k n x w r) (j : lkA α L k n x w s) : r = s := by
  rcases h with ⟨h1, g, h2, h3, h4⟩ | ⟨h1, h2⟩ <;> rcases j with ⟨j1, q, j2, j3, j4⟩ | ⟨j1, j2⟩
  · rw [h4, j4, isG_u h3 j3 h2 j2]
  · exact absurd h1 j1
  · exact absurd j1 h1
  · omega
def QN (f : Int → It → Prop) (Z : Zt) (P : Pt') : Qt := fun r Z' I' P' => ∃ x, r = some (vL x) ∧ f x I' ∧ Z' = Z ∧ P' = P
theorem QN_of {x : Int} {f : Int → It → Prop} {Z : Zt} {I : It} {P : Pt'} (h : f x I) : QN f Z P (some (vL x)) Z I P := ⟨x, rfl, h, rfl, rfl⟩
theorem m_clearOf {l : Launch} {g : Gt} {d : Nat} {Z : Zt} {I : It} {P : Pt'} (hM : LayM Z) (hN : LayQ P) {α : Nat → Int → Int} (hV : VM I α) (hW : WF α) {σ : Nat → Int → Int} (hR : RT 0 I α σ) (hWS : WS α σ) (a b : Int) : Mt l g mX12_clearOf (d + 1) 0 0 [vA 131, vI a, vI b] Z I P (QB (CP α σ a b) Z I P) := by
  have v0 := hV.1.1
  have v1 := hV.1.2.1
  have v2 := hV.1.2.2.1
  have v3 := hV.1.2.2.2.1
  have v4 := hV.1.2.2.2.2
  have w0 := hW.1
  have w1 := hW.2.1
  have w5 := hW.2.2.1
  have w10 := hW.2.2.2.1
  have hRT := hR
  have hAT : anyT α σ a b ↔ exB (fun u => σ 2 u = 0 ∧ a ≤ α 4 u ∧ α 4 u ≤ b) (α 0 5) := Iff.rfl
  refine Mt.of kmX12_clearOf (ls := [vA 131, vI a, vI b, vX, vX, vX, vX, vX, vX]) (fun _ => rfl) (fun _ => rfl) (okf_k (okf_k (okf_k (okf_n rfl)))) (fun hok => ?_)
  have outer : ∀ (k : Nat) (p y : Int) (va vb vc vd : Vv), 0 ≤ p → p + k = 21 → (y = 0 ∨ y = 1) → (y = 1 ↔ (1 ≤ p ∧ anyT α σ a b)) → (∀ u, 0 ≤ u → u < p → ¬ lkS α σ u a b (α 0 5).toNat ≤ 0) → Ev l g mX12_clearOf (d + 1) 0 0 Z I P 5 [vA 131, vI a, vI b, vI y, vI p, va, vb, vc, vd] [] (QB (CP α σ a b) Z I P) := by
    intro k
    induction k with
    | zero =>
      intro p y va vb vc vd h0 h1 hy hq hl
      refine ev_iload_4 5 dX12_clearOf_5 ?_
      refine ev_bipush 7 dX12_clearOf_7 ⟨by decide, by decide⟩ ?_
      refine ev_icmp_ge 9 170 dX12_clearOf_9 rfl (fun h9 => ?_) (fun h9 => ?_)
      · refine ev_bipush 170 dX12_clearOf_170 ⟨by decide, by decide⟩ ?_
        refine ev_iret 172 dX12_clearOf_172 ?_ rfl
        refine QB_of ?_
        by_cases z : anyT α σ a b
        · exact Or.inr ⟨z, Or.inl ⟨rfl, fun v a b => hl v a (by omega)⟩⟩
        · exact Or.inl ⟨z, rfl⟩
      · exfalso; omega
    | succ k ih =>
      intro p y va vb vc vd h0 h1 hy hq hl
      have inner : ∀ (r n : Nat) (y2 f : Int) (vc vd : Vv), (n : Int) + r = α 0 5 → (y2 = 0 ∨ y2 = 1) → (y2 = 1 ↔ (y = 1 ∨ exB (fun u => σ 2 u = 0 ∧ a ≤ α 4 u ∧ α 4 u ≤ b) n)) → f = -(lkS α σ p a b n) → Ev l g mX12_clearOf (d + 1) 0 0 Z I P 18 [vA 131, vI a, vI b, vI y2, vI p, vI f, vI n, vc, vd] [] (QB (CP α σ a b) Z I P) := by
        intro r
        induction r with
        | zero =>
          intro n y2 f vc vd g1 hy2 hq2 hf
          have hn : (α 0 5).toNat = n := by omega
          have ha2 : y2 = 1 ↔ anyT α σ a b := by
            rw [hq2, hq, hAT, show (n : Int) = α 0 5 by omega]
            exact ⟨fun z => z.elim (fun z => z.2) id, Or.inr⟩
          rw [← hn] at hf
          refine ev_iload_6 18 dX12_clearOf_18 ?_
          refine ev_aload_0 20 dX12_clearOf_20 ?_
          refine ev_getA 21 3 dX12_clearOf_21 fa_X12_13 (kd_131 hM) (pr_131_3 hN) rfl ?_
          refine ev_iconst 24 dX12_clearOf_24 ⟨by decide, by decide⟩ ?_
          refine ev_iald 25 dX12_clearOf_25 (kd_133 hM) ⟨by omega, by have := (ln_133 hM); omega⟩ ?_
          try simp only [v2]
          refine ev_icmp_ge 26 147 dX12_clearOf_26 rfl (fun h26 => ?_) (fun h26 => ?_)
          · refine ev_iload_5 147 dX12_clearOf_147 ?_
            refine ev_if_lt 149 164 dX12_clearOf_149 rfl (fun h149 => ?_) (fun h149 => ?_)
            · refine ev_iinc_4 164 dX12_clearOf_164 ⟨by omega, by omega⟩ rfl rfl ?_
              refine ev_goto 167 5 dX12_clearOf_167 rfl ?_
              exact ih (p + 1) _ _ _ _ _ (by omega) (by omega) hy2 (ha2.trans ⟨fun z => ⟨by omega, z⟩, fun z => z.2⟩) (fun u a b => by
                by_cases z : u = p
                · subst z; omega
                · exact hl u a (by omega))
            · refine ev_iload_3 152 dX12_clearOf_152 ?_
              refine ev_if_eq 153 161 dX12_clearOf_153 rfl (fun h153 => ?_) (fun h153 => ?_)
              · refine ev_bipush 161 dX12_clearOf_161 ⟨by decide, by decide⟩ ?_
                refine ev_iret 163 dX12_clearOf_163 ?_ rfl
                first
                  | exact QB_of (Or.inr ⟨ha2.mp (by omega), Or.inr ⟨h0, by omega, by omega, hl⟩⟩)
                  | exact QB_of (Or.inl ⟨fun z => by have := ha2.mpr z; omega, rfl⟩)
              · refine ev_iload_4 156 dX12_clearOf_156 ?_
                refine ev_goto 158 163 dX12_clearOf_158 rfl ?_
                refine ev_iret 163 dX12_clearOf_163 ?_ rfl
                first
                  | exact QB_of (Or.inr ⟨ha2.mp (by omega), Or.inr ⟨h0, by omega, by omega, hl⟩⟩)
                  | exact QB_of (Or.inl ⟨fun z => by have := ha2.mpr z; omega, rfl⟩)
          · exfalso; omega
        | succ r ih2 =>
          intro n y2 f vc vd g1 hy2 hq2 hf
          obtain ⟨m1, m2, m3⟩ := hV.2.2.1 (n : Int) (by omega) (by omega)
          have e3 := hWS.2.2.2.1 (n : Int) (by omega) (by omega)
          have lr := lkS_r (σ := σ) (a := a) (b := b) hW (p := p) (by omega) n (by omega)
          have mw := hW.2.2.2.2.2.2.1 (n : Int) (by omega) (by omega)
          have ls : lkS α σ p a b (n + 1) = if σ 2 (n : Int) = 0 ∧ a ≤ α 4 (n : Int) ∧ α 4 (n : Int) ≤ b then lkS α σ p a b n + (max 0 (α 7 (n : Int) - p) - α 6 (n : Int)) else lkS α σ p a b n := rfl
          refine ev_iload_6 18 dX12_clearOf_18 ?_
          refine ev_aload_0 20 dX12_clearOf_20 ?_
          refine ev_getA 21 3 dX12_clearOf_21 fa_X12_13 (kd_131 hM) (pr_131_3 hN) rfl ?_
          refine ev_iconst 24 dX12_clearOf_24 ⟨by decide, by decide⟩ ?_
          refine ev_iald 25 dX12_clearOf_25 (kd_133 hM) ⟨by omega, by have := (ln_133 hM); omega⟩ ?_
          try simp only [v2, m1, m2, m3]
          refine ev_icmp_ge 26 147 dX12_clearOf_26 rfl (fun h26 => ?_) (fun h26 => ?_)
          · exfalso; omega
          · refine Ev.join 60 (fun jv => (jv = 0 ∨ jv = 1) ∧ (jv = 1 ↔ (σ 2 (n : Int) = 0 ∧ a ≤ α 4 (n : Int) ∧ α 4 (n : Int) ≤ b))) (fun x60 q60 => ?_) (fun j60 => ?_)
            · try dsimp only at q60
              refine ev_istore_7 60 dX12_clearOf_60 rfl rfl ?_
              refine Ev.join 96 (fun jv => jv = max 0 (α 7 (n : Int) - p)) (fun x96 q96 => ?_) (fun j96 => ?_)
              · try dsimp only at q96
                refine ev_istore_8 96 dX12_clearOf_96 rfl rfl ?_
                refine ev_iload_5 98 dX12_clearOf_98 ?_
                refine Ev.join 123 (fun jv => (x60 = 1 → jv = α 6 (n : Int) - x96) ∧ (x60 = 0 → jv = 0)) (fun x123 q123 => ?_) (fun j123 => ?_)
                · try dsimp only at q123
                  refine ev_iadd 123 dX12_clearOf_123 ⟨by rcases q60.1 with z | z; rw [q123.2 z]; omega; rw [q123.1 z]; omega, by rcases q60.1 with z | z; rw [q123.2 z]; omega; rw [q123.1 z]; omega⟩ ?_
                  refine ev_istore_5 124 dX12_clearOf_124 rfl rfl ?_
                  refine Ev.join 140 (fun jv => (jv = 0 ∨ jv = 1) ∧ (jv = 1 ↔ (y2 = 1 ∨ x60 = 1))) (fun x140 q140 => ?_) (fun j140 => ?_)
                  · try dsimp only at q140
                    refine ev_istore_3 140 dX12_clearOf_140 rfl rfl ?_
                    refine ev_iinc_6 141 dX12_clearOf_141 ⟨by omega, by omega⟩ rfl rfl ?_
                    refine ev_goto 144 18 dX12_clearOf_144 rfl ?_
                    rw [show (n : Int) + 1 = ((n + 1 : Nat) : Int) by omega]
                    refine ih2 (n + 1) _ _ _ _ (by omega) q140.1 ?_ ?_
                    · rw [show ((n + 1 : Nat) : Int) = (n : Int) + 1 by omega, exB_s (by omega), q140.2, hq2, q60.2]
                      exact or_assoc
                    · rw [ls, hf]
                      rcases q60.1 with z | z
                      · rw [q123.2 z, if_neg (fun c => by have := q60.2.mpr c; omega)]; omega
                      · rw [q123.1 z, if_pos (q60.2.mp z), q96]; omega
                  · refine ev_iload_3 126 dX12_clearOf_126 ?_
                    refine ev_zne 127 135 dX12_clearOf_127 rfl (fun h127 => ?_) (fun h127 => ?_)
                    · refine ev_iconst 135 dX12_clearOf_135 ⟨by decide, by decide⟩ ?_
                      refine ev_goto 136 140 dX12_clearOf_136 rfl ?_
                      exact j140 _ (by omega)
                    · refine ev_iload_7 130 dX12_clearOf_130 ?_
                      refine ev_if_eq 132 139 dX12_clearOf_132 rfl (fun h132 => ?_) (fun h132 => ?_)
                      · refine ev_iconst 139 dX12_clearOf_139 ⟨by decide, by decide⟩ ?_
                        exact j140 _ (by omega)
                      · refine ev_iconst 135 dX12_clearOf_135 ⟨by decide, by decide⟩ ?_
                        refine ev_goto 136 140 dX12_clearOf_136 rfl ?_
                        exact j140 _ (by omega)
                · refine ev_iload_7 100 dX12_clearOf_100 ?_
                  refine ev_if_eq 102 122 dX12_clearOf_102 rfl (fun h102 => ?_) (fun h102 => ?_)
                  · refine ev_iconst 122 dX12_clearOf_122 ⟨by decide, by decide⟩ ?_
                    exact j123 _ (by omega)
                  · refine ev_aload_0 105 dX12_clearOf_105 ?_
                    refine ev_getA 106 5 dX12_clearOf_106 fa_X12_20 (kd_131 hM) (pr_131_5 hN) rfl ?_
                    refine ev_iconst 109 dX12_clearOf_109 ⟨by decide, by decide⟩ ?_
                    refine ev_iload_6 110 dX12_clearOf_110 ?_
                    refine ev_imul 112 dX12_clearOf_112 ⟨by omega, by omega⟩ ?_
                    refine ev_iconst 113 dX12_clearOf_113 ⟨by decide, by decide⟩ ?_
                    refine ev_iadd 114 dX12_clearOf_114 ⟨by omega, by omega⟩ ?_
                    refine ev_iald 115 dX12_clearOf_115 (kd_135 hM) ⟨by omega, by have := (ln_135 hM); omega⟩ ?_
                    try simp only [v2, m1, m2, m3]
                    refine ev_iload_8 116 dX12_clearOf_116 ?_
                    refine ev_isub 118 dX12_clearOf_118 ⟨by omega, by omega⟩ ?_
                    refine ev_goto 119 123 dX12_clearOf_119 rfl ?_
                    exact j123 _ (by omega)
              · refine ev_aload_0 62 dX12_clearOf_62 ?_
                refine ev_getA 63 5 dX12_clearOf_63 fa_X12_20 (kd_131 hM) (pr_131_5 hN) rfl ?_
                refine ev_iconst 66 dX12_clearOf_66 ⟨by decide, by decide⟩ ?_
                refine ev_iload_6 67 dX12_clearOf_67 ?_
                refine ev_imul 69 dX12_clearOf_69 ⟨by omega, by omega⟩ ?_
                refine ev_iconst 70 dX12_clearOf_70 ⟨by decide, by decide⟩ ?_
                refine ev_iadd 71 dX12_clearOf_71 ⟨by omega, by omega⟩ ?_
                refine ev_iald 72 dX12_clearOf_72 (kd_135 hM) ⟨by omega, by have := (ln_135 hM); omega⟩ ?_
                try simp only [v2, m1, m2, m3]
                refine ev_iload_4 73 dX12_clearOf_73 ?_
                refine ev_icmp_le 75 95 dX12_clearOf_75 rfl (fun h75 => ?_) (fun h75 => ?_)
                · refine ev_iconst 95 dX12_clearOf_95 ⟨by decide, by decide⟩ ?_
                  exact j96 _ (by omega)
                · refine ev_aload_0 78 dX12_clearOf_78 ?_
                  refine ev_getA 79 5 dX12_clearOf_79 fa_X12_20 (kd_131 hM) (pr_131_5 hN) rfl ?_
                  refine ev_iconst 82 dX12_clearOf_82 ⟨by decide, by decide⟩ ?_
                  refine ev_iload_6 83 dX12_clearOf_83 ?_
                  refine ev_imul 85 dX12_clearOf_85 ⟨by omega, by omega⟩ ?_
                  refine ev_iconst 86 dX12_clearOf_86 ⟨by decide, by decide⟩ ?_
                  refine ev_iadd 87 dX12_clearOf_87 ⟨by omega, by omega⟩ ?_
                  refine ev_iald 88 dX12_clearOf_88 (kd_135 hM) ⟨by omega, by have := (ln_135 hM); omega⟩ ?_
                  try simp only [v2, m1, m2, m3]
                  refine ev_iload_4 89 dX12_clearOf_89 ?_
                  refine ev_isub 91 dX12_clearOf_91 ⟨by omega, by omega⟩ ?_
                  refine ev_goto 92 96 dX12_clearOf_92 rfl ?_
                  exact j96 _ (by omega)
            · refine ev_aload_0 29 dX12_clearOf_29 ?_
              refine ev_iload_6 30 dX12_clearOf_30 ?_
              refine ev_cVp_1 32 dX12_clearOf_32 kmX12_isCut lk_X12_165 (kd_131 hM) (m_isCut hM hN hV hW hRT (by omega) (by omega)) rfl rfl ?_
              try simp only [v2, m1, m2, m3]
              refine ev_ifb_ne 35 59 dX12_clearOf_35 rfl (fun h35 => ?_) (fun h35 => ?_)
              · refine ev_iconst 59 dX12_clearOf_59 ⟨by decide, by decide⟩ ?_
                exact j60 _ (by omega)
              · refine ev_aload_0 38 dX12_clearOf_38 ?_
                refine ev_iload_6 39 dX12_clearOf_39 ?_
                refine ev_cVp_1 41 dX12_clearOf_41 kmX12_levelOf lk_X12_127 (kd_131 hM) (m_levelOf hM hN hV hW (by omega)) rfl rfl ?_
                try simp only [v2, m1, m2, m3]
                refine ev_i2l 44 dX12_clearOf_44 ?_
                refine ev_iload_1 45 dX12_clearOf_45 ?_
                refine ev_i2l 46 dX12_clearOf_46 ?_
                refine ev_iload_2 47 dX12_clearOf_47 ?_
                refine ev_i2l 48 dX12_clearOf_48 ?_
                refine ev_cSp_3 49 dX12_clearOf_49 kmX12_in lk_X12_62 (m_in _ _ _) rfl rfl ?_
                try simp only [v2, m1, m2, m3]
                refine ev_ifb_eq 52 59 dX12_clearOf_52 rfl (fun h52 => ?_) (fun h52 => ?_)
                · refine ev_iconst 59 dX12_clearOf_59 ⟨by decide, by decide⟩ ?_
                  exact j60 _ (by omega)
                · refine ev_iconst 55 dX12_clearOf_55 ⟨by decide, by decide⟩ ?_
                  refine ev_goto 56 60 dX12_clearOf_56 rfl ?_
                  exact j60 _ (by omega)
      refine ev_iload_4 5 dX12_clearOf_5 ?_
      refine ev_bipush 7 dX12_clearOf_7 ⟨by decide, by decide⟩ ?_
      refine ev_icmp_ge 9 170 dX12_clearOf_9 rfl (fun h9 => ?_) (fun h9 => ?_)
      · exfalso; omega
      · refine ev_iconst 12 dX12_clearOf_12 ⟨by decide, by decide⟩ ?_
        refine ev_istore_5 13 dX12_clearOf_13 rfl rfl ?_
        refine ev_iconst 15 dX12_clearOf_15 ⟨by decide, by decide⟩ ?_
        refine ev_istore_6 16 dX12_clearOf_16 rfl rfl ?_
        exact inner (α 0 5).toNat 0 _ _ _ _ (by omega) hy ⟨Or.inl, fun z => z.elim id (fun z => absurd z exB_0)⟩ rfl
  refine ev_iconst 0 dX12_clearOf_0 ⟨by decide, by decide⟩ ?_
  refine ev_istore_3 1 dX12_clearOf_1 rfl rfl ?_
  refine ev_iconst 2 dX12_clearOf_2 ⟨by decide, by decide⟩ ?_
  refine ev_istore_4 3 dX12_clearOf_3 rfl rfl ?_
  exact outer 21 0 0 _ _ _ _ (by omega) (by omega) (Or.inl rfl) ⟨fun z => by omega, fun z => by omega⟩ (fun u a b => by omega)
theorem m_clear {l : Launch} {g : Gt} {d : Nat} {Z : Zt} {I : It} {P : Pt'} (hM : LayM Z) (hN : LayQ P) {α : Nat → Int → Int} (hV : VM I α) (hW : WF α) {σ : Nat → Int → Int} (hR : RT 0 I α σ) (hWS : WS α σ) (a b : Int) : Mt l g mX12_clear (d + 2) 0 0 [vA 131, vI a, vI b] Z I P (QB (fun r => (((0 ≤ a ∧ a < α 0 1) ∧ (0 ≤ b ∧ b < α 0 1) ∧ a ≤ b) ∧ CP α σ a b r) ∨ (¬ ((0 ≤ a ∧ a < α 0 1) ∧ (0 ≤ b ∧ b < α 0 1) ∧ a ≤ b) ∧ r = -1)) Z I P) := by
  have v0 := hV.1.1
  have v1 := hV.1.2.1
  have v2 := hV.1.2.2.1
  have v3 := hV.1.2.2.2.1
  have v4 := hV.1.2.2.2.2
  have w0 := hW.1
  have w1 := hW.2.1
  have w5 := hW.2.2.1
  have w10 := hW.2.2.2.1
  have hRT := hR
  refine Mt.of kmX12_clear (ls := [vA 131, vI a, vI b]) (fun _ => rfl) (fun _ => rfl) (okf_k (okf_k (okf_k (okf_n rfl)))) (fun hok => ?_)
  refine ev_aload_0 0 dX12_clear_0 ?_
  refine ev_iload_1 1 dX12_clear_1 ?_
  refine ev_cVp_1 2 dX12_clear_2 kmX12_isLevel lk_X12_130 (kd_131 hM) (m_isLevel hM hN hV hW _) rfl rfl ?_
  refine ev_ifb_eq 5 30 dX12_clear_5 rfl (fun h5 => ?_) (fun h5 => ?_)
  · refine ev_iconst 30 dX12_clear_30 ⟨by decide, by decide⟩ ?_
    refine ev_iret 31 dX12_clear_31 ?_ rfl
    first
      | exact QB_of (Or.inl ⟨by omega, f24⟩)
      | exact QB_of (Or.inr ⟨by omega, rfl⟩)
  · refine ev_aload_0 8 dX12_clear_8 ?_
    refine ev_iload_2 9 dX12_clear_9 ?_
    refine ev_cVp_1 10 dX12_clear_10 kmX12_isLevel lk_X12_130 (kd_131 hM) (m_isLevel hM hN hV hW _) rfl rfl ?_
    refine ev_ifb_eq 13 30 dX12_clear_13 rfl (fun h13 => ?_) (fun h13 => ?_)
    · refine ev_iconst 30 dX12_clear_30 ⟨by decide, by decide⟩ ?_
      refine ev_iret 31 dX12_clear_31 ?_ rfl
      first
        | exact QB_of (Or.inl ⟨by omega, f24⟩)
        | exact QB_of (Or.inr ⟨by omega, rfl⟩)
    · refine ev_iload_1 16 dX12_clear_16 ?_
      refine ev_iload_2 17 dX12_clear_17 ?_
      refine ev_icmp_gt 18 30 dX12_clear_18 rfl (fun h18 => ?_) (fun h18 => ?_)
      · refine ev_iconst 30 dX12_clear_30 ⟨by decide, by decide⟩ ?_
        refine ev_iret 31 dX12_clear_31 ?_ rfl
        first
          | exact QB_of (Or.inl ⟨by omega, f24⟩)
          | exact QB_of (Or.inr ⟨by omega, rfl⟩)
      · refine ev_aload_0 21 dX12_clear_21 ?_
        refine ev_iload_1 22 dX12_clear_22 ?_
        refine ev_iload_2 23 dX12_clear_23 ?_
        refine ev_cVb_2 24 dX12_clear_24 kmX12_clearOf lk_X12_235 (kd_131 hM) (m_clearOf hM hN hV hW hRT hWS _ _) rfl rfl (fun x24 f24 => ?_)
        refine ev_goto 27 31 dX12_clear_27 rfl ?_
        refine ev_iret 31 dX12_clear_31 ?_ rfl
        first
          | exact QB_of (Or.inl ⟨by omega, f24⟩)
          | exact QB_of (Or.inr ⟨by omega, rfl⟩)
theorem m_gain {l : Launch} {g : Gt} {d : Nat} {Z : Zt} {I : It} {P : Pt'} (hM : LayM Z) (hN : LayQ P) {α : Nat → Int → Int} (hV : VM I α) (hW : WF α) {σ : Nat → Int → Int} (hR : RT 0 I α σ) (hWS : WS α σ) (a : Int) : Mt l g mX12_gain (d + 2) 0 0 [vA 131, vI a] Z I P (QB (fun r => ((1 ≤ a ∧ a < α 0 1) ∧ ∃ p q, CP α σ a (α 0 1 - 1) p ∧ CP α σ 0 (a - 1) q ∧ r = if p = -4 ∨ q = -4 then -4 else max 0 (p - q)) ∨ (¬ (1 ≤ a ∧ a < α 0 1) ∧ r = -1)) Z I P) := by
  have v0 := hV.1.1
  have v1 := hV.1.2.1
  have v2 := hV.1.2.2.1
  have v3 := hV.1.2.2.2.1
  have v4 := hV.1.2.2.2.2
  have w0 := hW.1
  have w1 := hW.2.1
  have w5 := hW.2.2.1
  have w10 := hW.2.2.2.1
  have hRT := hR
  refine Mt.of kmX12_gain (ls := [vA 131, vI a, vX, vX]) (fun _ => rfl) (fun _ => rfl) (okf_k (okf_k (okf_n rfl))) (fun hok => ?_)
  refine ev_aload_0 0 dX12_gain_0 ?_
  refine ev_iload_1 1 dX12_gain_1 ?_
  refine ev_cVp_1 2 dX12_gain_2 kmX12_isLevel lk_X12_130 (kd_131 hM) (m_isLevel hM hN hV hW _) rfl rfl ?_
  try simp only [v0, v1, v2, v3, v4]
  refine ev_ifb_eq 5 12 dX12_gain_5 rfl (fun h5 => ?_) (fun h5 => ?_)
  · refine ev_iconst 12 dX12_gain_12 ⟨by decide, by decide⟩ ?_
    refine ev_iret 13 dX12_gain_13 ?_ rfl
    exact QB_of (Or.inr ⟨by omega, rfl⟩)
  · refine ev_iload_1 8 dX12_gain_8 ?_
    refine ev_zne 9 14 dX12_gain_9 rfl (fun h9 => ?_) (fun h9 => ?_)
    · refine ev_aload_0 14 dX12_gain_14 ?_
      refine ev_iload_1 15 dX12_gain_15 ?_
      refine ev_aload_0 16 dX12_gain_16 ?_
      refine ev_getA 17 3 dX12_gain_17 fa_X12_13 (kd_131 hM) (pr_131_3 hN) rfl ?_
      refine ev_iconst 20 dX12_gain_20 ⟨by decide, by decide⟩ ?_
      refine ev_iald 21 dX12_gain_21 (kd_133 hM) ⟨by omega, by have := (ln_133 hM); omega⟩ ?_
      try simp only [v0, v1, v2, v3, v4]
      refine ev_iconst 22 dX12_gain_22 ⟨by decide, by decide⟩ ?_
      refine ev_isub 23 dX12_gain_23 ⟨by omega, by omega⟩ ?_
      refine ev_cVb_2 24 dX12_gain_24 kmX12_clearOf lk_X12_235 (kd_131 hM) (m_clearOf hM hN hV hW hRT hWS _ _) rfl rfl (fun x24 f24 => ?_)
      try simp only [v0, v1, v2, v3, v4]
      have c24 := CP_r f24
      refine ev_istore_2 27 dX12_gain_27 rfl rfl ?_
      refine ev_aload_0 28 dX12_gain_28 ?_
      refine ev_iconst 29 dX12_gain_29 ⟨by decide, by decide⟩ ?_
      refine ev_iload_1 30 dX12_gain_30 ?_
      refine ev_iconst 31 dX12_gain_31 ⟨by decide, by decide⟩ ?_
      refine ev_isub 32 dX12_gain_32 ⟨by omega, by omega⟩ ?_
      refine ev_cVb_2 33 dX12_gain_33 kmX12_clearOf lk_X12_235 (kd_131 hM) (m_clearOf hM hN hV hW hRT hWS _ _) rfl rfl (fun x33 f33 => ?_)
      try simp only [v0, v1, v2, v3, v4]
      have c33 := CP_r f33
      refine ev_istore_3 36 dX12_gain_36 rfl rfl ?_
      refine ev_iload_2 37 dX12_gain_37 ?_
      refine ev_if_lt 38 45 dX12_gain_38 rfl (fun h38 => ?_) (fun h38 => ?_)
      · refine ev_bipush 45 dX12_gain_45 ⟨by decide, by decide⟩ ?_
        refine ev_goto 47 62 dX12_gain_47 rfl ?_
        refine ev_iret 62 dX12_gain_62 ?_ rfl
        first
          | exact QB_of (Or.inl ⟨by omega, _, _, f24, f33, (if_pos (by omega)).symm⟩)
          | exact QB_of (Or.inl ⟨by omega, _, _, f24, f33, by rw [if_neg (by omega)]; omega⟩)
      · refine ev_iload_3 41 dX12_gain_41 ?_
        refine ev_if_ge 42 50 dX12_gain_42 rfl (fun h42 => ?_) (fun h42 => ?_)
        · refine ev_iload_2 50 dX12_gain_50 ?_
          refine ev_iload_3 51 dX12_gain_51 ?_
          refine ev_icmp_le 52 61 dX12_gain_52 rfl (fun h52 => ?_) (fun h52 => ?_)
          · refine ev_iconst 61 dX12_gain_61 ⟨by decide, by decide⟩ ?_
            refine ev_iret 62 dX12_gain_62 ?_ rfl
            first
              | exact QB_of (Or.inl ⟨by omega, _, _, f24, f33, (if_pos (by omega)).symm⟩)
              | exact QB_of (Or.inl ⟨by omega, _, _, f24, f33, by rw [if_neg (by omega)]; omega⟩)
          · refine ev_iload_2 55 dX12_gain_55 ?_
            refine ev_iload_3 56 dX12_gain_56 ?_
            refine ev_isub 57 dX12_gain_57 ⟨by omega, by omega⟩ ?_
            refine ev_goto 58 62 dX12_gain_58 rfl ?_
            refine ev_iret 62 dX12_gain_62 ?_ rfl
            first
              | exact QB_of (Or.inl ⟨by omega, _, _, f24, f33, (if_pos (by omega)).symm⟩)
              | exact QB_of (Or.inl ⟨by omega, _, _, f24, f33, by rw [if_neg (by omega)]; omega⟩)
        · refine ev_bipush 45 dX12_gain_45 ⟨by decide, by decide⟩ ?_
          refine ev_goto 47 62 dX12_gain_47 rfl ?_
          refine ev_iret 62 dX12_gain_62 ?_ rfl
          first
            | exact QB_of (Or.inl ⟨by omega, _, _, f24, f33, (if_pos (by omega)).symm⟩)
            | exact QB_of (Or.inl ⟨by omega, _, _, f24, f33, by rw [if_neg (by omega)]; omega⟩)
    · refine ev_iconst 12 dX12_gain_12 ⟨by decide, by decide⟩ ?_
      refine ev_iret 13 dX12_gain_13 ?_ rfl
      exact QB_of (Or.inr ⟨by omega, rfl⟩)
theorem m_currents {l : Launch} {g : Gt} {d : Nat} {Z : Zt} {I : It} {P : Pt'} (hM : LayM Z) (hN : LayQ P) {α : Nat → Int → Int} (hV : VM I α) (hW : WF α) (hn : 0 ≤ I 131 13 ∧ I 131 13 ≤ 6) (hD : ∀ i, 0 ≤ i → i < I 131 13 → (0 ≤ I 140 (4 * i + 1) ∧ I 140 (4 * i + 1) ≤ 23) ∧ (1 ≤ I 140 (4 * i + 3) ∧ I 140 (4 * i + 3) ≤ 50) ∧ (0 ≤ I 140 (4 * i + 2) ∧ I 140 (4 * i + 2) < α 0 0)) (x : Int) : Mt l g mX12_currents (d + 2) 0 0 [vA 131, vI x] Z I P (QP (if 0 ≤ x ∧ x < α 0 1 then ((bF (fun c => ∀ i, 0 ≤ i → i < I 131 13 → I 140 (4 * i) = x → (I 140 (4 * i + 1) + I 140 (4 * i + 3) * (c - 3)) % α 0 0 = I 140 (4 * i + 2)) 7 : Nat) : Int) else -1) Z I P) := by
  have v0 := hV.1.1
  have v1 := hV.1.2.1
  have v2 := hV.1.2.2.1
  have v3 := hV.1.2.2.2.1
  have v4 := hV.1.2.2.2.2
  have w0 := hW.1
  have w1 := hW.2.1
  have w5 := hW.2.2.1
  have w10 := hW.2.2.2.1
  refine Mt.of kmX12_currents (ls := [vA 131, vI x, vX, vX, vX, vX, vX]) (fun _ => rfl) (fun _ => rfl) (okf_k (okf_k (okf_n rfl))) (fun hok => ?_)
  have outer : (0 ≤ x ∧ x < α 0 1) → ∀ (k n : Nat) (va vb vc : Vv), n + k = 7 → Ev l g mX12_currents (d + 2) 0 0 Z I P 14 [vA 131, vI x, vI ((bF (fun c => ∀ i, 0 ≤ i → i < I 131 13 → I 140 (4 * i) = x → (I 140 (4 * i + 1) + I 140 (4 * i + 3) * (c - 3)) % α 0 0 = I 140 (4 * i + 2)) n : Nat) : Int), vI n, va, vb, vc] [] (QP (if 0 ≤ x ∧ x < α 0 1 then ((bF (fun c => ∀ i, 0 ≤ i → i < I 131 13 → I 140 (4 * i) = x → (I 140 (4 * i + 1) + I 140 (4 * i + 3) * (c - 3)) % α 0 0 = I 140 (4 * i + 2)) 7 : Nat) : Int) else -1) Z I P) := by
    intro hg k
    induction k with
    | zero =>
      intro n va vb vc h1
      obtain rfl : n = 7 := by omega
      refine ev_iload_3 14 dX12_currents_14 ?_
      refine ev_bipush 15 dX12_currents_15 ⟨by decide, by decide⟩ ?_
      refine ev_icmp_ge 17 140 dX12_currents_17 rfl (fun h17 => ?_) (fun h17 => ?_)
      · refine ev_iload_2 140 dX12_currents_140 ?_
        refine ev_iret 141 dX12_currents_141 ?_ rfl
        exact QP_of (if_pos hg).symm
      · exfalso; omega
    | succ k ih =>
      intro n va vb vc h1
      have hb31 := bF_31 (p := (fun c => ∀ i, 0 ≤ i → i < I 131 13 → I 140 (4 * i) = x → (I 140 (4 * i + 1) + I 140 (4 * i + 3) * (c - 3)) % α 0 0 = I 140 (4 * i + 2))) (n := n) (by omega)
      have inner : ∀ (r : Nat) (i y : Int) (vc : Vv), 0 ≤ i → i + r = I 131 13 → (y = 0 ∨ y = 1) → (y = 1 ↔ alB (fun i => I 140 (4 * i) = x → (I 140 (4 * i + 1) + I 140 (4 * i + 3) * ((n : Int) - 3)) % α 0 0 = I 140 (4 * i + 2)) i) → Ev l g mX12_currents (d + 2) 0 0 Z I P 26 [vA 131, vI x, vI ((bF (fun c => ∀ i, 0 ≤ i → i < I 131 13 → I 140 (4 * i) = x → (I 140 (4 * i + 1) + I 140 (4 * i + 3) * (c - 3)) % α 0 0 = I 140 (4 * i + 2)) n : Nat) : Int), vI n, vI y, vI i, vc] [] (QP (if 0 ≤ x ∧ x < α 0 1 then ((bF (fun c => ∀ i, 0 ≤ i → i < I 131 13 → I 140 (4 * i) = x → (I 140 (4 * i + 1) + I 140 (4 * i + 3) * (c - 3)) % α 0 0 = I 140 (4 * i + 2)) 7 : Nat) : Int) else -1) Z I P) := by
        intro r
        induction r with
        | zero =>
          intro i y vc g0 g1 hy hq
          have hpn : y = 1 ↔ (fun c => ∀ i, 0 ≤ i → i < I 131 13 → I 140 (4 * i) = x → (I 140 (4 * i + 1) + I 140 (4 * i + 3) * (c - 3)) % α 0 0 = I 140 (4 * i + 2)) (n : Int) := by rw [hq, show i = I 131 13 by omega]; exact Iff.rfl
          refine ev_iload_5 26 dX12_currents_26 ?_
          refine ev_aload_0 28 dX12_currents_28 ?_
          refine ev_gI 29 13 13 dX12_currents_29 fa_X12_108 (kd_131 hM) rfl rfl rfl ?_
          refine ev_icmp_ge 32 119 dX12_currents_32 rfl (fun h32 => ?_) (fun h32 => ?_)
          · refine ev_iload_2 119 dX12_currents_119 ?_
            refine Ev.join 132 (fun jv => ∃ m : Nat, jv = (m : Int) ∧ m < 2 ^ 31 ∧ bF (fun c => ∀ i, 0 ≤ i → i < I 131 13 → I 140 (4 * i) = x → (I 140 (4 * i + 1) + I 140 (4 * i + 3) * (c - 3)) % α 0 0 = I 140 (4 * i + 2)) n ||| m = bF (fun c => ∀ i, 0 ≤ i → i < I 131 13 → I 140 (4 * i) = x → (I 140 (4 * i + 1) + I 140 (4 * i + 3) * (c - 3)) % α 0 0 = I 140 (4 * i + 2)) (n + 1)) (fun x132 q132 => ?_) (fun j132 => ?_)
            · try dsimp only at q132
              obtain ⟨m, rfl, hm1, hm2⟩ := q132
              refine ev_ior 132 dX12_currents_132 hb31.1 hm1 ?_
              rw [hm2]
              refine ev_istore_2 133 dX12_currents_133 rfl rfl ?_
              refine ev_iinc_3 134 dX12_currents_134 ⟨by omega, by omega⟩ rfl rfl ?_
              refine ev_goto 137 14 dX12_currents_137 rfl ?_
              rw [show (n : Int) + 1 = ((n + 1 : Nat) : Int) by omega]
              exact ih (n + 1) _ _ _ (by omega)
            · refine ev_iload_4 120 dX12_currents_120 ?_
              refine ev_if_eq 122 131 dX12_currents_122 rfl (fun h122 => ?_) (fun h122 => ?_)
              · refine ev_iconst 131 dX12_currents_131 ⟨by decide, by decide⟩ ?_
                first
                  | exact j132 _ ⟨2 ^ n, by rw [show (n : Int).toNat = n by omega], hb31.2, (bF_t (hpn.mp (by omega))).symm⟩
                  | exact j132 _ ⟨0, rfl, by decide, by rw [bF_f (fun z => by have := hpn.mpr z; omega), Nat.or_zero]⟩
              · refine ev_iconst 125 dX12_currents_125 ⟨by decide, by decide⟩ ?_
                refine ev_iload_3 126 dX12_currents_126 ?_
                refine ev_ishl 127 dX12_currents_127 ⟨by omega, by omega⟩ ?_
                refine ev_goto 128 132 dX12_currents_128 rfl ?_
                first
                  | exact j132 _ ⟨2 ^ n, by rw [show (n : Int).toNat = n by omega], hb31.2, (bF_t (hpn.mp (by omega))).symm⟩
                  | exact j132 _ ⟨0, rfl, by decide, by rw [bF_f (fun z => by have := hpn.mpr z; omega), Nat.or_zero]⟩
          · exfalso; omega
        | succ r ih2 =>
          intro i y vc g0 g1 hy hq
          obtain ⟨d1, d2, d3⟩ := hD i g0 (by omega)
          have mb := mul7 d2 (c := (n : Int)) (by omega)
          have t0 := tm0 (N := α 0 0) (s := I 140 (4 * i + 1) + I 140 (4 * i + 3) * ((n : Int) - 3)) (e := I 140 (4 * i + 2)) (by omega) d3
          refine ev_iload_5 26 dX12_currents_26 ?_
          refine ev_aload_0 28 dX12_currents_28 ?_
          refine ev_gI 29 13 13 dX12_currents_29 fa_X12_108 (kd_131 hM) rfl rfl rfl ?_
          try simp only [v0]
          refine ev_icmp_ge 32 119 dX12_currents_32 rfl (fun h32 => ?_) (fun h32 => ?_)
          · exfalso; omega
          · refine ev_aload_0 35 dX12_currents_35 ?_
            refine ev_getA 36 14 dX12_currents_36 fa_X12_35 (kd_131 hM) (pr_131_14 hN) rfl ?_
            refine ev_iconst 39 dX12_currents_39 ⟨by decide, by decide⟩ ?_
            refine ev_iload_5 40 dX12_currents_40 ?_
            refine ev_imul 42 dX12_currents_42 ⟨by omega, by omega⟩ ?_
            refine ev_iconst 43 dX12_currents_43 ⟨by decide, by decide⟩ ?_
            refine ev_iadd 44 dX12_currents_44 ⟨by omega, by omega⟩ ?_
            refine ev_iald 45 dX12_currents_45 (kd_140 hM) ⟨by omega, by have := (ln_140 hM); omega⟩ ?_
            try simp only [v0]
            refine ev_aload_0 46 dX12_currents_46 ?_
            refine ev_getA 47 14 dX12_currents_47 fa_X12_35 (kd_131 hM) (pr_131_14 hN) rfl ?_
            refine ev_iconst 50 dX12_currents_50 ⟨by decide, by decide⟩ ?_
            refine ev_iload_5 51 dX12_currents_51 ?_
            refine ev_imul 53 dX12_currents_53 ⟨by omega, by omega⟩ ?_
            refine ev_iconst 54 dX12_currents_54 ⟨by decide, by decide⟩ ?_
            refine ev_iadd 55 dX12_currents_55 ⟨by omega, by omega⟩ ?_
            refine ev_iald 56 dX12_currents_56 (kd_140 hM) ⟨by omega, by have := (ln_140 hM); omega⟩ ?_
            try simp only [v0]
            refine ev_iload_3 57 dX12_currents_57 ?_
            refine ev_iconst 58 dX12_currents_58 ⟨by decide, by decide⟩ ?_
            refine ev_isub 59 dX12_currents_59 ⟨by omega, by omega⟩ ?_
            refine ev_imul 60 dX12_currents_60 ⟨by omega, by omega⟩ ?_
            refine ev_iadd 61 dX12_currents_61 ⟨by omega, by omega⟩ ?_
            refine ev_aload_0 62 dX12_currents_62 ?_
            refine ev_getA 63 14 dX12_currents_63 fa_X12_35 (kd_131 hM) (pr_131_14 hN) rfl ?_
            refine ev_iconst 66 dX12_currents_66 ⟨by decide, by decide⟩ ?_
            refine ev_iload_5 67 dX12_currents_67 ?_
            refine ev_imul 69 dX12_currents_69 ⟨by omega, by omega⟩ ?_
            refine ev_iconst 70 dX12_currents_70 ⟨by decide, by decide⟩ ?_
            refine ev_iadd 71 dX12_currents_71 ⟨by omega, by omega⟩ ?_
            refine ev_iald 72 dX12_currents_72 (kd_140 hM) ⟨by omega, by have := (ln_140 hM); omega⟩ ?_
            try simp only [v0]
            refine ev_isub 73 dX12_currents_73 ⟨by omega, by omega⟩ ?_
            refine ev_istore_6 74 dX12_currents_74 rfl rfl ?_
            refine Ev.join 111 (fun jv => (jv = 0 ∨ jv = 1) ∧ (jv = 1 ↔ (y = 1 ∧ (I 140 (4 * i) = x → (I 140 (4 * i + 1) + I 140 (4 * i + 3) * ((n : Int) - 3)) % α 0 0 = I 140 (4 * i + 2))))) (fun x111 q111 => ?_) (fun j111 => ?_)
            · try dsimp only at q111
              refine ev_istore_4 111 dX12_currents_111 rfl rfl ?_
              refine ev_iinc_5 113 dX12_currents_113 ⟨by omega, by omega⟩ rfl rfl ?_
              refine ev_goto 116 26 dX12_currents_116 rfl ?_
              exact ih2 (i + 1) _ _ (by omega) (by omega) q111.1 (by rw [alB_s g0, q111.2, hq])
            · refine ev_iload_4 76 dX12_currents_76 ?_
              refine ev_if_eq 78 110 dX12_currents_78 rfl (fun h78 => ?_) (fun h78 => ?_)
              · refine ev_iconst 110 dX12_currents_110 ⟨by decide, by decide⟩ ?_
                exact j111 _ (by omega)
              · refine ev_aload_0 81 dX12_currents_81 ?_
                refine ev_getA 82 14 dX12_currents_82 fa_X12_35 (kd_131 hM) (pr_131_14 hN) rfl ?_
                refine ev_iconst 85 dX12_currents_85 ⟨by decide, by decide⟩ ?_
                refine ev_iload_5 86 dX12_currents_86 ?_
                refine ev_imul 88 dX12_currents_88 ⟨by omega, by omega⟩ ?_
                refine ev_iald 89 dX12_currents_89 (kd_140 hM) ⟨by omega, by have := (ln_140 hM); omega⟩ ?_
                try simp only [v0]
                refine ev_iload_1 90 dX12_currents_90 ?_
                refine ev_jne 91 106 dX12_currents_91 rfl (fun h91 => ?_) (fun h91 => ?_)
                · refine ev_iconst 106 dX12_currents_106 ⟨by decide, by decide⟩ ?_
                  refine ev_goto 107 111 dX12_currents_107 rfl ?_
                  exact j111 _ (by omega)
                · refine ev_iload_6 94 dX12_currents_94 ?_
                  refine ev_aload_0 96 dX12_currents_96 ?_
                  refine ev_getA 97 3 dX12_currents_97 fa_X12_13 (kd_131 hM) (pr_131_3 hN) rfl ?_
                  refine ev_iconst 100 dX12_currents_100 ⟨by decide, by decide⟩ ?_
                  refine ev_iald 101 dX12_currents_101 (kd_133 hM) ⟨by omega, by have := (ln_133 hM); omega⟩ ?_
                  try simp only [v0]
                  refine ev_irem 102 dX12_currents_102 (by omega) ?_
                  refine ev_zne 103 110 dX12_currents_103 rfl (fun h103 => ?_) (fun h103 => ?_)
                  · refine ev_iconst 110 dX12_currents_110 ⟨by decide, by decide⟩ ?_
                    exact j111 _ (by omega)
                  · refine ev_iconst 106 dX12_currents_106 ⟨by decide, by decide⟩ ?_
                    refine ev_goto 107 111 dX12_currents_107 rfl ?_
                    exact j111 _ (by omega)
      refine ev_iload_3 14 dX12_currents_14 ?_
      refine ev_bipush 15 dX12_currents_15 ⟨by decide, by decide⟩ ?_
      refine ev_icmp_ge 17 140 dX12_currents_17 rfl (fun h17 => ?_) (fun h17 => ?_)
      · exfalso; omega
      · refine ev_iconst 20 dX12_currents_20 ⟨by decide, by decide⟩ ?_
        refine ev_istore_4 21 dX12_currents_21 rfl rfl ?_
        refine ev_iconst 23 dX12_currents_23 ⟨by decide, by decide⟩ ?_
        refine ev_istore_5 24 dX12_currents_24 rfl rfl ?_
        exact inner (I 131 13).toNat 0 _ _ (by omega) (by omega) (Or.inr rfl) ⟨fun _ => alB_0, fun _ => rfl⟩
  refine ev_aload_0 0 dX12_currents_0 ?_
  refine ev_iload_1 1 dX12_currents_1 ?_
  refine ev_cVp_1 2 dX12_currents_2 kmX12_isLevel lk_X12_130 (kd_131 hM) (m_isLevel hM hN hV hW _) rfl rfl ?_
  refine ev_ifb_ne 5 10 dX12_currents_5 rfl (fun h5 => ?_) (fun h5 => ?_)
  · refine ev_iconst 10 dX12_currents_10 ⟨by decide, by decide⟩ ?_
    refine ev_istore_2 11 dX12_currents_11 rfl rfl ?_
    refine ev_iconst 12 dX12_currents_12 ⟨by decide, by decide⟩ ?_
    refine ev_istore_3 13 dX12_currents_13 rfl rfl ?_
    exact outer (by omega) 7 0 _ _ _ (by omega)
  · refine ev_iconst 8 dX12_currents_8 ⟨by decide, by decide⟩ ?_
    refine ev_iret 9 dX12_currents_9 ?_ rfl
    exact QP_of (if_neg (by omega)).symm
