/-! the reference: slots copied, what was is kept, the sea changed -/
theorem VM.up {I : It} {α : Nat → Int → Int} {a : Nat} {k x : Int} (h : VM I α) (ha : a < 133 ∨ 136 < a) : VM (upI I a k x) α := h.fr (upI_A (by omega)) (upI_A (by omega)) (upI_A (by omega)) (upI_A (by omega))
def cpN (I : It) (a b n : Int) : It := fun c k => if c = 138 ∧ 42 * b ≤ k ∧ k < 42 * b + n then I 138 (42 * a + (k - 42 * b)) else I c k
theorem cpN_0 (I : It) (a b : Int) : cpN I a b 0 = I := by
  funext c k; unfold cpN; exact if_neg (fun z => by omega)
theorem cpN_s {I : It} {a b n : Int} (h0 : 0 ≤ n) (hn : n < 42) (hab : a ≠ b) : upI (cpN I a b n) 138 (42 * b + n) (cpN I a b n 138 (42 * a + n)) = cpN I a b (n + 1) := by
  have e : cpN I a b n 138 (42 * a + n) = I 138 (42 * a + n) := if_neg (fun z => by omega)
  rw [e]
  funext c k
  unfold upI cpN
  by_cases z : c = 138 ∧ k = 42 * b + n
  · rw [if_pos z, if_pos (by omega), z.2, show 42 * a + (42 * b + n - 42 * b) = 42 * a + n by omega]
  · rw [if_neg z]
    by_cases y : c = 138 ∧ 42 * b ≤ k ∧ k < 42 * b + n
    · rw [if_pos y, if_pos (by omega)]
    · rw [if_neg y, if_neg (by omega)]
theorem cpN_f {I : It} {a b n : Int} {c : Nat} (h : c ≠ 138) : cpN I a b n c = I c := by
  funext k; unfold cpN; exact if_neg (fun z => h z.1)
theorem cpN_o {I : It} {a b n k : Int} (h : k < 42 * b ∨ 42 * b + n ≤ k) : cpN I a b n 138 k = I 138 k := by unfold cpN; exact if_neg (fun z => by omega)
theorem cpN_i {I : It} {a b i : Int} (h : 0 ≤ i ∧ i < 42) : cpN I a b 42 138 (42 * b + i) = I 138 (42 * a + i) := by
  unfold cpN; rw [if_pos (by omega), show 42 * a + (42 * b + i - 42 * b) = 42 * a + i by omega]
/-- what was is kept, for undoing -/
def KP (I I' : It) : Prop := I' 131 10 = (if I 131 10 < 8 then I 131 10 + 1 else 8) ∧ (∀ j, j ≠ 10 → I' 131 j = I 131 j) ∧ (∀ a, a ≠ 131 → a ≠ 138 → I' a = I a) ∧ (∀ i, i < 126 → I' 138 i = I 138 i) ∧
  ∀ k i, 0 ≤ k → k < I' 131 10 → 0 ≤ i → i < 42 → I' 138 (42 * (3 + k) + i) = if k = I' 131 10 - 1 then I 138 i else if I 131 10 < 8 then I 138 (42 * (3 + k) + i) else I 138 (42 * (4 + k) + i)
def PM (α : Nat → Int → Int) (U : Int → Nat → Int → Int) (σ σ' : Nat → Int → Int) (I I' : It) : Prop := RS 0 I' α σ' ∧ I' 131 10 = (if I 131 10 < 8 then I 131 10 + 1 else 8) ∧ (∀ k, 0 ≤ k → k < I' 131 10 → RS (42 * (3 + k)) I' α (pshU 8 (I 131 10) U σ k)) ∧ (∀ j, j ≠ 10 → I' 131 j = I 131 j) ∧ (∀ a, a ≠ 131 → a ≠ 138 → I' a = I a) ∧ ∀ i, 42 ≤ i → i < 126 → I' 138 i = I 138 i
theorem KP.pm {I I' : It} {α σ : Nat → Int → Int} {U : Int → Nat → Int → Int} (hW : WF α) (hR : RS 0 I α σ) (h7 : σ 0 1 ≤ 7) (hU : ∀ k, 0 ≤ k → k < I 131 10 → RS (42 * (3 + k)) I α (U k)) (hU7 : ∀ k, 0 ≤ k → k < I 131 10 → U k 0 1 ≤ 7) (h : KP I I') : PM α U σ σ I I' := by
  obtain ⟨k1, k2, k3, k4, k5⟩ := h
  refine ⟨hR.fr hW h7 (fun i a b => k4 i (by omega)), k1, fun k a b => ?_, k2, k3, fun i a b => k4 i b⟩
  have k6 := fun i => k5 k i a b
  unfold pshU
  by_cases z : I 131 10 < 8
  · rw [if_pos z] at k1 ⊢
    by_cases y : k = I 131 10
    · rw [if_pos y]
      exact hR.mv hW h7 (fun i c e => by rw [k6 i c e, if_pos (by omega), show (0 : Int) + i = i by omega])
    · rw [if_neg y]
      exact (hU k a (by omega)).mv hW (hU7 k a (by omega)) (fun i c e => by rw [k6 i c e, if_neg (by omega), if_pos z])
  · rw [if_neg z] at k1 ⊢
    by_cases y : k = 8 - 1
    · rw [if_pos y]
      exact hR.mv hW h7 (fun i c e => by rw [k6 i c e, if_pos (by omega), show (0 : Int) + i = i by omega])
    · rw [if_neg y]
      exact (hU (k + 1) (by omega) (by omega)).mv hW (hU7 (k + 1) (by omega) (by omega)) (fun i c e => by rw [k6 i c e, if_neg (by omega), if_neg z, show 3 + (k + 1) = 4 + k by omega])
theorem pshU_7 {n : Int} {U : Int → Nat → Int → Int} {σ : Nat → Int → Int} (hn : n ≤ 8) (h7 : σ 0 1 ≤ 7) (hU7 : ∀ k, 0 ≤ k → k < n → U k 0 1 ≤ 7) : ∀ k, 0 ≤ k → k < (if n < 8 then n + 1 else 8) → pshU 8 n U σ k 0 1 ≤ 7 := fun k a b => by
  unfold pshU
  by_cases z : n < 8
  · rw [if_pos z] at b ⊢
    by_cases y : k = n
    · rw [if_pos y]; exact h7
    · rw [if_neg y]; exact hU7 k a (by omega)
  · rw [if_neg z] at b ⊢
    by_cases y : k = 8 - 1
    · rw [if_pos y]; exact h7
    · rw [if_neg y]; exact hU7 (k + 1) (by omega) (by omega)
/-- then slot 0 alone is changed -/
theorem PM.w {I I1 I2 : It} {α σ σ1 σ2 : Nat → Int → Int} {U : Int → Nat → Int → Int} (hW : WF α) (hn : 0 ≤ I 131 10 ∧ I 131 10 ≤ 8) (h7 : σ 0 1 ≤ 7) (hU7 : ∀ k, 0 ≤ k → k < I 131 10 → U k 0 1 ≤ 7) (h : PM α U σ σ1 I I1) (hR : RS 0 I2 α σ2) (e1 : ∀ a, a ≠ 138 → I2 a = I1 a) (e2 : ∀ i, 42 ≤ i → I2 138 i = I1 138 i) : PM α U σ σ2 I I2 := by
  obtain ⟨k1, k2, k3, k4, k5, k6⟩ := h
  have e131 := e1 131 (by omega)
  refine ⟨hR, by rw [e131]; exact k2, fun k a b => ?_, fun j a => by rw [e131]; exact k4 j a, fun a b c => by rw [e1 a c]; exact k5 a b c, fun i a b => by rw [e2 i a]; exact k6 i a b⟩
  rw [e131] at b
  exact (k3 k a b).fr hW (pshU_7 hn.2 h7 hU7 k a (by omega)) (fun i c e => e2 i (by omega))
def moreI (I : It) (b g a x w : Int) : It := upI (upI (upI (upI (upI I 138 (b + 1 + g) a) 138 (b + 8 + g) x) 138 (b + 15 + g) w) 138 (b + 22 + g) 0) 138 b (g + 1)
theorem moreI_f {I : It} {b g a x w : Int} {c : Nat} (h : c ≠ 138) : moreI I b g a x w c = I c := by unfold moreI; simp only [upI_A h]
theorem moreI_o {I : It} {b g a x w k : Int} (hg : 0 ≤ g ∧ g ≤ 6) (h : k < b ∨ b + 29 ≤ k) : moreI I b g a x w 138 k = I 138 k := by unfold moreI; simp (disch := omega) only [upI_k]
theorem RT.more {I : It} {b g a x w : Int} {α σ : Nat → Int → Int} (hg : 0 ≤ g ∧ g ≤ 6) (h : RT b I α σ) : RT b (moreI I b g a x w) α σ := fun t c e => by
  rw [moreI_o hg (by omega), moreI_o hg (by omega)]; exact h t c e
theorem RS.more {I : It} {b a x w : Int} {α σ : Nat → Int → Int} (h6 : 0 ≤ σ 0 1 ∧ σ 0 1 ≤ 6) (h : RS b I α σ) : RS b (moreI I b (σ 0 1) a x w) α (addS σ a x w) := by
  have a01 : addS σ a x w 0 1 = σ 0 1 + 1 := by simp [addS]
  refine ⟨by rw [a01]; unfold moreI; rw [upI_s], by rw [moreI_o h6 (by omega)]; exact h.2.1.trans (by simp [addS]), fun t c e => ?_, fun j c e => ?_⟩
  · have := RT.more (a := a) (x := x) (w := w) h6 h.2.2.1 t c e
    simpa [addS] using this
  · rw [a01] at e
    by_cases z : j = σ 0 1
    · subst z
      unfold moreI
      refine ⟨?_, ?_, ?_, fun _ => ?_⟩ <;> simp (disch := omega) only [upI_k, upI_s] <;> simp [addS, cg]
    · obtain ⟨r1, r2, r3, r4⟩ := h.2.2.2 j c (by omega)
      unfold moreI
      refine ⟨?_, ?_, ?_, fun y => ?_⟩ <;> simp (disch := omega) only [upI_k]
      · simpa [addS, z] using r1
      · simpa [addS, z] using r2
      · simpa [addS, z] using r3
      · have y' : σ 6 j = -4 := by simpa [addS, z] using y
        simpa [addS, z] using r4 y'
theorem RS.hang {I : It} {b t x : Int} {α σ : Nat → Int → Int} (ht : 0 ≤ t ∧ t < α 0 5) (h7 : 0 ≤ σ 0 1 ∧ σ 0 1 ≤ 7) (hw : α 0 5 ≤ 6) (h : RS b I α σ) : RS b (upI I 138 (b + 29 + t) x) α (hangS σ t x) := by
  have a01 : hangS σ t x 0 1 = σ 0 1 := by simp [hangS]
  refine ⟨by rw [a01, upI_k (by omega)]; exact h.1, by rw [upI_k (by omega)]; exact h.2.1, fun u c e => ?_, fun j c e => ?_⟩
  · obtain ⟨r1, r2⟩ := h.2.2.1 u c e
    rw [upI_k (j := b + 35 + u) (by omega)]
    by_cases z : u = t
    · subst z; rw [upI_s]; exact ⟨by simp [hangS], by simpa [hangS] using r2⟩
    · rw [upI_k (by omega)]; exact ⟨by simpa [hangS, z] using r1, by simpa [hangS] using r2⟩
  · rw [a01] at e
    obtain ⟨r1, r2, r3, r4⟩ := h.2.2.2 j c e
    simp (disch := omega) only [upI_k]
    refine ⟨by simpa [hangS] using r1, by simpa [hangS] using r2, by simpa [hangS] using r3, fun y => ?_⟩
    have y' : σ 6 j = -4 := by simpa [hangS] using y
    have : hangS σ t x 4 j = σ 4 j := by
      unfold hangS; rw [if_neg (by omega), if_neg (by omega)]
    rw [this]; exact r4 y'
theorem m_copies {l : Launch} {g : Gt} {d : Nat} {Z : Zt} {I : It} {P : Pt'} (hM : LayM Z) (hN : LayQ P) {a b : Int} (ha : 0 ≤ a ∧ a ≤ 11) (hb : 0 ≤ b ∧ b ≤ 11) (hab : a ≠ b) : Mt l g mX12_copies d 0 0 [vA 131, vI a, vI b] Z I P (QV (fun I' => I' = cpN I a b 42) Z P) := by
  refine Mt.of kmX12_copies (ls := [vA 131, vI a, vI b, vX]) (fun _ => rfl) (fun _ => rfl) (okf_k (okf_k (okf_k (okf_n rfl)))) (fun hok => ?_)
  have loop : ∀ (k : Nat) (n : Int) (I1 : It), 0 ≤ n → n + k = 42 → (hq : I1 = cpN I a b n) → Ev l g mX12_copies d 0 0 Z I1 P 2 [vA 131, vI a, vI b, vI n] [] (QV (fun I' => I' = cpN I a b 42) Z P) := by
    intro k
    induction k with
    | zero =>
      intro n I1 h0 h1 hq
      refine ev_iload_3 2 dX12_copies_2 ?_
      refine ev_bipush 3 dX12_copies_3 ⟨by decide, by decide⟩ ?_
      refine ev_icmp_ge 5 36 dX12_copies_5 rfl (fun h5 => ?_) (fun h5 => ?_)
      · refine ev_vret 36 dX12_copies_36 ?_ rfl
        exact QV_of (by rw [hq, show n = 42 by omega])
      · exfalso; omega
    | succ k ih =>
      intro n I1 h0 h1 hq
      refine ev_iload_3 2 dX12_copies_2 ?_
      refine ev_bipush 3 dX12_copies_3 ⟨by decide, by decide⟩ ?_
      refine ev_icmp_ge 5 36 dX12_copies_5 rfl (fun h5 => ?_) (fun h5 => ?_)
      · exfalso; omega
      · refine ev_aload_0 8 dX12_copies_8 ?_
        refine ev_getA 9 8 dX12_copies_9 fa_X12_29 (kd_131 hM) (pr_131_8 hN) rfl ?_
        refine ev_bipush 12 dX12_copies_12 ⟨by decide, by decide⟩ ?_
        refine ev_iload_2 14 dX12_copies_14 ?_
        refine ev_imul 15 dX12_copies_15 ⟨by omega, by omega⟩ ?_
        refine ev_iload_3 16 dX12_copies_16 ?_
        refine ev_iadd 17 dX12_copies_17 ⟨by omega, by omega⟩ ?_
        refine ev_aload_0 18 dX12_copies_18 ?_
        refine ev_getA 19 8 dX12_copies_19 fa_X12_29 (kd_131 hM) (pr_131_8 hN) rfl ?_
        refine ev_bipush 22 dX12_copies_22 ⟨by decide, by decide⟩ ?_
        refine ev_iload_1 24 dX12_copies_24 ?_
        refine ev_imul 25 dX12_copies_25 ⟨by omega, by omega⟩ ?_
        refine ev_iload_3 26 dX12_copies_26 ?_
        refine ev_iadd 27 dX12_copies_27 ⟨by omega, by omega⟩ ?_
        refine ev_iald 28 dX12_copies_28 (kd_138 hM) ⟨by omega, by have := (ln_138 hM); omega⟩ ?_
        refine ev_iast 29 dX12_copies_29 (kd_138 hM) ⟨by omega, by have := (ln_138 hM); omega⟩ ?_
        refine ev_iinc_3 30 dX12_copies_30 ⟨by omega, by omega⟩ rfl rfl ?_
        refine ev_goto 33 2 dX12_copies_33 rfl ?_
        exact ih (n + 1) _ (by omega) (by omega) (by rw [hq]; exact cpN_s h0 (by omega) hab)
  refine ev_iconst 0 dX12_copies_0 ⟨by decide, by decide⟩ ?_
  refine ev_istore_3 1 dX12_copies_1 rfl rfl ?_
  exact loop 42 0 I (by omega) (by omega) (cpN_0 I a b).symm
theorem m_known {l : Launch} {g : Gt} {d : Nat} {Z : Zt} {I : It} {P : Pt'} (hM : LayM Z) (hN : LayQ P) (hn : 0 ≤ I 131 10 ∧ I 131 10 ≤ 8) : Mt l g mX12_known (d + 1) 0 0 [vA 131] Z I P (QV (fun I' => KP I I') Z P) := by
  refine Mt.of kmX12_known (ls := [vA 131, vX]) (fun _ => rfl) (fun _ => rfl) (okf_k (okf_n rfl)) (fun hok => ?_)
  have tail : ∀ (J : It) (n : Int) (vx : Vv), 0 ≤ n → n ≤ 7 → J 131 10 = n → (∀ j, j ≠ 10 → J 131 j = I 131 j) → (∀ a, a ≠ 131 → a ≠ 138 → J a = I a) → (∀ i, i < 126 → J 138 i = I 138 i) → (if I 131 10 < 8 then I 131 10 else 7) = n → (∀ k i, 0 ≤ k → k < n → 0 ≤ i → i < 42 → J 138 (42 * (3 + k) + i) = if I 131 10 < 8 then I 138 (42 * (3 + k) + i) else I 138 (42 * (4 + k) + i)) → Ev l g mX12_known (d + 1) 0 0 Z J P 41 [vA 131, vx] [] (QV (fun I' => KP I I') Z P) := by
    intro J n vx h0 h1 h2 h3 h4 h5 h6 h7
    refine ev_aload_0 41 dX12_known_41 ?_
    refine ev_iconst 42 dX12_known_42 ⟨by decide, by decide⟩ ?_
    refine ev_iconst 43 dX12_known_43 ⟨by decide, by decide⟩ ?_
    refine ev_aload_0 44 dX12_known_44 ?_
    refine ev_gI 45 10 10 dX12_known_45 fa_X12_111 (kd_131 hM) rfl rfl rfl ?_
    try simp only [h2]
    refine ev_iadd 48 dX12_known_48 ⟨by omega, by omega⟩ ?_
    refine ev_cVv_2 49 dX12_known_49 kmX12_copies lk_X12_145 (kd_131 hM) (m_copies hM hN (by omega) (by omega) (by omega)) rfl rfl (fun I49 f49 => ?_)
    have e9 : I49 131 10 = n := by rw [f49, cpN_f (by omega)]; exact h2
    refine ev_aload_0 52 dX12_known_52 ?_
    refine ev_dupA 53 dX12_known_53 ?_
    refine ev_gI 54 10 10 dX12_known_54 fa_X12_111 (kd_131 hM) rfl rfl rfl ?_
    try simp only [h2]
    rw [e9]
    refine ev_iconst 57 dX12_known_57 ⟨by decide, by decide⟩ ?_
    refine ev_iadd 58 dX12_known_58 ⟨by omega, by omega⟩ ?_
    refine ev_pI 59 10 10 dX12_known_59 fp_X12_111 (kd_131 hM) rfl rfl ?_
    refine ev_vret 62 dX12_known_62 ?_ rfl
    refine QV_of ⟨?_, fun j a => ?_, fun a b c => ?_, fun i a => ?_, fun k i a b c e => ?_⟩
    · rw [upI_s]
      by_cases z : I 131 10 < 8
      · rw [if_pos z] at h6 ⊢; omega
      · rw [if_neg z] at h6 ⊢; omega
    · rw [upI_k a, f49, cpN_f (by omega)]; exact h3 j a
    · rw [upI_A b, f49, cpN_f c]; exact h4 a b c
    · rw [upI_A (by omega), f49, cpN_o (by omega)]; exact h5 i a
    · rw [upI_s] at b ⊢
      rw [upI_A (by omega), f49]
      by_cases z : k = n + 1 - 1
      · rw [if_pos (by omega), show (3 + k : Int) = 3 + n by omega, cpN_i ⟨c, e⟩, show 42 * 0 + i = i by omega]; exact h5 i (by omega)
      · rw [if_neg (by omega), cpN_o (by omega)]; exact h7 k i a (by omega) c e
  have shift : I 131 10 = 8 → ∀ (r : Nat) (k : Int) (J : It), 3 ≤ k → k + r = 10 → (∀ a, a ≠ 138 → J a = I a) → (∀ i, (i < 126 ∨ 42 * k ≤ i) → J 138 i = I 138 i) → (∀ m i, 3 ≤ m → m < k → 0 ≤ i → i < 42 → J 138 (42 * m + i) = I 138 (42 * (m + 1) + i)) → Ev l g mX12_known (d + 1) 0 0 Z J P 11 [vA 131, vI k] [] (QV (fun I' => KP I I') Z P) := by
    intro h8 r
    induction r with
    | zero =>
      intro k J h0 h1 q1 q2 q3
      have j10 : J 131 10 = 8 := by rw [q1 131 (by omega)]; exact h8
      refine ev_iload_1 11 dX12_known_11 ?_
      refine ev_bipush 12 dX12_known_12 ⟨by decide, by decide⟩ ?_
      refine ev_icmp_ge 14 31 dX12_known_14 rfl (fun h14 => ?_) (fun h14 => ?_)
      · refine ev_aload_0 31 dX12_known_31 ?_
        refine ev_dupA 32 dX12_known_32 ?_
        refine ev_gI 33 10 10 dX12_known_33 fa_X12_111 (kd_131 hM) rfl rfl rfl ?_
        try simp only [j10]
        refine ev_iconst 36 dX12_known_36 ⟨by decide, by decide⟩ ?_
        refine ev_isub 37 dX12_known_37 ⟨by omega, by omega⟩ ?_
        refine ev_pI 38 10 10 dX12_known_38 fp_X12_111 (kd_131 hM) rfl rfl ?_
        refine tail _ 7 _ (by omega) (by omega) (by rw [upI_s]; omega) (fun j a => by rw [upI_k a, q1 131 (by omega)]) (fun a b c => by rw [upI_A b]; exact q1 a c) (fun i a => by rw [upI_A (by omega)]; exact q2 i (Or.inl a)) (if_neg (by omega)) (fun k i a b c e => ?_)
        rw [upI_A (by omega), if_neg (by omega), q3 (3 + k) i (by omega) (by omega) c e, show 3 + k + 1 = 4 + k by omega]
      · exfalso; omega
    | succ r ih =>
      intro k J h0 h1 q1 q2 q3
      refine ev_iload_1 11 dX12_known_11 ?_
      refine ev_bipush 12 dX12_known_12 ⟨by decide, by decide⟩ ?_
      refine ev_icmp_ge 14 31 dX12_known_14 rfl (fun h14 => ?_) (fun h14 => ?_)
      · exfalso; omega
      · refine ev_aload_0 17 dX12_known_17 ?_
        refine ev_iload_1 18 dX12_known_18 ?_
        refine ev_iconst 19 dX12_known_19 ⟨by decide, by decide⟩ ?_
        refine ev_iadd 20 dX12_known_20 ⟨by omega, by omega⟩ ?_
        refine ev_iload_1 21 dX12_known_21 ?_
        refine ev_cVv_2 22 dX12_known_22 kmX12_copies lk_X12_145 (kd_131 hM) (m_copies hM hN (by omega) (by omega) (by omega)) rfl rfl (fun I22 f22 => ?_)
        refine ev_iinc_1 25 dX12_known_25 ⟨by omega, by omega⟩ rfl rfl ?_
        refine ev_goto 28 11 dX12_known_28 rfl ?_
        refine ih (k + 1) _ (by omega) (by omega) (fun a b => by rw [f22, cpN_f b]; exact q1 a b) (fun i a => by rw [f22, cpN_o (by omega)]; exact q2 i (by omega)) (fun m i a b c e => ?_)
        rw [f22]
        by_cases z : m = k
        · subst z
          rw [cpN_i ⟨c, e⟩]; exact q2 _ (by omega)
        · rw [cpN_o (by omega)]; exact q3 m i a (by omega) c e
  refine ev_aload_0 0 dX12_known_0 ?_
  refine ev_gI 1 10 10 dX12_known_1 fa_X12_111 (kd_131 hM) rfl rfl rfl ?_
  refine ev_bipush 4 dX12_known_4 ⟨by decide, by decide⟩ ?_
  refine ev_jne 6 41 dX12_known_6 rfl (fun h6 => ?_) (fun h6 => ?_)
  · exact tail I (I 131 10) _ (by omega) (by omega) rfl (fun _ _ => rfl) (fun _ _ _ => rfl) (fun _ _ => rfl) (if_pos (by omega)) (fun k i _ _ _ _ => (if_pos (by omega)).symm)
  · refine ev_iconst 9 dX12_known_9 ⟨by decide, by decide⟩ ?_
    refine ev_istore_1 10 dX12_known_10 rfl rfl ?_
    exact shift (by omega) 7 3 I (by omega) (by omega) (fun _ _ => rfl) (fun _ _ => rfl) (fun m i a b => by omega)
theorem m_more {l : Launch} {g : Gt} {d : Nat} {Z : Zt} {I : It} {P : Pt'} (hM : LayM Z) (hN : LayQ P) {s : Int} (hs : 0 ≤ s ∧ s ≤ 11) (hg : 0 ≤ I 138 (42 * s) ∧ I 138 (42 * s) ≤ 6) (a x w : Int) : Mt l g mX12_more d 0 0 [vA 131, vI s, vI a, vI x, vI w] Z I P (QM (fun r I' => r = I 138 (42 * s) ∧ I' = moreI I (42 * s) (I 138 (42 * s)) a x w) Z P) := by
  refine Mt.of kmX12_more (ls := [vA 131, vI s, vI a, vI x, vI w, vX]) (fun _ => rfl) (fun _ => rfl) (okf_k (okf_k (okf_k (okf_k (okf_k (okf_n rfl)))))) (fun hok => ?_)
  refine ev_aload_0 0 dX12_more_0 ?_
  refine ev_getA 1 8 dX12_more_1 fa_X12_29 (kd_131 hM) (pr_131_8 hN) rfl ?_
  refine ev_bipush 4 dX12_more_4 ⟨by decide, by decide⟩ ?_
  refine ev_iload_1 6 dX12_more_6 ?_
  refine ev_imul 7 dX12_more_7 ⟨by omega, by omega⟩ ?_
  refine ev_iald 8 dX12_more_8 (kd_138 hM) ⟨by omega, by have := (ln_138 hM); omega⟩ ?_
  refine ev_istore_5 9 dX12_more_9 rfl rfl ?_
  refine ev_aload_0 11 dX12_more_11 ?_
  refine ev_getA 12 8 dX12_more_12 fa_X12_29 (kd_131 hM) (pr_131_8 hN) rfl ?_
  refine ev_bipush 15 dX12_more_15 ⟨by decide, by decide⟩ ?_
  refine ev_iload_1 17 dX12_more_17 ?_
  refine ev_imul 18 dX12_more_18 ⟨by omega, by omega⟩ ?_
  refine ev_iconst 19 dX12_more_19 ⟨by decide, by decide⟩ ?_
  refine ev_iadd 20 dX12_more_20 ⟨by omega, by omega⟩ ?_
  refine ev_iload_5 21 dX12_more_21 ?_
  refine ev_iadd 23 dX12_more_23 ⟨by omega, by omega⟩ ?_
  refine ev_iload_2 24 dX12_more_24 ?_
  refine ev_iast 25 dX12_more_25 (kd_138 hM) ⟨by omega, by have := (ln_138 hM); omega⟩ ?_
  refine ev_aload_0 26 dX12_more_26 ?_
  refine ev_getA 27 8 dX12_more_27 fa_X12_29 (kd_131 hM) (pr_131_8 hN) rfl ?_
  refine ev_bipush 30 dX12_more_30 ⟨by decide, by decide⟩ ?_
  refine ev_iload_1 32 dX12_more_32 ?_
  refine ev_imul 33 dX12_more_33 ⟨by omega, by omega⟩ ?_
  refine ev_bipush 34 dX12_more_34 ⟨by decide, by decide⟩ ?_
  refine ev_iadd 36 dX12_more_36 ⟨by omega, by omega⟩ ?_
  refine ev_iload_5 37 dX12_more_37 ?_
  refine ev_iadd 39 dX12_more_39 ⟨by omega, by omega⟩ ?_
  refine ev_iload_3 40 dX12_more_40 ?_
  refine ev_iast 41 dX12_more_41 (kd_138 hM) ⟨by omega, by have := (ln_138 hM); omega⟩ ?_
  refine ev_aload_0 42 dX12_more_42 ?_
  refine ev_getA 43 8 dX12_more_43 fa_X12_29 (kd_131 hM) (pr_131_8 hN) rfl ?_
  refine ev_bipush 46 dX12_more_46 ⟨by decide, by decide⟩ ?_
  refine ev_iload_1 48 dX12_more_48 ?_
  refine ev_imul 49 dX12_more_49 ⟨by omega, by omega⟩ ?_
  refine ev_bipush 50 dX12_more_50 ⟨by decide, by decide⟩ ?_
  refine ev_iadd 52 dX12_more_52 ⟨by omega, by omega⟩ ?_
  refine ev_iload_5 53 dX12_more_53 ?_
  refine ev_iadd 55 dX12_more_55 ⟨by omega, by omega⟩ ?_
  refine ev_iload_4 56 dX12_more_56 ?_
  refine ev_iast 58 dX12_more_58 (kd_138 hM) ⟨by omega, by have := (ln_138 hM); omega⟩ ?_
  refine ev_aload_0 59 dX12_more_59 ?_
  refine ev_getA 60 8 dX12_more_60 fa_X12_29 (kd_131 hM) (pr_131_8 hN) rfl ?_
  refine ev_bipush 63 dX12_more_63 ⟨by decide, by decide⟩ ?_
  refine ev_iload_1 65 dX12_more_65 ?_
  refine ev_imul 66 dX12_more_66 ⟨by omega, by omega⟩ ?_
  refine ev_bipush 67 dX12_more_67 ⟨by decide, by decide⟩ ?_
  refine ev_iadd 69 dX12_more_69 ⟨by omega, by omega⟩ ?_
  refine ev_iload_5 70 dX12_more_70 ?_
  refine ev_iadd 72 dX12_more_72 ⟨by omega, by omega⟩ ?_
  refine ev_iconst 73 dX12_more_73 ⟨by decide, by decide⟩ ?_
  refine ev_iast 74 dX12_more_74 (kd_138 hM) ⟨by omega, by have := (ln_138 hM); omega⟩ ?_
  refine ev_aload_0 75 dX12_more_75 ?_
  refine ev_getA 76 8 dX12_more_76 fa_X12_29 (kd_131 hM) (pr_131_8 hN) rfl ?_
  refine ev_bipush 79 dX12_more_79 ⟨by decide, by decide⟩ ?_
  refine ev_iload_1 81 dX12_more_81 ?_
  refine ev_imul 82 dX12_more_82 ⟨by omega, by omega⟩ ?_
  refine ev_dup2 83 dX12_more_83 ?_
  refine ev_iald 84 dX12_more_84 (kd_138 hM) ⟨by omega, by have := (ln_138 hM); omega⟩ ?_
  try simp (disch := omega) only [upI_s, upI_a, upI_k]
  refine ev_iconst 85 dX12_more_85 ⟨by decide, by decide⟩ ?_
  refine ev_iadd 86 dX12_more_86 ⟨by omega, by omega⟩ ?_
  refine ev_iast 87 dX12_more_87 (kd_138 hM) ⟨by omega, by have := (ln_138 hM); omega⟩ ?_
  refine ev_iload_5 88 dX12_more_88 ?_
  refine ev_iret 90 dX12_more_90 ?_ rfl
  exact QM_of ⟨rfl, rfl⟩
theorem m_letGo {l : Launch} {g : Gt} {d : Nat} {Z : Zt} {I : It} {P : Pt'} (hM : LayM Z) (hN : LayQ P) {α : Nat → Int → Int} (hV : VM I α) (hW : WF α) {σ : Nat → Int → Int} (hR : RS 0 I α σ) (hWS : WS α σ) {U : Int → Nat → Int → Int} (hn : 0 ≤ I 131 10 ∧ I 131 10 ≤ 8) (hU : ∀ k, 0 ≤ k → k < I 131 10 → RS (42 * (3 + k)) I α (U k)) (hU7 : ∀ k, 0 ≤ k → k < I 131 10 → U k 0 1 ≤ 7) (t w : Int) : Mt l g mX12_letGo (d + 2) 0 0 [vA 131, vI t, vI w] Z I P (QM (fun r I' => (¬ ((0 ≤ t ∧ t < α 0 5) ∧ (0 ≤ w ∧ w ≤ 9)) ∧ r = -1 ∧ I' = I) ∨ (((0 ≤ t ∧ t < α 0 5) ∧ (0 ≤ w ∧ w ≤ 9)) ∧ ((σ 2 t ≠ 0 ∧ r = -2 ∧ I' = I) ∨ (σ 2 t = 0 ∧ σ 0 1 = 7 ∧ r = -3 ∧ I' = I) ∨ (σ 2 t = 0 ∧ σ 0 1 < 7 ∧ r = σ 0 1 ∧ PM α U σ (addS σ (α 4 t) (σ 1 t) w) I I')))) Z P) := by
  have v0 := hV.1.1
  have v1 := hV.1.2.1
  have v2 := hV.1.2.2.1
  have v3 := hV.1.2.2.2.1
  have v4 := hV.1.2.2.2.2
  have w0 := hW.1
  have w1 := hW.2.1
  have w5 := hW.2.2.1
  have w10 := hW.2.2.2.1
  have hRT := hR.2.2.1
  have h10 : I 138 0 = σ 0 1 := hR.1
  have w7 := hWS.2.1
  refine Mt.of kmX12_letGo (ls := [vA 131, vI t, vI w]) (fun _ => rfl) (fun _ => rfl) (okf_k (okf_k (okf_k (okf_n rfl)))) (fun hok => ?_)
  refine ev_aload_0 0 dX12_letGo_0 ?_
  refine ev_iload_1 1 dX12_letGo_1 ?_
  refine ev_cVp_1 2 dX12_letGo_2 kmX12_isTown lk_X12_133 (kd_131 hM) (m_isTown hM hN hV hW _) rfl rfl ?_
  try simp only [h10, e1]
  refine ev_ifb_eq 5 20 dX12_letGo_5 rfl (fun h5 => ?_) (fun h5 => ?_)
  · refine ev_iconst 20 dX12_letGo_20 ⟨by decide, by decide⟩ ?_
    refine ev_iret 21 dX12_letGo_21 ?_ rfl
    exact QM_of (Or.inl ⟨by omega, rfl, rfl⟩)
  · refine ev_iload_2 8 dX12_letGo_8 ?_
    refine ev_i2l 9 dX12_letGo_9 ?_
    refine ev_lconst0 10 dX12_letGo_10 ?_
    refine ev_ldc2 11 dX12_letGo_11 kl_X12_95 ⟨by decide, by decide⟩ ?_
    refine ev_cSp_3 14 dX12_letGo_14 kmX12_in lk_X12_62 (m_in _ _ _) rfl rfl ?_
    try simp only [h10, e1]
    refine ev_ifb_ne 17 22 dX12_letGo_17 rfl (fun h17 => ?_) (fun h17 => ?_)
    · have e3 := hWS.2.2.2.1 t (by omega) (by omega)
      refine ev_aload_0 22 dX12_letGo_22 ?_
      refine ev_iload_1 23 dX12_letGo_23 ?_
      refine ev_cVp_1 24 dX12_letGo_24 kmX12_isCut lk_X12_165 (kd_131 hM) (m_isCut hM hN hV hW hRT (by omega) (by omega)) rfl rfl ?_
      try simp only [h10, e1]
      refine ev_ifb_ne 27 41 dX12_letGo_27 rfl (fun h27 => ?_) (fun h27 => ?_)
      · refine ev_aload_0 41 dX12_letGo_41 ?_
        refine ev_iload_1 42 dX12_letGo_42 ?_
        refine ev_cVp_1 43 dX12_letGo_43 kmX12_isCut lk_X12_165 (kd_131 hM) (m_isCut hM hN hV hW hRT (by omega) (by omega)) rfl rfl ?_
        try simp only [h10, e1]
        refine ev_ifb_eq 46 54 dX12_letGo_46 rfl (fun h46 => ?_) (fun h46 => ?_)
        · refine ev_bipush 54 dX12_letGo_54 ⟨by decide, by decide⟩ ?_
          refine ev_iret 56 dX12_letGo_56 ?_ rfl
          first
            | exact QM_of (Or.inr ⟨by omega, Or.inl ⟨by omega, rfl, rfl⟩⟩)
            | exact QM_of (Or.inr ⟨by omega, Or.inr (Or.inl ⟨by omega, by omega, rfl, rfl⟩)⟩)
            | (exfalso; omega)
        · refine ev_bipush 49 dX12_letGo_49 ⟨by decide, by decide⟩ ?_
          refine ev_goto 51 56 dX12_letGo_51 rfl ?_
          refine ev_iret 56 dX12_letGo_56 ?_ rfl
          first
            | exact QM_of (Or.inr ⟨by omega, Or.inl ⟨by omega, rfl, rfl⟩⟩)
            | exact QM_of (Or.inr ⟨by omega, Or.inr (Or.inl ⟨by omega, by omega, rfl, rfl⟩)⟩)
            | (exfalso; omega)
      · refine ev_aload_0 30 dX12_letGo_30 ?_
        refine ev_getA 31 8 dX12_letGo_31 fa_X12_29 (kd_131 hM) (pr_131_8 hN) rfl ?_
        refine ev_iconst 34 dX12_letGo_34 ⟨by decide, by decide⟩ ?_
        refine ev_iald 35 dX12_letGo_35 (kd_138 hM) ⟨by omega, by have := (ln_138 hM); omega⟩ ?_
        try simp only [h10, e1]
        refine ev_bipush 36 dX12_letGo_36 ⟨by decide, by decide⟩ ?_
        refine ev_jne 38 57 dX12_letGo_38 rfl (fun h38 => ?_) (fun h38 => ?_)
        · refine ev_aload_0 57 dX12_letGo_57 ?_
          refine ev_cVv_0 58 dX12_letGo_58 kmX12_known lk_X12_159 (kd_131 hM) (m_known hM hN hn) rfl rfl (fun I58 f58 => ?_)
          have p58 := KP.pm hW hR (by have := hWS.2.1; omega) hU hU7 f58
          have hV := hV.fr (p58.2.2.2.2.1 133 (by omega) (by omega)) (p58.2.2.2.2.1 134 (by omega) (by omega)) (p58.2.2.2.2.1 135 (by omega) (by omega)) (p58.2.2.2.2.1 136 (by omega) (by omega))
          have h10 : I58 138 (42 * 0) = σ 0 1 := p58.1.n (by omega)
          have e1 : I58 138 (29 + t) = σ 1 t := p58.1.2.2.1.x (by omega) (by omega) (by omega)
          have w7 := hWS.2.1
          refine ev_aload_0 61 dX12_letGo_61 ?_
          refine ev_iconst 62 dX12_letGo_62 ⟨by decide, by decide⟩ ?_
          refine ev_aload_0 63 dX12_letGo_63 ?_
          refine ev_iload_1 64 dX12_letGo_64 ?_
          refine ev_cVp_1 65 dX12_letGo_65 kmX12_levelOf lk_X12_127 (kd_131 hM) (m_levelOf hM hN hV hW (by omega)) rfl rfl ?_
          try simp only [h10, e1]
          refine ev_aload_0 68 dX12_letGo_68 ?_
          refine ev_getA 69 8 dX12_letGo_69 fa_X12_29 (kd_131 hM) (pr_131_8 hN) rfl ?_
          refine ev_bipush 72 dX12_letGo_72 ⟨by decide, by decide⟩ ?_
          refine ev_iload_1 74 dX12_letGo_74 ?_
          refine ev_iadd 75 dX12_letGo_75 ⟨by omega, by omega⟩ ?_
          refine ev_iald 76 dX12_letGo_76 (kd_138 hM) ⟨by omega, by have := (ln_138 hM); omega⟩ ?_
          try simp only [h10, e1]
          refine ev_iload_2 77 dX12_letGo_77 ?_
          refine ev_cVm_4 78 dX12_letGo_78 kmX12_more lk_X12_168 (kd_131 hM) (m_more hM hN (by omega) (by omega) _ _ _) rfl rfl (fun x78 I78 f78 => ?_)
          refine ev_iret 81 dX12_letGo_81 ?_ rfl
          refine QM_of (Or.inr ⟨by omega, Or.inr (Or.inr ⟨by omega, by omega, by omega, ?_⟩)⟩)
          rw [h10, show (42 * 0 : Int) = 0 by omega] at f78
          exact p58.w hW hn (by omega) hU7 (by rw [f78.2]; exact RS.more (by omega) p58.1) (fun a z => by rw [f78.2, moreI_f z]) (fun i z => by rw [f78.2, moreI_o (by omega) (by omega)])
        · refine ev_aload_0 41 dX12_letGo_41 ?_
          refine ev_iload_1 42 dX12_letGo_42 ?_
          refine ev_cVp_1 43 dX12_letGo_43 kmX12_isCut lk_X12_165 (kd_131 hM) (m_isCut hM hN hV hW hRT (by omega) (by omega)) rfl rfl ?_
          try simp only [h10, e1]
          refine ev_ifb_eq 46 54 dX12_letGo_46 rfl (fun h46 => ?_) (fun h46 => ?_)
          · refine ev_bipush 54 dX12_letGo_54 ⟨by decide, by decide⟩ ?_
            refine ev_iret 56 dX12_letGo_56 ?_ rfl
            first
              | exact QM_of (Or.inr ⟨by omega, Or.inl ⟨by omega, rfl, rfl⟩⟩)
              | exact QM_of (Or.inr ⟨by omega, Or.inr (Or.inl ⟨by omega, by omega, rfl, rfl⟩)⟩)
              | (exfalso; omega)
          · refine ev_bipush 49 dX12_letGo_49 ⟨by decide, by decide⟩ ?_
            refine ev_goto 51 56 dX12_letGo_51 rfl ?_
            refine ev_iret 56 dX12_letGo_56 ?_ rfl
            first
              | exact QM_of (Or.inr ⟨by omega, Or.inl ⟨by omega, rfl, rfl⟩⟩)
              | exact QM_of (Or.inr ⟨by omega, Or.inr (Or.inl ⟨by omega, by omega, rfl, rfl⟩)⟩)
              | (exfalso; omega)
    · refine ev_iconst 20 dX12_letGo_20 ⟨by decide, by decide⟩ ?_
      refine ev_iret 21 dX12_letGo_21 ?_ rfl
      exact QM_of (Or.inl ⟨by omega, rfl, rfl⟩)
theorem m_hang {l : Launch} {g : Gt} {d : Nat} {Z : Zt} {I : It} {P : Pt'} (hM : LayM Z) (hN : LayQ P) {α : Nat → Int → Int} (hV : VM I α) (hW : WF α) {σ : Nat → Int → Int} (hR : RS 0 I α σ) (hWS : WS α σ) {U : Int → Nat → Int → Int} (hn : 0 ≤ I 131 10 ∧ I 131 10 ≤ 8) (hU : ∀ k, 0 ≤ k → k < I 131 10 → RS (42 * (3 + k)) I α (U k)) (hU7 : ∀ k, 0 ≤ k → k < I 131 10 → U k 0 1 ≤ 7) (t x : Int) : Mt l g mX12_hang (d + 2) 0 0 [vA 131, vI t, vI x] Z I P (QM (fun r I' => (¬ ((0 ≤ t ∧ t < α 0 5) ∧ (0 ≤ x ∧ x < α 0 0)) ∧ r = -1 ∧ I' = I) ∨ (((0 ≤ t ∧ t < α 0 5) ∧ (0 ≤ x ∧ x < α 0 0)) ∧ ((¬ (σ 2 t = 0 ∧ ¬ mkt α (24 * α 4 t + x) ∧ tAt (α 4) (σ 1) (σ 2) (α 4 t) x (-1) (α 0 5).toNat 0 = -4) ∧ r = -2 ∧ I' = I) ∨ ((σ 2 t = 0 ∧ ¬ mkt α (24 * α 4 t + x) ∧ tAt (α 4) (σ 1) (σ 2) (α 4 t) x (-1) (α 0 5).toNat 0 = -4) ∧ r = σ 1 t ∧ PM α U σ (hangS σ t x) I I')))) Z P) := by
  have v0 := hV.1.1
  have v1 := hV.1.2.1
  have v2 := hV.1.2.2.1
  have v3 := hV.1.2.2.2.1
  have v4 := hV.1.2.2.2.2
  have w0 := hW.1
  have w1 := hW.2.1
  have w5 := hW.2.2.1
  have w10 := hW.2.2.2.1
  have hRT := hR.2.2.1
  have w7 := hWS.2.1
  refine Mt.of kmX12_hang (ls := [vA 131, vI t, vI x, vX]) (fun _ => rfl) (fun _ => rfl) (okf_k (okf_k (okf_k (okf_n rfl)))) (fun hok => ?_)
  refine ev_aload_0 0 dX12_hang_0 ?_
  refine ev_iload_1 1 dX12_hang_1 ?_
  refine ev_cVp_1 2 dX12_hang_2 kmX12_isTown lk_X12_133 (kd_131 hM) (m_isTown hM hN hV hW _) rfl rfl ?_
  try simp only [e1]
  refine ev_ifb_eq 5 16 dX12_hang_5 rfl (fun h5 => ?_) (fun h5 => ?_)
  · refine ev_iconst 16 dX12_hang_16 ⟨by decide, by decide⟩ ?_
    refine ev_iret 17 dX12_hang_17 ?_ rfl
    exact QM_of (Or.inl ⟨by omega, rfl, rfl⟩)
  · refine ev_aload_0 8 dX12_hang_8 ?_
    refine ev_iload_2 9 dX12_hang_9 ?_
    refine ev_cVp_1 10 dX12_hang_10 kmX12_isPlace lk_X12_172 (kd_131 hM) (m_isPlace hM hN hV hW _) rfl rfl ?_
    try simp only [e1]
    refine ev_ifb_ne 13 18 dX12_hang_13 rfl (fun h13 => ?_) (fun h13 => ?_)
    · have e3 := hWS.2.2.2.1 t (by omega) (by omega)
      have tb := tAt_b (σ := σ) hW (α 4 t) x (-4)
      have tr := tAt_r (α 4) (σ 1) (σ 2) (α 4 t) x (-4) (α 0 5).toNat 0 (by omega)
      have te : tAt (α 4) (σ 1) (σ 2) (α 4 t) x (-1) (α 0 5).toNat 0 = tAt (α 4) (σ 1) (σ 2) (α 4 t) x (-4) (α 0 5).toNat 0 := tAt_n (by omega) (by omega) _ _ (by omega)
      refine ev_aload_0 18 dX12_hang_18 ?_
      refine ev_iload_1 19 dX12_hang_19 ?_
      refine ev_cVp_1 20 dX12_hang_20 kmX12_isCut lk_X12_165 (kd_131 hM) (m_isCut hM hN hV hW hRT (by omega) (by omega)) rfl rfl ?_
      try simp only [e1]
      refine ev_ifb_ne 23 53 dX12_hang_23 rfl (fun h23 => ?_) (fun h23 => ?_)
      · refine ev_bipush 53 dX12_hang_53 ⟨by decide, by decide⟩ ?_
        refine ev_iret 55 dX12_hang_55 ?_ rfl
        first
          | exact QM_of (Or.inr ⟨by omega, Or.inl ⟨fun z => by have z1 := z.1; omega, rfl, rfl⟩⟩)
          | exact QM_of (Or.inr ⟨by omega, Or.inl ⟨fun z => by have z1 := z.2.2; omega, rfl, rfl⟩⟩)
          | exact QM_of (Or.inr ⟨by omega, Or.inl ⟨fun z => z.2.1 (by assumption), rfl, rfl⟩⟩)
      · refine ev_aload_0 26 dX12_hang_26 ?_
        refine ev_iconst 27 dX12_hang_27 ⟨by decide, by decide⟩ ?_
        refine ev_aload_0 28 dX12_hang_28 ?_
        refine ev_iload_1 29 dX12_hang_29 ?_
        refine ev_cVp_1 30 dX12_hang_30 kmX12_levelOf lk_X12_127 (kd_131 hM) (m_levelOf hM hN hV hW (by omega)) rfl rfl ?_
        try simp only [e1]
        refine ev_iload_2 33 dX12_hang_33 ?_
        refine ev_cVp_3 34 dX12_hang_34 kmX12_townAt lk_X12_151 (kd_131 hM) (m_townAt hM hN hV hW (by omega) hRT.z _ _) rfl rfl ?_
        try simp only [e1]
        refine ev_if_ge 37 53 dX12_hang_37 rfl (fun h37 => ?_) (fun h37 => ?_)
        · refine ev_bipush 53 dX12_hang_53 ⟨by decide, by decide⟩ ?_
          refine ev_iret 55 dX12_hang_55 ?_ rfl
          first
            | exact QM_of (Or.inr ⟨by omega, Or.inl ⟨fun z => by have z1 := z.1; omega, rfl, rfl⟩⟩)
            | exact QM_of (Or.inr ⟨by omega, Or.inl ⟨fun z => by have z1 := z.2.2; omega, rfl, rfl⟩⟩)
            | exact QM_of (Or.inr ⟨by omega, Or.inl ⟨fun z => z.2.1 (by assumption), rfl, rfl⟩⟩)
        · refine ev_aload_0 40 dX12_hang_40 ?_
          refine ev_aload_0 41 dX12_hang_41 ?_
          refine ev_iload_1 42 dX12_hang_42 ?_
          refine ev_cVp_1 43 dX12_hang_43 kmX12_levelOf lk_X12_127 (kd_131 hM) (m_levelOf hM hN hV hW (by omega)) rfl rfl ?_
          try simp only [e1]
          refine ev_iload_2 46 dX12_hang_46 ?_
          refine ev_cVp_2 47 dX12_hang_47 kmX12_isMarket lk_X12_175 (kd_131 hM) (m_isMarket hM hN hV hW _ (by omega)) rfl rfl ?_
          try simp only [e1]
          refine ev_ifb_eq 50 56 dX12_hang_50 rfl (fun h50 => ?_) (fun h50 => ?_)
          · refine ev_aload_0 56 dX12_hang_56 ?_
            refine ev_cVv_0 57 dX12_hang_57 kmX12_known lk_X12_159 (kd_131 hM) (m_known hM hN hn) rfl rfl (fun I57 f57 => ?_)
            have p57 := KP.pm hW hR (by have := hWS.2.1; omega) hU hU7 f57
            have hV := hV.fr (p57.2.2.2.2.1 133 (by omega) (by omega)) (p57.2.2.2.2.1 134 (by omega) (by omega)) (p57.2.2.2.2.1 135 (by omega) (by omega)) (p57.2.2.2.2.1 136 (by omega) (by omega))
            have h10 : I57 138 (42 * 0) = σ 0 1 := p57.1.n (by omega)
            have e1 : I57 138 (29 + t) = σ 1 t := p57.1.2.2.1.x (by omega) (by omega) (by omega)
            have w7 := hWS.2.1
            refine ev_aload_0 60 dX12_hang_60 ?_
            refine ev_getA 61 8 dX12_hang_61 fa_X12_29 (kd_131 hM) (pr_131_8 hN) rfl ?_
            refine ev_bipush 64 dX12_hang_64 ⟨by decide, by decide⟩ ?_
            refine ev_iload_1 66 dX12_hang_66 ?_
            refine ev_iadd 67 dX12_hang_67 ⟨by omega, by omega⟩ ?_
            refine ev_iald 68 dX12_hang_68 (kd_138 hM) ⟨by omega, by have := (ln_138 hM); omega⟩ ?_
            try simp only [e1]
            refine ev_istore_3 69 dX12_hang_69 rfl rfl ?_
            refine ev_aload_0 70 dX12_hang_70 ?_
            refine ev_getA 71 8 dX12_hang_71 fa_X12_29 (kd_131 hM) (pr_131_8 hN) rfl ?_
            refine ev_bipush 74 dX12_hang_74 ⟨by decide, by decide⟩ ?_
            refine ev_iload_1 76 dX12_hang_76 ?_
            refine ev_iadd 77 dX12_hang_77 ⟨by omega, by omega⟩ ?_
            refine ev_iload_2 78 dX12_hang_78 ?_
            refine ev_iast 79 dX12_hang_79 (kd_138 hM) ⟨by omega, by have := (ln_138 hM); omega⟩ ?_
            refine ev_iload_3 80 dX12_hang_80 ?_
            refine ev_iret 81 dX12_hang_81 ?_ rfl
            refine QM_of (Or.inr ⟨by omega, Or.inr ⟨⟨by omega, by assumption, by omega⟩, rfl, ?_⟩⟩)
            have hh := RS.hang (x := x) (t := t) (by omega) (by omega) (by omega) p57.1
            rw [show (0 : Int) + 29 + t = 29 + t by omega] at hh
            exact p57.w hW hn (by omega) hU7 hh (fun a z => upI_A z) (fun i z => upI_k (by omega))
          · refine ev_bipush 53 dX12_hang_53 ⟨by decide, by decide⟩ ?_
            refine ev_iret 55 dX12_hang_55 ?_ rfl
            first
              | exact QM_of (Or.inr ⟨by omega, Or.inl ⟨fun z => by have z1 := z.1; omega, rfl, rfl⟩⟩)
              | exact QM_of (Or.inr ⟨by omega, Or.inl ⟨fun z => by have z1 := z.2.2; omega, rfl, rfl⟩⟩)
              | exact QM_of (Or.inr ⟨by omega, Or.inl ⟨fun z => z.2.1 (by assumption), rfl, rfl⟩⟩)
    · refine ev_iconst 16 dX12_hang_16 ⟨by decide, by decide⟩ ?_
      refine ev_iret 17 dX12_hang_17 ?_ rfl
      exact QM_of (Or.inl ⟨by omega, rfl, rfl⟩)
theorem m_cut {l : Launch} {g : Gt} {d : Nat} {Z : Zt} {I : It} {P : Pt'} (hM : LayM Z) (hN : LayQ P) {α : Nat → Int → Int} (hV : VM I α) (hW : WF α) {σ : Nat → Int → Int} (hR : RS 0 I α σ) (hWS : WS α σ) {U : Int → Nat → Int → Int} (hn : 0 ≤ I 131 10 ∧ I 131 10 ≤ 8) (hU : ∀ k, 0 ≤ k → k < I 131 10 → RS (42 * (3 + k)) I α (U k)) (hU7 : ∀ k, 0 ≤ k → k < I 131 10 → U k 0 1 ≤ 7) (hca : CA α σ) (t : Int) : Mt l g mX12_cut (d + 2) 0 0 [vA 131, vI t] Z I P (QM (fun r I' => (¬ (0 ≤ t ∧ t < α 0 5) ∧ r = -1 ∧ I' = I) ∨ ((0 ≤ t ∧ t < α 0 5) ∧ ((σ 2 t ≠ 0 ∧ r = -2 ∧ I' = I) ∨ (σ 2 t = 0 ∧ σ 0 1 = 7 ∧ r = -3 ∧ I' = I) ∨ (σ 2 t = 0 ∧ σ 0 1 < 7 ∧ r = σ 0 1 ∧ PM α U σ (addS (cutS σ t) (α 4 t) (σ 1 t) 9) I I')))) Z P) := by
  have v0 := hV.1.1
  have v1 := hV.1.2.1
  have v2 := hV.1.2.2.1
  have v3 := hV.1.2.2.2.1
  have v4 := hV.1.2.2.2.2
  have w0 := hW.1
  have w1 := hW.2.1
  have w5 := hW.2.2.1
  have w10 := hW.2.2.2.1
  have hRT := hR.2.2.1
  have h10 : I 138 0 = σ 0 1 := hR.1
  have w7 := hWS.2.1
  refine Mt.of kmX12_cut (ls := [vA 131, vI t, vX]) (fun _ => rfl) (fun _ => rfl) (okf_k (okf_k (okf_n rfl))) (fun hok => ?_)
  have loop : ((0 ≤ t ∧ t < α 0 5) ∧ σ 2 t = 0 ∧ σ 0 1 < 7) → ∀ (I0 : It), PM α U σ σ I I0 → ∀ (r : Nat) (i : Int) (J : It), 0 ≤ i → i + r = σ 0 1 → (∀ a, a ≠ 138 → J a = I0 a) → (∀ i, (i < 8 ∨ (15 ≤ i ∧ i < 22) ∨ 29 ≤ i) → J 138 i = upI I0 138 (35 + t) 1 138 i) → (∀ j, 0 ≤ j → j < σ 0 1 → J 138 (22 + j) = (if j < i then cg (cutS σ t 6 j) else cg (σ 6 j)) ∧ ((if j < i then cutS σ t 6 j else σ 6 j) = -4 → J 138 (8 + j) = σ 4 j)) → Ev l g mX12_cut (d + 2) 0 0 Z J P 61 [vA 131, vI t, vI i] [] (QM (fun r I' => (¬ (0 ≤ t ∧ t < α 0 5) ∧ r = -1 ∧ I' = I) ∨ ((0 ≤ t ∧ t < α 0 5) ∧ ((σ 2 t ≠ 0 ∧ r = -2 ∧ I' = I) ∨ (σ 2 t = 0 ∧ σ 0 1 = 7 ∧ r = -3 ∧ I' = I) ∨ (σ 2 t = 0 ∧ σ 0 1 < 7 ∧ r = σ 0 1 ∧ PM α U σ (addS (cutS σ t) (α 4 t) (σ 1 t) 9) I I')))) Z P) := by
    intro hg I0 p0 r
    have hx0 : I0 138 (29 + t) = σ 1 t := p0.1.2.2.1.x (by omega) (by omega) (by omega)
    have hn0 : I0 138 0 = σ 0 1 := p0.1.1
    induction r with
    | zero =>
      intro i J h0 h1 q1 q2 q3
      have hV := hV.fr ((q1 133 (by omega)).trans (p0.2.2.2.2.1 133 (by omega) (by omega))) ((q1 134 (by omega)).trans (p0.2.2.2.2.1 134 (by omega) (by omega))) ((q1 135 (by omega)).trans (p0.2.2.2.2.1 135 (by omega) (by omega))) ((q1 136 (by omega)).trans (p0.2.2.2.2.1 136 (by omega) (by omega)))
      have c01 : cutS σ t 0 1 = σ 0 1 := by simp [cutS]
      have jn : J 138 0 = σ 0 1 := by rw [q2 0 (by omega), upI_k (by omega)]; exact hn0
      have jz : J 138 (42 * 0) = σ 0 1 := by rw [show (42 * 0 : Int) = 0 by omega]; exact jn
      have jx : J 138 (29 + t) = σ 1 t := by rw [q2 _ (by omega), upI_k (by omega)]; exact hx0
      have hRJ : RS 0 J α (cutS σ t) := by
        refine ⟨jn.trans c01.symm, by rw [q2 _ (by omega), upI_k (by omega), p0.1.2.1]; simp [cutS], fun u c e => ?_, fun j c e => ?_⟩
        · obtain ⟨r1, r2⟩ := p0.1.2.2.1 u c e
          rw [q2 _ (by omega), q2 _ (by omega), upI_k (by omega)]
          by_cases z : u = t
          · subst z; rw [show (0 : Int) + 35 + u = 35 + u by omega, upI_s]; exact ⟨by simpa [cutS] using r1, by simp [cutS]⟩
          · rw [upI_k (by omega)]; exact ⟨by simpa [cutS] using r1, by simpa [cutS, z] using r2⟩
        · rw [c01] at e
          obtain ⟨r1, r2, r3, r4⟩ := p0.1.2.2.2 j c e
          obtain ⟨z1, z2⟩ := q3 j c e
          rw [if_pos (by omega)] at z1 z2
          rw [q2 _ (by omega), q2 _ (by omega), upI_k (by omega), upI_k (by omega), show (0 : Int) + 22 + j = 22 + j by omega, show (0 : Int) + 8 + j = 8 + j by omega]
          exact ⟨by simpa [cutS] using r1, by simpa [cutS] using r2, z1, fun y => by have := z2 y; simpa [cutS] using this⟩
      refine ev_iload_2 61 dX12_cut_61 ?_
      refine ev_aload_0 62 dX12_cut_62 ?_
      refine ev_getA 63 8 dX12_cut_63 fa_X12_29 (kd_131 hM) (pr_131_8 hN) rfl ?_
      refine ev_iconst 66 dX12_cut_66 ⟨by decide, by decide⟩ ?_
      refine ev_iald 67 dX12_cut_67 (kd_138 hM) ⟨by omega, by have := (ln_138 hM); omega⟩ ?_
      try simp only [jn, jx]
      refine ev_icmp_ge 68 120 dX12_cut_68 rfl (fun h68 => ?_) (fun h68 => ?_)
      · refine ev_aload_0 120 dX12_cut_120 ?_
        refine ev_iconst 121 dX12_cut_121 ⟨by decide, by decide⟩ ?_
        refine ev_aload_0 122 dX12_cut_122 ?_
        refine ev_iload_1 123 dX12_cut_123 ?_
        refine ev_cVp_1 124 dX12_cut_124 kmX12_levelOf lk_X12_127 (kd_131 hM) (m_levelOf hM hN hV hW (by omega)) rfl rfl ?_
        try simp only [jn, jx]
        refine ev_aload_0 127 dX12_cut_127 ?_
        refine ev_getA 128 8 dX12_cut_128 fa_X12_29 (kd_131 hM) (pr_131_8 hN) rfl ?_
        refine ev_bipush 131 dX12_cut_131 ⟨by decide, by decide⟩ ?_
        refine ev_iload_1 133 dX12_cut_133 ?_
        refine ev_iadd 134 dX12_cut_134 ⟨by omega, by omega⟩ ?_
        refine ev_iald 135 dX12_cut_135 (kd_138 hM) ⟨by omega, by have := (ln_138 hM); omega⟩ ?_
        try simp only [jn, jx]
        refine ev_bipush 136 dX12_cut_136 ⟨by decide, by decide⟩ ?_
        refine ev_cVm_4 138 dX12_cut_138 kmX12_more lk_X12_168 (kd_131 hM) (m_more hM hN (by omega) (by omega) _ _ _) rfl rfl (fun x138 I138 f138 => ?_)
        refine ev_iret 141 dX12_cut_141 ?_ rfl
        refine QM_of (Or.inr ⟨by omega, Or.inr (Or.inr ⟨by omega, by omega, by omega, ?_⟩)⟩)
        rw [jz, show (42 * 0 : Int) = 0 by omega] at f138
        have hm := RS.more (a := α 4 t) (x := σ 1 t) (w := 9) (by rw [c01]; omega) hRJ
        rw [c01] at hm
        exact p0.w hW hn (by omega) hU7 (by rw [f138.2]; exact hm) (fun a z => by rw [f138.2, moreI_f z]; exact q1 a z) (fun i z => by rw [f138.2, moreI_o (by omega) (by omega), q2 i (by omega), upI_k (by omega)])
      · exfalso; omega
    | succ r ih =>
      intro i J h0 h1 q1 q2 q3
      have jn : J 138 0 = σ 0 1 := by rw [q2 0 (by omega), upI_k (by omega)]; exact hn0
      have jx : J 138 (29 + t) = σ 1 t := by rw [q2 _ (by omega), upI_k (by omega)]; exact hx0
      obtain ⟨z1, z2⟩ := q3 i h0 (by omega)
      rw [if_neg (by omega)] at z1 z2
      have cr := cg_r (σ 6 i)
      have ca := hca i h0 (by omega)
      have cu : cutS σ t 6 i = if σ 6 i = t then -4 else σ 6 i := by unfold cutS; rw [if_neg (by omega)]; simp
      refine ev_iload_2 61 dX12_cut_61 ?_
      refine ev_aload_0 62 dX12_cut_62 ?_
      refine ev_getA 63 8 dX12_cut_63 fa_X12_29 (kd_131 hM) (pr_131_8 hN) rfl ?_
      refine ev_iconst 66 dX12_cut_66 ⟨by decide, by decide⟩ ?_
      refine ev_iald 67 dX12_cut_67 (kd_138 hM) ⟨by omega, by have := (ln_138 hM); omega⟩ ?_
      try simp only [jn, jx, z1]
      refine ev_icmp_ge 68 120 dX12_cut_68 rfl (fun h68 => ?_) (fun h68 => ?_)
      · exfalso; omega
      · refine ev_aload_0 71 dX12_cut_71 ?_
        refine ev_getA 72 8 dX12_cut_72 fa_X12_29 (kd_131 hM) (pr_131_8 hN) rfl ?_
        refine ev_bipush 75 dX12_cut_75 ⟨by decide, by decide⟩ ?_
        refine ev_iload_2 77 dX12_cut_77 ?_
        refine ev_iadd 78 dX12_cut_78 ⟨by omega, by omega⟩ ?_
        refine ev_iald 79 dX12_cut_79 (kd_138 hM) ⟨by omega, by have := (ln_138 hM); omega⟩ ?_
        try simp only [jn, jx, z1]
        refine ev_iload_1 80 dX12_cut_80 ?_
        refine ev_iconst 81 dX12_cut_81 ⟨by decide, by decide⟩ ?_
        refine ev_iadd 82 dX12_cut_82 ⟨by omega, by omega⟩ ?_
        refine ev_jne 83 114 dX12_cut_83 rfl (fun h83 => ?_) (fun h83 => ?_)
        · refine ev_iinc_2 114 dX12_cut_114 ⟨by omega, by omega⟩ rfl rfl ?_
          refine ev_goto 117 61 dX12_cut_117 rfl ?_
          first
            | (refine ih (i + 1) _ (by omega) (by omega) q1 q2 (fun j a b => ?_)
               by_cases y : j = i
               · subst y
                 rw [if_pos (by omega), if_pos (by omega), cu, if_neg (by omega)]; exact ⟨z1, z2⟩
               · obtain ⟨y1, y2⟩ := q3 j a b
                 by_cases x : j < i
                 · rw [if_pos x] at y1 y2; rw [if_pos (by omega), if_pos (by omega)]; exact ⟨y1, y2⟩
                 · rw [if_neg x] at y1 y2; rw [if_neg (by omega), if_neg (by omega)]; exact ⟨y1, y2⟩)
            | (have c6 : σ 6 i = t := by omega
               refine ih (i + 1) _ (by omega) (by omega) (fun a z => by rw [upI_A z, upI_A z]; exact q1 a z) (fun k z => by rw [upI_k (by omega), upI_k (by omega)]; exact q2 k z) (fun j a b => ?_)
               by_cases y : j = i
               · subst y
                 rw [if_pos (by omega), if_pos (by omega), cu, if_pos c6, upI_k (by omega), upI_s, upI_s]
                 exact ⟨by simp [cg], fun _ => by rw [(ca (by omega)).2, c6]⟩
               · obtain ⟨y1, y2⟩ := q3 j a b
                 rw [upI_k (by omega), upI_k (by omega), upI_k (by omega), upI_k (by omega)]
                 by_cases x : j < i
                 · rw [if_pos x] at y1 y2; rw [if_pos (by omega), if_pos (by omega)]; exact ⟨y1, y2⟩
                 · rw [if_neg x] at y1 y2; rw [if_neg (by omega), if_neg (by omega)]; exact ⟨y1, y2⟩)
        · refine ev_aload_0 86 dX12_cut_86 ?_
          refine ev_getA 87 8 dX12_cut_87 fa_X12_29 (kd_131 hM) (pr_131_8 hN) rfl ?_
          refine ev_bipush 90 dX12_cut_90 ⟨by decide, by decide⟩ ?_
          refine ev_iload_2 92 dX12_cut_92 ?_
          refine ev_iadd 93 dX12_cut_93 ⟨by omega, by omega⟩ ?_
          refine ev_iconst 94 dX12_cut_94 ⟨by decide, by decide⟩ ?_
          refine ev_iast 95 dX12_cut_95 (kd_138 hM) ⟨by omega, by have := (ln_138 hM); omega⟩ ?_
          refine ev_aload_0 96 dX12_cut_96 ?_
          refine ev_getA 97 8 dX12_cut_97 fa_X12_29 (kd_131 hM) (pr_131_8 hN) rfl ?_
          refine ev_bipush 100 dX12_cut_100 ⟨by decide, by decide⟩ ?_
          refine ev_iload_2 102 dX12_cut_102 ?_
          refine ev_iadd 103 dX12_cut_103 ⟨by omega, by omega⟩ ?_
          refine ev_aload_0 104 dX12_cut_104 ?_
          refine ev_getA 105 8 dX12_cut_105 fa_X12_29 (kd_131 hM) (pr_131_8 hN) rfl ?_
          refine ev_bipush 108 dX12_cut_108 ⟨by decide, by decide⟩ ?_
          refine ev_iload_1 110 dX12_cut_110 ?_
          refine ev_iadd 111 dX12_cut_111 ⟨by omega, by omega⟩ ?_
          refine ev_iald 112 dX12_cut_112 (kd_138 hM) ⟨by omega, by have := (ln_138 hM); omega⟩ ?_
          try simp (disch := omega) only [upI_s, upI_a, upI_k]
          try simp only [jn, jx, z1]
          refine ev_iast 113 dX12_cut_113 (kd_138 hM) ⟨by omega, by have := (ln_138 hM); omega⟩ ?_
          refine ev_iinc_2 114 dX12_cut_114 ⟨by omega, by omega⟩ rfl rfl ?_
          refine ev_goto 117 61 dX12_cut_117 rfl ?_
          first
            | (refine ih (i + 1) _ (by omega) (by omega) q1 q2 (fun j a b => ?_)
               by_cases y : j = i
               · subst y
                 rw [if_pos (by omega), if_pos (by omega), cu, if_neg (by omega)]; exact ⟨z1, z2⟩
               · obtain ⟨y1, y2⟩ := q3 j a b
                 by_cases x : j < i
                 · rw [if_pos x] at y1 y2; rw [if_pos (by omega), if_pos (by omega)]; exact ⟨y1, y2⟩
                 · rw [if_neg x] at y1 y2; rw [if_neg (by omega), if_neg (by omega)]; exact ⟨y1, y2⟩)
            | (have c6 : σ 6 i = t := by omega
               refine ih (i + 1) _ (by omega) (by omega) (fun a z => by rw [upI_A z, upI_A z]; exact q1 a z) (fun k z => by rw [upI_k (by omega), upI_k (by omega)]; exact q2 k z) (fun j a b => ?_)
               by_cases y : j = i
               · subst y
                 rw [if_pos (by omega), if_pos (by omega), cu, if_pos c6, upI_k (by omega), upI_s, upI_s]
                 exact ⟨by simp [cg], fun _ => by rw [(ca (by omega)).2, c6]⟩
               · obtain ⟨y1, y2⟩ := q3 j a b
                 rw [upI_k (by omega), upI_k (by omega), upI_k (by omega), upI_k (by omega)]
                 by_cases x : j < i
                 · rw [if_pos x] at y1 y2; rw [if_pos (by omega), if_pos (by omega)]; exact ⟨y1, y2⟩
                 · rw [if_neg x] at y1 y2; rw [if_neg (by omega), if_neg (by omega)]; exact ⟨y1, y2⟩)
  refine ev_aload_0 0 dX12_cut_0 ?_
  refine ev_iload_1 1 dX12_cut_1 ?_
  refine ev_cVp_1 2 dX12_cut_2 kmX12_isTown lk_X12_133 (kd_131 hM) (m_isTown hM hN hV hW _) rfl rfl ?_
  try simp only [h10]
  refine ev_ifb_ne 5 10 dX12_cut_5 rfl (fun h5 => ?_) (fun h5 => ?_)
  · have e3 := hWS.2.2.2.1 t (by omega) (by omega)
    refine ev_aload_0 10 dX12_cut_10 ?_
    refine ev_iload_1 11 dX12_cut_11 ?_
    refine ev_cVp_1 12 dX12_cut_12 kmX12_isCut lk_X12_165 (kd_131 hM) (m_isCut hM hN hV hW hRT (by omega) (by omega)) rfl rfl ?_
    try simp only [h10]
    refine ev_ifb_ne 15 29 dX12_cut_15 rfl (fun h15 => ?_) (fun h15 => ?_)
    · refine ev_aload_0 29 dX12_cut_29 ?_
      refine ev_iload_1 30 dX12_cut_30 ?_
      refine ev_cVp_1 31 dX12_cut_31 kmX12_isCut lk_X12_165 (kd_131 hM) (m_isCut hM hN hV hW hRT (by omega) (by omega)) rfl rfl ?_
      try simp only [h10]
      refine ev_ifb_eq 34 42 dX12_cut_34 rfl (fun h34 => ?_) (fun h34 => ?_)
      · refine ev_bipush 42 dX12_cut_42 ⟨by decide, by decide⟩ ?_
        refine ev_iret 44 dX12_cut_44 ?_ rfl
        first
          | exact QM_of (Or.inr ⟨by omega, Or.inl ⟨by omega, rfl, rfl⟩⟩)
          | exact QM_of (Or.inr ⟨by omega, Or.inr (Or.inl ⟨by omega, by omega, rfl, rfl⟩)⟩)
          | (exfalso; omega)
      · refine ev_bipush 37 dX12_cut_37 ⟨by decide, by decide⟩ ?_
        refine ev_goto 39 44 dX12_cut_39 rfl ?_
        refine ev_iret 44 dX12_cut_44 ?_ rfl
        first
          | exact QM_of (Or.inr ⟨by omega, Or.inl ⟨by omega, rfl, rfl⟩⟩)
          | exact QM_of (Or.inr ⟨by omega, Or.inr (Or.inl ⟨by omega, by omega, rfl, rfl⟩)⟩)
          | (exfalso; omega)
    · refine ev_aload_0 18 dX12_cut_18 ?_
      refine ev_getA 19 8 dX12_cut_19 fa_X12_29 (kd_131 hM) (pr_131_8 hN) rfl ?_
      refine ev_iconst 22 dX12_cut_22 ⟨by decide, by decide⟩ ?_
      refine ev_iald 23 dX12_cut_23 (kd_138 hM) ⟨by omega, by have := (ln_138 hM); omega⟩ ?_
      try simp only [h10]
      refine ev_bipush 24 dX12_cut_24 ⟨by decide, by decide⟩ ?_
      refine ev_jne 26 45 dX12_cut_26 rfl (fun h26 => ?_) (fun h26 => ?_)
      · refine ev_aload_0 45 dX12_cut_45 ?_
        refine ev_cVv_0 46 dX12_cut_46 kmX12_known lk_X12_159 (kd_131 hM) (m_known hM hN hn) rfl rfl (fun I46 f46 => ?_)
        have p46 := KP.pm hW hR (by omega) hU hU7 f46
        refine ev_aload_0 49 dX12_cut_49 ?_
        refine ev_getA 50 8 dX12_cut_50 fa_X12_29 (kd_131 hM) (pr_131_8 hN) rfl ?_
        refine ev_bipush 53 dX12_cut_53 ⟨by decide, by decide⟩ ?_
        refine ev_iload_1 55 dX12_cut_55 ?_
        refine ev_iadd 56 dX12_cut_56 ⟨by omega, by omega⟩ ?_
        refine ev_iconst 57 dX12_cut_57 ⟨by decide, by decide⟩ ?_
        refine ev_iast 58 dX12_cut_58 (kd_138 hM) ⟨by omega, by have := (ln_138 hM); omega⟩ ?_
        refine ev_iconst 59 dX12_cut_59 ⟨by decide, by decide⟩ ?_
        refine ev_istore_2 60 dX12_cut_60 rfl rfl ?_
        refine loop ⟨by omega, by omega, by omega⟩ I46 p46 (σ 0 1).toNat 0 _ (by omega) (by omega) (fun a z => upI_A z) (fun i z => rfl) (fun j a b => ?_)
        rw [if_neg (by omega), if_neg (by omega), upI_k (by omega), upI_k (by omega)]
        exact ⟨p46.1.b a b (by omega), fun y => p46.1.p a b (by omega) y⟩
      · refine ev_aload_0 29 dX12_cut_29 ?_
        refine ev_iload_1 30 dX12_cut_30 ?_
        refine ev_cVp_1 31 dX12_cut_31 kmX12_isCut lk_X12_165 (kd_131 hM) (m_isCut hM hN hV hW hRT (by omega) (by omega)) rfl rfl ?_
        try simp (disch := omega) only [upI_s, upI_a, upI_k]
        try simp only [h10]
        refine ev_ifb_eq 34 42 dX12_cut_34 rfl (fun h34 => ?_) (fun h34 => ?_)
        · refine ev_bipush 42 dX12_cut_42 ⟨by decide, by decide⟩ ?_
          refine ev_iret 44 dX12_cut_44 ?_ rfl
          first
            | exact QM_of (Or.inr ⟨by omega, Or.inl ⟨by omega, rfl, rfl⟩⟩)
            | exact QM_of (Or.inr ⟨by omega, Or.inr (Or.inl ⟨by omega, by omega, rfl, rfl⟩)⟩)
            | (exfalso; omega)
        · refine ev_bipush 37 dX12_cut_37 ⟨by decide, by decide⟩ ?_
          refine ev_goto 39 44 dX12_cut_39 rfl ?_
          refine ev_iret 44 dX12_cut_44 ?_ rfl
          first
            | exact QM_of (Or.inr ⟨by omega, Or.inl ⟨by omega, rfl, rfl⟩⟩)
            | exact QM_of (Or.inr ⟨by omega, Or.inr (Or.inl ⟨by omega, by omega, rfl, rfl⟩)⟩)
            | (exfalso; omega)
  · refine ev_iconst 8 dX12_cut_8 ⟨by decide, by decide⟩ ?_
    refine ev_iret 9 dX12_cut_9 ?_ rfl
    exact QM_of (Or.inl ⟨by omega, rfl, rfl⟩)
theorem m_undo {l : Launch} {g : Gt} {d : Nat} {Z : Zt} {I : It} {P : Pt'} (hM : LayM Z) (hN : LayQ P) (hn : 0 ≤ I 131 10 ∧ I 131 10 ≤ 8) : Mt l g mX12_undo (d + 1) 0 0 [vA 131] Z I P (QM (fun r I' => (I 131 10 = 0 ∧ r = -2 ∧ I' = I) ∨ (1 ≤ I 131 10 ∧ r = I 131 10 - 1 ∧ I' = cpN (upI I 131 10 (I 131 10 - 1)) (3 + (I 131 10 - 1)) 0 42)) Z P) := by
  refine Mt.of kmX12_undo (ls := [vA 131]) (fun _ => rfl) (fun _ => rfl) (okf_k (okf_n rfl)) (fun hok => ?_)
  refine ev_aload_0 0 dX12_undo_0 ?_
  refine ev_gI 1 10 10 dX12_undo_1 fa_X12_111 (kd_131 hM) rfl rfl rfl ?_
  try simp only [e9]
  refine ev_zne 4 10 dX12_undo_4 rfl (fun h4 => ?_) (fun h4 => ?_)
  · refine ev_aload_0 10 dX12_undo_10 ?_
    refine ev_dupA 11 dX12_undo_11 ?_
    refine ev_gI 12 10 10 dX12_undo_12 fa_X12_111 (kd_131 hM) rfl rfl rfl ?_
    try simp only [e9]
    refine ev_iconst 15 dX12_undo_15 ⟨by decide, by decide⟩ ?_
    refine ev_isub 16 dX12_undo_16 ⟨by omega, by omega⟩ ?_
    refine ev_pI 17 10 10 dX12_undo_17 fp_X12_111 (kd_131 hM) rfl rfl ?_
    refine ev_aload_0 20 dX12_undo_20 ?_
    refine ev_iconst 21 dX12_undo_21 ⟨by decide, by decide⟩ ?_
    refine ev_aload_0 22 dX12_undo_22 ?_
    refine ev_gI 23 10 10 dX12_undo_23 fa_X12_111 (kd_131 hM) rfl rfl rfl ?_
    try simp (disch := omega) only [upI_s, upI_a, upI_k]
    try simp only [e9]
    refine ev_iadd 26 dX12_undo_26 ⟨by omega, by omega⟩ ?_
    refine ev_iconst 27 dX12_undo_27 ⟨by decide, by decide⟩ ?_
    refine ev_cVv_2 28 dX12_undo_28 kmX12_copies lk_X12_145 (kd_131 hM) (m_copies hM hN (by omega) (by omega) (by omega)) rfl rfl (fun I28 f28 => ?_)
    have e9 : I28 131 10 = I 131 10 - 1 := by rw [f28, cpN_f (by omega), upI_s]
    refine ev_aload_0 31 dX12_undo_31 ?_
    refine ev_gI 32 10 10 dX12_undo_32 fa_X12_111 (kd_131 hM) rfl rfl rfl ?_
    try simp (disch := omega) only [upI_s, upI_a, upI_k]
    try simp only [e9]
    refine ev_iret 35 dX12_undo_35 ?_ rfl
    exact QM_of (Or.inr ⟨by omega, by omega, f28⟩)
  · refine ev_bipush 7 dX12_undo_7 ⟨by decide, by decide⟩ ?_
    refine ev_iret 9 dX12_undo_9 ?_ rfl
    exact QM_of (Or.inl ⟨by omega, rfl, rfl⟩)
theorem m_keep {l : Launch} {g : Gt} {d : Nat} {Z : Zt} {I : It} {P : Pt'} (hM : LayM Z) (hN : LayQ P) (hn : 0 ≤ I 131 9 ∧ I 131 9 ≤ 2) : Mt l g mX12_keep (d + 1) 0 0 [vA 131] Z I P (QM (fun r I' => (I 131 9 = 2 ∧ r = -3 ∧ I' = I) ∨ (I 131 9 < 2 ∧ r = I 131 9 + 1 ∧ I' = cpN (upI I 131 9 (I 131 9 + 1)) 0 (I 131 9 + 1) 42)) Z P) := by
  refine Mt.of kmX12_keep (ls := [vA 131]) (fun _ => rfl) (fun _ => rfl) (okf_k (okf_n rfl)) (fun hok => ?_)
  refine ev_aload_0 0 dX12_keep_0 ?_
  refine ev_gI 1 9 9 dX12_keep_1 fa_X12_114 (kd_131 hM) rfl rfl rfl ?_
  try simp only [e9]
  refine ev_iconst 4 dX12_keep_4 ⟨by decide, by decide⟩ ?_
  refine ev_jne 5 11 dX12_keep_5 rfl (fun h5 => ?_) (fun h5 => ?_)
  · refine ev_aload_0 11 dX12_keep_11 ?_
    refine ev_dupA 12 dX12_keep_12 ?_
    refine ev_gI 13 9 9 dX12_keep_13 fa_X12_114 (kd_131 hM) rfl rfl rfl ?_
    try simp only [e9]
    refine ev_iconst 16 dX12_keep_16 ⟨by decide, by decide⟩ ?_
    refine ev_iadd 17 dX12_keep_17 ⟨by omega, by omega⟩ ?_
    refine ev_pI 18 9 9 dX12_keep_18 fp_X12_114 (kd_131 hM) rfl rfl ?_
    refine ev_aload_0 21 dX12_keep_21 ?_
    refine ev_iconst 22 dX12_keep_22 ⟨by decide, by decide⟩ ?_
    refine ev_aload_0 23 dX12_keep_23 ?_
    refine ev_gI 24 9 9 dX12_keep_24 fa_X12_114 (kd_131 hM) rfl rfl rfl ?_
    try simp (disch := omega) only [upI_s, upI_a, upI_k]
    try simp only [e9]
    refine ev_cVv_2 27 dX12_keep_27 kmX12_copies lk_X12_145 (kd_131 hM) (m_copies hM hN (by omega) (by omega) (by omega)) rfl rfl (fun I27 f27 => ?_)
    have e9 : I27 131 9 = I 131 9 + 1 := by rw [f27, cpN_f (by omega), upI_s]
    refine ev_aload_0 30 dX12_keep_30 ?_
    refine ev_gI 31 9 9 dX12_keep_31 fa_X12_114 (kd_131 hM) rfl rfl rfl ?_
    try simp (disch := omega) only [upI_s, upI_a, upI_k]
    try simp only [e9]
    refine ev_iret 34 dX12_keep_34 ?_ rfl
    exact QM_of (Or.inr ⟨by omega, by omega, f27⟩)
  · refine ev_bipush 8 dX12_keep_8 ⟨by decide, by decide⟩ ?_
    refine ev_iret 10 dX12_keep_10 ?_ rfl
    exact QM_of (Or.inl ⟨by omega, rfl, rfl⟩)
theorem m_back {l : Launch} {g : Gt} {d : Nat} {Z : Zt} {I : It} {P : Pt'} (hM : LayM Z) (hN : LayQ P) (hn : 0 ≤ I 131 9 ∧ I 131 9 ≤ 2) : Mt l g mX12_back (d + 1) 0 0 [vA 131] Z I P (QM (fun r I' => (I 131 9 = 0 ∧ r = -2 ∧ I' = I) ∨ (1 ≤ I 131 9 ∧ r = I 131 9 - 1 ∧ I' = upI (upI (cpN I (I 131 9) 0 42) 131 9 (I 131 9 - 1)) 131 10 0)) Z P) := by
  refine Mt.of kmX12_back (ls := [vA 131]) (fun _ => rfl) (fun _ => rfl) (okf_k (okf_n rfl)) (fun hok => ?_)
  refine ev_aload_0 0 dX12_back_0 ?_
  refine ev_gI 1 9 9 dX12_back_1 fa_X12_114 (kd_131 hM) rfl rfl rfl ?_
  try simp only [e9]
  refine ev_zne 4 10 dX12_back_4 rfl (fun h4 => ?_) (fun h4 => ?_)
  · refine ev_aload_0 10 dX12_back_10 ?_
    refine ev_aload_0 11 dX12_back_11 ?_
    refine ev_gI 12 9 9 dX12_back_12 fa_X12_114 (kd_131 hM) rfl rfl rfl ?_
    try simp only [e9]
    refine ev_iconst 15 dX12_back_15 ⟨by decide, by decide⟩ ?_
    refine ev_cVv_2 16 dX12_back_16 kmX12_copies lk_X12_145 (kd_131 hM) (m_copies hM hN (by omega) (by omega) (by omega)) rfl rfl (fun I16 f16 => ?_)
    have e9 : I16 131 9 = I 131 9 := by rw [f16, cpN_f (by omega)]
    refine ev_aload_0 19 dX12_back_19 ?_
    refine ev_dupA 20 dX12_back_20 ?_
    refine ev_gI 21 9 9 dX12_back_21 fa_X12_114 (kd_131 hM) rfl rfl rfl ?_
    try simp only [e9]
    refine ev_iconst 24 dX12_back_24 ⟨by decide, by decide⟩ ?_
    refine ev_isub 25 dX12_back_25 ⟨by omega, by omega⟩ ?_
    refine ev_pI 26 9 9 dX12_back_26 fp_X12_114 (kd_131 hM) rfl rfl ?_
    refine ev_aload_0 29 dX12_back_29 ?_
    refine ev_iconst 30 dX12_back_30 ⟨by decide, by decide⟩ ?_
    refine ev_pI 31 10 10 dX12_back_31 fp_X12_111 (kd_131 hM) rfl rfl ?_
    refine ev_aload_0 34 dX12_back_34 ?_
    refine ev_gI 35 9 9 dX12_back_35 fa_X12_114 (kd_131 hM) rfl rfl rfl ?_
    try simp (disch := omega) only [upI_s, upI_a, upI_k]
    try simp only [e9]
    refine ev_iret 38 dX12_back_38 ?_ rfl
    exact QM_of (Or.inr ⟨by omega, by omega, by rw [f16]⟩)
  · refine ev_bipush 7 dX12_back_7 ⟨by decide, by decide⟩ ?_
    refine ev_iret 9 dX12_back_9 ?_ rfl
    exact QM_of (Or.inl ⟨by omega, rfl, rfl⟩)
