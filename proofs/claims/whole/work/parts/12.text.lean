/-! the text and how its items are read -/
def letF (tx : Int → Int) (n p : Int) : Int := if 0 ≤ p ∧ p < n then tx p else -4
def figF (tx : Int → Int) (n : Int) : Nat → Int → Int
  | 0, _ => 0
  | k + 1, p => if 48 ≤ letF tx n p ∧ letF tx n p ≤ 57 then figF tx n k (p + 1) + 1 else 0
def numF (tx : Int → Int) (n p f : Int) : Int := if f = 1 then letF tx n p - 48 else (letF tx n p - 48) * 10 + letF tx n (p + 1) - 48
/-- an item's numbers: how many, and where the next item begins; (0, 0): it is not so -/
def kF (tx : Int → Int) (n : Int) : Nat → Int → Int → Int × Int
  | 0, _, _ => (0, 0)
  | m + 1, p, i => if 1 ≤ figF tx n 200 p ∧ figF tx n 200 p ≤ 2 then
      (if letF tx n (p + figF tx n 200 p) = 59 then (i + 1, p + figF tx n 200 p + 1) else if letF tx n (p + figF tx n 200 p) = 44 then kF tx n m (p + figF tx n 200 p + 1) (i + 1) else (0, 0)) else (0, 0)
def vF (tx : Int → Int) (n : Int) : Nat → Int → Int
  | 0, p => numF tx n p (figF tx n 200 p)
  | i + 1, p => vF tx n i (p + figF tx n 200 p + 1)
def rdF (tx : Int → Int) (n : Int) : Nat → (Nat → Int → Int) → Int → Int × (Nat → Int → Int)
  | 0, D, _ => (-4, D)
  | m + 1, D, p => if p < n then (if (kF tx n 4 (p + 1) 0).1 = 0 then (p, D) else
      match addG D (tx p) (kF tx n 4 (p + 1) 0).1 (vF tx n 0 (p + 1)) (vF tx n 1 (p + 1)) (vF tx n 2 (p + 1)) (vF tx n 3 (p + 1)) with
      | none => (p, D)
      | some D' => rdF tx n m D' (kF tx n 4 (p + 1) 0).2) else (-4, D)
def Ltr (tx : Int → Int) (n : Int) : Prop := ∀ p, 0 ≤ p → p < n → 32 ≤ tx p ∧ tx p ≤ 126
theorem let_r {tx : Int → Int} {n : Int} (h : Ltr tx n) (p : Int) : -4 ≤ letF tx n p ∧ letF tx n p ≤ 126 := by
  unfold letF; split
  · rename_i hp; have := h p hp.1 hp.2; omega
  · omega
theorem fig_r (tx : Int → Int) (n : Int) : ∀ (k : Nat) (p : Int), 0 ≤ figF tx n k p ∧ figF tx n k p ≤ k
  | 0, p => ⟨Int.le_refl _, Int.le_refl _⟩
  | k + 1, p => by
    have := fig_r tx n k (p + 1)
    unfold figF; split <;> omega
theorem kF_r (tx : Int → Int) (n : Int) : ∀ (m : Nat) (p i : Int), (kF tx n m p i) = (0, 0) ∨ (i + 1 ≤ (kF tx n m p i).1 ∧ (kF tx n m p i).1 ≤ i + m ∧ p + 2 ≤ (kF tx n m p i).2 ∧ (kF tx n m p i).2 ≤ p + 3 * m)
  | 0, p, i => Or.inl rfl
  | m + 1, p, i => by
    unfold kF
    by_cases h : 1 ≤ figF tx n 200 p ∧ figF tx n 200 p ≤ 2
    · rw [if_pos h]
      by_cases h2 : letF tx n (p + figF tx n 200 p) = 59
      · rw [if_pos h2]; right; dsimp only; omega
      · rw [if_neg h2]
        by_cases h3 : letF tx n (p + figF tx n 200 p) = 44
        · rw [if_pos h3]
          rcases kF_r tx n m (p + figF tx n 200 p + 1) (i + 1) with e | e
          · exact Or.inl e
          · right; omega
        · rw [if_neg h3]; exact Or.inl rfl
    · rw [if_neg h]; exact Or.inl rfl
theorem addG_Cn {D D' : Nat → Int → Int} {l k a b c e : Int} (h : Cn D) (ha : addG D l k a b c e = some D') : Cn D' := by
  obtain ⟨h1, h2, h3, h4, h5, h6⟩ := h
  unfold addG at ha
  repeat' split at ha
  all_goals first | (cases ha; done) | skip
  all_goals (cases ha; refine ⟨?_, ?_, ?_, ?_, ?_, ?_⟩ <;> simp [upD] <;> omega)
theorem startD_Cn (D : Nat → Int → Int) : Cn (startD D) := by
  refine ⟨?_, ?_, ?_, ?_, ?_, ?_⟩ <;> simp [startD, upD]
theorem addG_congr {D : Nat → Int → Int} {l k a b c e a' b' c' e' : Int} (h1 : 1 ≤ k → a = a') (h2 : 2 ≤ k → b = b') (h3 : 3 ≤ k → c = c') (h4 : 4 ≤ k → e = e') : addG D l k a b c e = addG D l k a' b' c' e' := by
  unfold addG
  by_cases hk1 : k = 1
  · subst hk1; rw [h1 (by omega)]; simp
  · by_cases hk2 : k = 2
    · subst hk2; rw [h1 (by omega), h2 (by omega)]; simp
    · by_cases hk3 : k = 3
      · subst hk3; rw [h1 (by omega), h2 (by omega), h3 (by omega)]; simp
      · by_cases hk4 : k = 4
        · subst hk4; rw [h1 (by omega), h2 (by omega), h3 (by omega), h4 (by omega)]
        · simp [hk1, hk2, hk3, hk4]
/-- what reading changes beside the draft: the numbers, how many were read -/
def Fr2 (I I' : It) : Prop := (∀ a, a ≠ 1 → a ≠ 3 → I' a = I a) ∧ ∀ j, j ≠ 2 → I' 1 j = I 1 j
theorem c_letterAt {l : Launch} {g : Gt} {d : Nat} {Z : Zt} {I : It} {P : Pt'} (hZ : LayC Z) (hP : LayP P) {tx : Int → Int} {n : Int} (hx : I 2 = tx) (hn : I 1 3 = n) (hlen : 0 ≤ n ∧ n ≤ 200) (p : Int) : Mt l g mX9_letterAt d 0 0 [vA 1, vI p] Z I P (QP (letF tx n p) Z I P) := by
  refine Mt.of kmX9_letterAt (ls := [vA 1, vI p]) (fun _ => rfl) (fun _ => rfl) (okf_k (okf_k (okf_n rfl))) (fun hok => ?_)
  refine ev_iload_1 0 dX9_letterAt_0 ?_
  refine ev_if_lt 1 21 dX9_letterAt_1 rfl (fun h1 => ?_) (fun h1 => ?_)
  · refine ev_bipush 21 dX9_letterAt_21 ⟨by decide, by decide⟩ ?_
    refine ev_iret 23 dX9_letterAt_23 ?_ rfl
    first | exact QP_of (by rw [hx]; exact (if_pos (by omega)).symm) | exact QP_of (if_neg (by omega)).symm
  · refine ev_iload_1 4 dX9_letterAt_4 ?_
    refine ev_aload_0 5 dX9_letterAt_5 ?_
    refine ev_gI 6 3 3 dX9_letterAt_6 fa_X9_22 (kd_1 hZ) rfl rfl rfl ?_
    refine ev_icmp_ge 9 21 dX9_letterAt_9 rfl (fun h9 => ?_) (fun h9 => ?_)
    · refine ev_bipush 21 dX9_letterAt_21 ⟨by decide, by decide⟩ ?_
      refine ev_iret 23 dX9_letterAt_23 ?_ rfl
      first | exact QP_of (by rw [hx]; exact (if_pos (by omega)).symm) | exact QP_of (if_neg (by omega)).symm
    · refine ev_aload_0 12 dX9_letterAt_12 ?_
      refine ev_getA 13 0 dX9_letterAt_13 fa_X9_9 (kd_1 hZ) (pr_1_0 hP) rfl ?_
      refine ev_iload_1 16 dX9_letterAt_16 ?_
      refine ev_iald 17 dX9_letterAt_17 (kd_2 hZ) ⟨by omega, by have := (ln_2 hZ); omega⟩ ?_
      refine ev_goto 18 23 dX9_letterAt_18 rfl ?_
      refine ev_iret 23 dX9_letterAt_23 ?_ rfl
      first | exact QP_of (by rw [hx]; exact (if_pos (by omega)).symm) | exact QP_of (if_neg (by omega)).symm
theorem c_figs {l : Launch} {g : Gt} {d : Nat} {Z : Zt} {I : It} {P : Pt'} (hZ : LayC Z) (hP : LayP P) {tx : Int → Int} {n : Int} (hx : I 2 = tx) (hn : I 1 3 = n) (hlen : 0 ≤ n ∧ n ≤ 200) {p : Int} (hp : 0 ≤ p ∧ p ≤ 1000) : Mt l g mX9_figuresFrom (d + 1) 0 0 [vA 1, vI p] Z I P (QP (figF tx n 200 p) Z I P) := by
  refine Mt.of kmX9_figuresFrom (ls := [vA 1, vI p, vX]) (fun _ => rfl) (fun _ => rfl) (okf_k (okf_k (okf_n rfl))) (fun hok => ?_)
  generalize hF : figF tx n 200 p = F
  have loop : ∀ (k : Nat) (f : Int), 0 ≤ f → f + k = 200 → F = f + figF tx n k (p + f) → Ev l g mX9_figuresFrom (d + 1) 0 0 Z I P 2 [vA 1, vI p, vI f] [] (QP F Z I P) := by
    intro k
    induction k with
    | zero =>
      intro f h0 h1 h2
      refine ev_iload_2 2 dX9_figuresFrom_2 ?_
      refine ev_sipush 3 dX9_figuresFrom_3 ⟨by decide, by decide⟩ ?_
      refine ev_icmp_ge 6 32 dX9_figuresFrom_6 rfl (fun h6 => ?_) (fun h6 => ?_)
      · refine ev_iload_2 32 dX9_figuresFrom_32 ?_
        refine ev_iret 33 dX9_figuresFrom_33 ?_ rfl
        exact QP_of (by rw [h2]; show _ = f + 0; omega)
      · exfalso; omega
    | succ k ih =>
      intro f h0 h1 h2
      refine ev_iload_2 2 dX9_figuresFrom_2 ?_
      refine ev_sipush 3 dX9_figuresFrom_3 ⟨by decide, by decide⟩ ?_
      refine ev_icmp_ge 6 32 dX9_figuresFrom_6 rfl (fun h6 => ?_) (fun h6 => ?_)
      · refine ev_iload_2 32 dX9_figuresFrom_32 ?_
        refine ev_iret 33 dX9_figuresFrom_33 ?_ rfl
        first | (exfalso; omega) | exact QP_of (by rw [h2, figF, if_neg h23]; omega)
      · refine ev_aload_0 9 dX9_figuresFrom_9 ?_
        refine ev_iload_1 10 dX9_figuresFrom_10 ?_
        refine ev_iload_2 11 dX9_figuresFrom_11 ?_
        refine ev_iadd 12 dX9_figuresFrom_12 ⟨by omega, by omega⟩ ?_
        refine ev_cVp_1 13 dX9_figuresFrom_13 kmX9_letterAt lk_X9_49 (kd_1 hZ) (c_letterAt hZ hP hx hn hlen _) rfl rfl ?_
        refine ev_bipush 16 dX9_figuresFrom_16 ⟨by decide, by decide⟩ ?_
        refine ev_bipush 18 dX9_figuresFrom_18 ⟨by decide, by decide⟩ ?_
        refine ev_cSp_3 20 dX9_figuresFrom_20 kmX11_within lk_X9_41 (c_within _ _ _) rfl rfl ?_
        refine ev_ifb_eq 23 32 dX9_figuresFrom_23 rfl (fun h23 => ?_) (fun h23 => ?_)
        · refine ev_iload_2 32 dX9_figuresFrom_32 ?_
          refine ev_iret 33 dX9_figuresFrom_33 ?_ rfl
          first | (exfalso; omega) | exact QP_of (by rw [h2, figF, if_neg h23]; omega)
        · refine ev_iinc_2 26 dX9_figuresFrom_26 ⟨by omega, by omega⟩ rfl rfl ?_
          refine ev_goto 29 2 dX9_figuresFrom_29 rfl ?_
          rw [figF, if_pos h23] at h2
          exact ih _ (by omega) (by omega) (by rw [h2, show p + f + 1 = p + (f + 1) by omega]; omega)
  refine ev_iconst 0 dX9_figuresFrom_0 ⟨by decide, by decide⟩ ?_
  refine ev_istore_2 1 dX9_figuresFrom_1 rfl rfl ?_
  exact loop 200 0 (by omega) (by omega) (by rw [← hF, Int.add_zero, Int.zero_add])
theorem c_numF {l : Launch} {g : Gt} {d : Nat} {Z : Zt} {I : It} {P : Pt'} (hZ : LayC Z) (hP : LayP P) {tx : Int → Int} {n : Int} (hx : I 2 = tx) (hn : I 1 3 = n) (hlen : 0 ≤ n ∧ n ≤ 200) (hL : Ltr tx n) {p f : Int} (hp : 0 ≤ p ∧ p ≤ 1000) (hf : f = 1 ∨ f = 2) : Mt l g mX9_numberFrom (d + 1) 0 0 [vA 1, vI p, vI f] Z I P (QP (numF tx n p f) Z I P) := by
  refine Mt.of kmX9_numberFrom (ls := [vA 1, vI p, vI f, vX, vX]) (fun _ => rfl) (fun _ => rfl) (okf_k (okf_k (okf_k (okf_n rfl)))) (fun hok => ?_)
  have l0 := let_r hL p
  have l1 := let_r hL (p + 1)
  have ex : ∀ v : Int, Ev l g mX9_numberFrom (d + 1) 0 0 Z I P 5 [vA 1, vI p, vI f, vI v, vI f] [] (QP v Z I P) := by
    intro v
    refine ev_iload_4 5 dX9_numberFrom_5 ?_
    refine ev_iload_2 7 dX9_numberFrom_7 ?_
    refine ev_icmp_ge 8 34 dX9_numberFrom_8 rfl (fun h8 => ?_) (fun h8 => ?_)
    · refine ev_iload_3 34 dX9_numberFrom_34 ?_
      refine ev_iret 35 dX9_numberFrom_35 ?_ rfl
      exact QP_of rfl
    · exfalso; omega
  have st : ∀ (i v : Int) (Q : Qt), 0 ≤ i → i < f → -1000 ≤ v → v ≤ 1000 → Ev l g mX9_numberFrom (d + 1) 0 0 Z I P 5 [vA 1, vI p, vI f, vI (v * 10 + letF tx n (p + i) - 48), vI (i + 1)] [] Q → Ev l g mX9_numberFrom (d + 1) 0 0 Z I P 5 [vA 1, vI p, vI f, vI v, vI i] [] Q := by
    intro i v Q h0 h1 h2 h3 kq
    have l2 := let_r hL (p + i)
    refine ev_iload_4 5 dX9_numberFrom_5 ?_
    refine ev_iload_2 7 dX9_numberFrom_7 ?_
    refine ev_icmp_ge 8 34 dX9_numberFrom_8 rfl (fun h8 => ?_) (fun h8 => ?_)
    · exfalso; omega
    · refine ev_iload_3 11 dX9_numberFrom_11 ?_
      refine ev_bipush 12 dX9_numberFrom_12 ⟨by decide, by decide⟩ ?_
      refine ev_imul 14 dX9_numberFrom_14 ⟨by omega, by omega⟩ ?_
      refine ev_aload_0 15 dX9_numberFrom_15 ?_
      refine ev_iload_1 16 dX9_numberFrom_16 ?_
      refine ev_iload_4 17 dX9_numberFrom_17 ?_
      refine ev_iadd 19 dX9_numberFrom_19 ⟨by omega, by omega⟩ ?_
      refine ev_cVp_1 20 dX9_numberFrom_20 kmX9_letterAt lk_X9_49 (kd_1 hZ) (c_letterAt hZ hP hx hn hlen _) rfl rfl ?_
      refine ev_iadd 23 dX9_numberFrom_23 ⟨by omega, by omega⟩ ?_
      refine ev_bipush 24 dX9_numberFrom_24 ⟨by decide, by decide⟩ ?_
      refine ev_isub 26 dX9_numberFrom_26 ⟨by omega, by omega⟩ ?_
      refine ev_istore_3 27 dX9_numberFrom_27 rfl rfl ?_
      refine ev_iinc_4 28 dX9_numberFrom_28 ⟨by omega, by omega⟩ rfl rfl ?_
      refine ev_goto 31 5 dX9_numberFrom_31 rfl ?_
      exact kq
  have fin : Ev l g mX9_numberFrom (d + 1) 0 0 Z I P 5 [vA 1, vI p, vI f, vI 0, vI 0] [] (QP (numF tx n p f) Z I P) := by
    rcases hf with rfl | rfl
    · refine st 0 0 _ (by omega) (by omega) (by omega) (by omega) ?_
      have e : numF tx n p 1 = 0 * 10 + letF tx n (p + 0) - 48 := by rw [Int.add_zero]; unfold numF; rw [if_pos rfl]; omega
      rw [e]; exact ex _
    · refine st 0 0 _ (by omega) (by omega) (by omega) (by omega) ?_
      refine st _ _ _ (by omega) (by omega) (by rw [Int.add_zero]; omega) (by rw [Int.add_zero]; omega) ?_
      have e : numF tx n p 2 = (0 * 10 + letF tx n (p + 0) - 48) * 10 + letF tx n (p + (0 + 1)) - 48 := by rw [Int.add_zero]; unfold numF; rw [if_neg (by omega)]; simp only [Int.zero_add]; omega
      rw [e]; exact ex _
  refine ev_iconst 0 dX9_numberFrom_0 ⟨by decide, by decide⟩ ?_
  refine ev_istore_3 1 dX9_numberFrom_1 rfl rfl ?_
  refine ev_iconst 2 dX9_numberFrom_2 ⟨by decide, by decide⟩ ?_
  refine ev_istore_4 3 dX9_numberFrom_3 rfl rfl ?_
  exact fin
theorem c_split {l : Launch} {g : Gt} {d : Nat} {Z : Zt} {I : It} {P : Pt'} (hZ : LayC Z) (hP : LayP P) {tx : Int → Int} {n : Int} (hx : I 2 = tx) (hn : I 1 3 = n) (hlen : 0 ≤ n ∧ n ≤ 200) (hL : Ltr tx n) {s : Int} (hs : 0 ≤ s ∧ s ≤ 200) : Mt l g mX9_splitItem (d + 2) 0 0 [vA 1, vI s] Z I P (QM (fun r I' => Fr2 I I' ∧ ((kF tx n 4 (s + 1) 0 = (0, 0) ∧ r = -2) ∨ (1 ≤ (kF tx n 4 (s + 1) 0).1 ∧ (kF tx n 4 (s + 1) 0).1 ≤ 4 ∧ r = (kF tx n 4 (s + 1) 0).2 ∧ I' 1 2 = (kF tx n 4 (s + 1) 0).1 ∧ ∀ j : Nat, (j : Int) < (kF tx n 4 (s + 1) 0).1 → I' 3 j = vF tx n j (s + 1)))) Z P) := by
  refine Mt.of kmX9_splitItem (ls := [vA 1, vI s, vX, vX, vX, vX]) (fun _ => rfl) (fun _ => rfl) (okf_k (okf_k (okf_n rfl))) (fun hok => ?_)
  generalize hK : kF tx n 4 (s + 1) 0 = K
  have loop : ∀ (k : Nat) (i : Nat) (p : Int) (I1 : It), k + i = 4 → 0 ≤ p → p ≤ 300 + 3 * i → Fr2 I I1 → K = kF tx n k p i → (∀ j : Nat, j < i → I1 3 j = vF tx n j (s + 1)) → (∀ j, vF tx n (i + j) (s + 1) = vF tx n j p) →
      Ev l g mX9_splitItem (d + 2) 0 0 Z I1 P 6 [vA 1, vI s, vI p, vI (i : Int), vX, vX] [] (QM (fun r I' => Fr2 I I' ∧ ((K = (0, 0) ∧ r = -2) ∨ (1 ≤ (K).1 ∧ (K).1 ≤ 4 ∧ r = (K).2 ∧ I' 1 2 = (K).1 ∧ ∀ j : Nat, (j : Int) < (K).1 → I' 3 j = vF tx n j (s + 1)))) Z P) := by
    intro k
    induction k with
    | zero =>
      intro i p I1 h1 h2 h3 h4 h5 h6 h7
      have hi : i = 4 := by omega
      refine ev_iload_3 6 dX9_splitItem_6 ?_
      refine ev_iconst 7 dX9_splitItem_7 ⟨by decide, by decide⟩ ?_
      refine ev_icmp_ge 8 91 dX9_splitItem_8 rfl (fun h8 => ?_) (fun h8 => ?_)
      · refine ev_bipush 91 dX9_splitItem_91 ⟨by decide, by decide⟩ ?_
        refine ev_iret 93 dX9_splitItem_93 ?_ rfl
        exact QM_of ⟨h4, Or.inl ⟨h5, rfl⟩⟩
      · exfalso; omega
    | succ k ih =>
      intro i p I1 h1 h2 h3 h4 h5 h6 h7
      have hx1 : I1 2 = tx := by rw [h4.1 2 (by omega) (by omega)]; exact hx
      have hn1 : I1 1 3 = n := by rw [h4.2 3 (by omega)]; exact hn
      have hfr := fig_r tx n 200 p
      have e5 : K = kF tx n (k + 1) p i := h5
      unfold kF at e5
      refine ev_iload_3 6 dX9_splitItem_6 ?_
      refine ev_iconst 7 dX9_splitItem_7 ⟨by decide, by decide⟩ ?_
      refine ev_icmp_ge 8 91 dX9_splitItem_8 rfl (fun h8 => ?_) (fun h8 => ?_)
      · exfalso; omega
      · refine ev_aload_0 11 dX9_splitItem_11 ?_
        refine ev_iload_2 12 dX9_splitItem_12 ?_
        refine ev_cVp_1 13 dX9_splitItem_13 kmX9_figuresFrom lk_X9_38 (kd_1 hZ) (c_figs hZ hP hx1 hn1 hlen (by omega)) rfl rfl ?_
        refine ev_istore_4 16 dX9_splitItem_16 rfl rfl ?_
        refine ev_iload_4 18 dX9_splitItem_18 ?_
        refine ev_iconst 20 dX9_splitItem_20 ⟨by decide, by decide⟩ ?_
        refine ev_iconst 21 dX9_splitItem_21 ⟨by decide, by decide⟩ ?_
        refine ev_cSp_3 22 dX9_splitItem_22 kmX11_within lk_X9_41 (c_within _ _ _) rfl rfl ?_
        refine ev_ifb_ne 25 31 dX9_splitItem_25 rfl (fun h25 => ?_) (fun h25 => ?_)
        · refine ev_aload_0 31 dX9_splitItem_31 ?_
          refine ev_getA 32 1 dX9_splitItem_32 fa_X9_15 (kd_1 hZ) (pr_1_1 hP) rfl ?_
          refine ev_iload_3 35 dX9_splitItem_35 ?_
          refine ev_aload_0 36 dX9_splitItem_36 ?_
          refine ev_iload_2 37 dX9_splitItem_37 ?_
          refine ev_iload_4 38 dX9_splitItem_38 ?_
          refine ev_cVp_2 40 dX9_splitItem_40 kmX9_numberFrom lk_X9_45 (kd_1 hZ) (c_numF hZ hP hx1 hn1 hlen hL (by omega) (by omega)) rfl rfl ?_
          refine ev_iast 43 dX9_splitItem_43 (kd_3 hZ) ⟨by omega, by have := (ln_3 hZ); omega⟩ ?_
          refine ev_aload_0 44 dX9_splitItem_44 ?_
          refine ev_iload_3 45 dX9_splitItem_45 ?_
          refine ev_iconst 46 dX9_splitItem_46 ⟨by decide, by decide⟩ ?_
          refine ev_iadd 47 dX9_splitItem_47 ⟨by omega, by omega⟩ ?_
          refine ev_pI 48 2 2 dX9_splitItem_48 fp_X9_18 (kd_1 hZ) rfl rfl ?_
          obtain ⟨I2, hI2⟩ : ∃ I2, I2 = upI (upI I1 3 (i : Int) (numF tx n p (figF tx n 200 p))) 1 2 ((i : Int) + 1) := ⟨_, rfl⟩
          have f3 : Fr2 I I2 := by
            rw [hI2]
            exact ⟨fun a ha hb => by rw [upI_A ha, upI_A hb]; exact h4.1 a ha hb, fun j hj => by rw [upI_k hj, upI_a (by omega)]; exact h4.2 j hj⟩
          have hx1 : I2 2 = tx := by rw [f3.1 2 (by omega) (by omega)]; exact hx
          have hn1 : I2 1 3 = n := by rw [f3.2 3 (by omega)]; exact hn
          have f5 : I2 1 2 = (i : Int) + 1 := by rw [hI2, upI_s]
          have f6 : ∀ j : Nat, j < i + 1 → I2 3 j = vF tx n j (s + 1) := fun j hj => by
            rw [hI2, upI_a (by omega)]
            by_cases e : j = i
            · subst e; rw [upI_s]; exact (h7 0).symm
            · rw [upI_k (by omega)]; exact h6 j (by omega)
          rw [if_pos h25] at e5
          rw [← hI2]
          refine ev_iload_2 51 dX9_splitItem_51 ?_
          refine ev_iload_4 52 dX9_splitItem_52 ?_
          refine ev_iadd 54 dX9_splitItem_54 ⟨by omega, by omega⟩ ?_
          refine ev_istore_2 55 dX9_splitItem_55 rfl rfl ?_
          refine ev_aload_0 56 dX9_splitItem_56 ?_
          refine ev_iload_2 57 dX9_splitItem_57 ?_
          refine ev_cVp_1 58 dX9_splitItem_58 kmX9_letterAt lk_X9_49 (kd_1 hZ) (c_letterAt hZ hP hx1 hn1 hlen _) rfl rfl ?_
          refine ev_istore_5 61 dX9_splitItem_61 rfl rfl ?_
          refine ev_iinc_2 63 dX9_splitItem_63 ⟨by omega, by omega⟩ rfl rfl ?_
          refine ev_iload_5 66 dX9_splitItem_66 ?_
          refine ev_bipush 68 dX9_splitItem_68 ⟨by decide, by decide⟩ ?_
          refine ev_jne 70 75 dX9_splitItem_70 rfl (fun h70 => ?_) (fun h70 => ?_)
          · refine ev_iload_5 75 dX9_splitItem_75 ?_
            refine ev_bipush 77 dX9_splitItem_77 ⟨by decide, by decide⟩ ?_
            refine ev_icmp_eq 79 85 dX9_splitItem_79 rfl (fun h79 => ?_) (fun h79 => ?_)
            · refine ev_iinc_3 85 dX9_splitItem_85 ⟨by omega, by omega⟩ rfl rfl ?_
              refine ev_goto 88 6 dX9_splitItem_88 rfl ?_
              rw [if_neg h70, if_pos h79] at e5
              refine ev_forget (fg_k (fg_k (fg_k (fg_k (fg_x (fg_x fg_n)))))) ?_
              have hi : ((i : Int) + 1) = ((i + 1 : Nat) : Int) := by omega
              rw [hi] at e5 ⊢
              exact ih (i + 1) _ I2 (by omega) (by omega) (by omega) f3 e5 f6 (fun j => by
                have := h7 (j + 1)
                rw [show i + (j + 1) = i + 1 + j by omega] at this
                exact this)
            · refine ev_bipush 82 dX9_splitItem_82 ⟨by decide, by decide⟩ ?_
              refine ev_iret 84 dX9_splitItem_84 ?_ rfl
              rw [if_neg h70, if_neg h79] at e5
              exact QM_of ⟨f3, Or.inl ⟨e5, rfl⟩⟩
          · refine ev_iload_2 73 dX9_splitItem_73 ?_
            refine ev_iret 74 dX9_splitItem_74 ?_ rfl
            rw [if_pos h70] at e5
            exact QM_of ⟨f3, Or.inr (by rw [e5]; dsimp only; exact ⟨by omega, by omega, rfl, f5, fun j hj => f6 j (by omega)⟩)⟩
        · refine ev_bipush 28 dX9_splitItem_28 ⟨by decide, by decide⟩ ?_
          refine ev_iret 30 dX9_splitItem_30 ?_ rfl
          rw [if_neg h25] at e5
          exact QM_of ⟨h4, Or.inl ⟨e5, rfl⟩⟩
  refine ev_iload_1 0 dX9_splitItem_0 ?_
  refine ev_iconst 1 dX9_splitItem_1 ⟨by decide, by decide⟩ ?_
  refine ev_iadd 2 dX9_splitItem_2 ⟨by omega, by omega⟩ ?_
  refine ev_istore_2 3 dX9_splitItem_3 rfl rfl ?_
  refine ev_iconst 4 dX9_splitItem_4 ⟨by decide, by decide⟩ ?_
  refine ev_istore_3 5 dX9_splitItem_5 rfl rfl ?_
  exact loop 4 0 (s + 1) I (by omega) (by omega) (by omega) ⟨fun _ _ _ => rfl, fun _ _ => rfl⟩ hK.symm (fun j hj => by omega) (fun j => by rw [Nat.zero_add])
theorem c_tadd {l : Launch} {g : Gt} {d : Nat} {Z : Zt} {I : It} {P : Pt'} (hZ : LayC Z) (hP : LayP P) (hlen : 0 ≤ I 1 3 ∧ I 1 3 ≤ 200) (c : Int) : Mt l g mX9_add d 0 0 [vA 1, vI c] Z I P (QM (fun r I' => (I 1 3 < 200 ∧ r = 1 ∧ I' = upI (upI I 2 (I 1 3) c) 1 3 (I 1 3 + 1)) ∨ (I 1 3 = 200 ∧ r = 0 ∧ I' = I)) Z P) := by
  refine Mt.of kmX9_add (ls := [vA 1, vI c]) (fun _ => rfl) (fun _ => rfl) (okf_k (okf_k (okf_n rfl))) (fun hok => ?_)
  refine ev_aload_0 0 dX9_add_0 ?_
  refine ev_gI 1 3 3 dX9_add_1 fa_X9_22 (kd_1 hZ) rfl rfl rfl ?_
  refine ev_sipush 4 dX9_add_4 ⟨by decide, by decide⟩ ?_
  refine ev_icmp_lt 7 12 dX9_add_7 rfl (fun h7 => ?_) (fun h7 => ?_)
  · refine ev_aload_0 12 dX9_add_12 ?_
    refine ev_getA 13 0 dX9_add_13 fa_X9_9 (kd_1 hZ) (pr_1_0 hP) rfl ?_
    refine ev_aload_0 16 dX9_add_16 ?_
    refine ev_gI 17 3 3 dX9_add_17 fa_X9_22 (kd_1 hZ) rfl rfl rfl ?_
    refine ev_iload_1 20 dX9_add_20 ?_
    refine ev_iast 21 dX9_add_21 (kd_2 hZ) ⟨by omega, by have := (ln_2 hZ); omega⟩ ?_
    refine ev_aload_0 22 dX9_add_22 ?_
    refine ev_dupA 23 dX9_add_23 ?_
    refine ev_gI 24 3 3 dX9_add_24 fa_X9_22 (kd_1 hZ) rfl rfl rfl ?_
    try simp (disch := omega) only [upI_s, upI_a, upI_k]
    refine ev_iconst 27 dX9_add_27 ⟨by decide, by decide⟩ ?_
    refine ev_iadd 28 dX9_add_28 ⟨by omega, by omega⟩ ?_
    refine ev_pI 29 3 3 dX9_add_29 fp_X9_22 (kd_1 hZ) rfl rfl ?_
    refine ev_iconst 32 dX9_add_32 ⟨by decide, by decide⟩ ?_
    refine ev_zret 33 dX9_add_33 (by first | omega | exact b2_or _) ?_ rfl
    first | exact QM_of (Or.inr ⟨by omega, rfl, rfl⟩) | exact QM_of (Or.inl ⟨by omega, rfl, rfl⟩)
  · refine ev_iconst 10 dX9_add_10 ⟨by decide, by decide⟩ ?_
    refine ev_zret 11 dX9_add_11 (by first | omega | exact b2_or _) ?_ rfl
    first | exact QM_of (Or.inr ⟨by omega, rfl, rfl⟩) | exact QM_of (Or.inl ⟨by omega, rfl, rfl⟩)
theorem c_tempty {l : Launch} {g : Gt} {d : Nat} {Z : Zt} {I : It} {P : Pt'} (hZ : LayC Z) (hP : LayP P) : Mt l g mX9_empty d 0 0 [vA 1] Z I P (QM (fun r I' => r = I 1 3 ∧ I' = upI I 1 3 0) Z P) := by
  refine Mt.of kmX9_empty (ls := [vA 1, vX]) (fun _ => rfl) (fun _ => rfl) (okf_k (okf_n rfl)) (fun hok => ?_)
  refine ev_aload_0 0 dX9_empty_0 ?_
  refine ev_gI 1 3 3 dX9_empty_1 fa_X9_22 (kd_1 hZ) rfl rfl rfl ?_
  refine ev_istore_1 4 dX9_empty_4 rfl rfl ?_
  refine ev_aload_0 5 dX9_empty_5 ?_
  refine ev_iconst 6 dX9_empty_6 ⟨by decide, by decide⟩ ?_
  refine ev_pI 7 3 3 dX9_empty_7 fp_X9_22 (kd_1 hZ) rfl rfl ?_
  refine ev_iload_1 10 dX9_empty_10 ?_
  refine ev_iret 11 dX9_empty_11 ?_ rfl
  exact QM_of ⟨rfl, rfl⟩
theorem c_read {l : Launch} {g : Gt} {d : Nat} {Z : Zt} {I : It} {P : Pt'} (hZ : LayC Z) (hP : LayP P) {T : Nat} (hT : IsT T) {tx : Int → Int} {n : Int} (hx : I 2 = tx) (hn : I 1 3 = n) (hlen : 0 ≤ n ∧ n ≤ 200) (hL : Ltr tx n) : Mt l g mX9_readInto (d + 4) 0 0 [vA 1, vA T] Z I P (QM (fun r I' => r = (rdF tx n 200 (startD (vw T I)) 0).1 ∧ vw T I' = (rdF tx n 200 (startD (vw T I)) 0).2 ∧ (∀ a, (a < T ∨ T + 13 ≤ a) → a ≠ 1 → a ≠ 3 → I' a = I a) ∧ (∀ j, j ≠ 2 → I' 1 j = I 1 j)) Z P) := by
  refine Mt.of kmX9_readInto (ls := [vA 1, vA T, vX, vX, vX]) (fun _ => rfl) (fun _ => rfl) (okf_k (okf_k (okf_n rfl))) (fun hok => ?_)
  have hT5 : 5 ≤ T := by rcases hT with rfl | rfl <;> omega
  generalize hR : (rdF tx n 200 (startD (vw T I)) 0) = R
  have loop : ∀ (k : Nat) (c : Int) (p : Int) (I1 : It), 0 ≤ c → c + k = 200 → 0 ≤ p → Cn (vw T I1) → (∀ a, (a < T ∨ T + 13 ≤ a) → a ≠ 1 → a ≠ 3 → I1 a = I a) ∧ (∀ j, j ≠ 2 → I1 1 j = I 1 j) → R = rdF tx n k (vw T I1) p → n ≤ p + k →
      Ev l g mX9_readInto (d + 4) 0 0 Z I1 P 8 [vA 1, vA T, vI p, vI c, vX] [] (QM (fun r I' => r = R.1 ∧ vw T I' = R.2 ∧ (∀ a, (a < T ∨ T + 13 ≤ a) → a ≠ 1 → a ≠ 3 → I' a = I a) ∧ (∀ j, j ≠ 2 → I' 1 j = I 1 j)) Z P) := by
    intro k
    induction k with
    | zero =>
      intro c p I1 h0 h1 h2 hC ⟨f1, f2⟩ h4 h5
      have hx1 : I1 2 = tx := by rw [f1 2 (by omega) (by omega) (by omega)]; exact hx
      have hn1 : I1 1 3 = n := by rw [f2 3 (by omega)]; exact hn
      refine ev_iload_2 8 dX9_readInto_8 ?_
      refine ev_aload_0 9 dX9_readInto_9 ?_
      refine ev_gI 10 3 3 dX9_readInto_10 fa_X9_22 (kd_1 hZ) rfl rfl rfl ?_
      refine ev_icmp_ge 13 69 dX9_readInto_13 rfl (fun h13 => ?_) (fun h13 => ?_)
      · refine ev_bipush 69 dX9_readInto_69 ⟨by decide, by decide⟩ ?_
        refine ev_iret 71 dX9_readInto_71 ?_ rfl
        exact QM_of (by rw [h4]; exact ⟨rfl, rfl, f1, f2⟩)
      · exfalso; omega
    | succ k ih =>
      intro c p I1 h0 h1 h2 hC ⟨f1, f2⟩ h4 h5
      have hx1 : I1 2 = tx := by rw [f1 2 (by omega) (by omega) (by omega)]; exact hx
      have hn1 : I1 1 3 = n := by rw [f2 3 (by omega)]; exact hn
      unfold rdF at h4
      have hk := kF_r tx n 4 (p + 1) 0
      refine ev_iload_2 8 dX9_readInto_8 ?_
      refine ev_aload_0 9 dX9_readInto_9 ?_
      refine ev_gI 10 3 3 dX9_readInto_10 fa_X9_22 (kd_1 hZ) rfl rfl rfl ?_
      refine ev_icmp_ge 13 69 dX9_readInto_13 rfl (fun h13 => ?_) (fun h13 => ?_)
      · refine ev_bipush 69 dX9_readInto_69 ⟨by decide, by decide⟩ ?_
        refine ev_iret 71 dX9_readInto_71 ?_ rfl
        first | (exfalso; omega) | (rw [if_neg (by omega)] at h4; exact QM_of (by rw [h4]; exact ⟨rfl, rfl, f1, f2⟩))
      · refine ev_iload_3 16 dX9_readInto_16 ?_
        refine ev_sipush 17 dX9_readInto_17 ⟨by decide, by decide⟩ ?_
        refine ev_icmp_ge 20 69 dX9_readInto_20 rfl (fun h20 => ?_) (fun h20 => ?_)
        · refine ev_bipush 69 dX9_readInto_69 ⟨by decide, by decide⟩ ?_
          refine ev_iret 71 dX9_readInto_71 ?_ rfl
          first | (exfalso; omega) | (rw [if_neg (by omega)] at h4; exact QM_of (by rw [h4]; exact ⟨rfl, rfl, f1, f2⟩))
        · refine ev_aload_0 23 dX9_readInto_23 ?_
          refine ev_iload_2 24 dX9_readInto_24 ?_
          refine ev_cVm_1 25 dX9_readInto_25 kmX9_splitItem lk_X9_30 (kd_1 hZ) (c_split hZ hP hx1 hn1 hlen hL (s := p) (by omega)) rfl rfl (fun x25 I25 f25 => ?_)
          rw [if_pos (show p < n by omega)] at h4
          obtain ⟨g1, g2⟩ := f25
          have e0 : vw T I25 = vw T I1 := by funext b; exact g1.1 _ (by omega) (by omega)
          have hC2 : Cn (vw T I25) := by rw [e0]; exact hC
          have q1 : (∀ a, (a < T ∨ T + 13 ≤ a) → a ≠ 1 → a ≠ 3 → I25 a = I a) := fun a ha hb hc => by rw [g1.1 a hb hc]; exact f1 a ha hb hc
          have q2 : (∀ j, j ≠ 2 → I25 1 j = I 1 j) := fun j hj => by rw [g1.2 j hj]; exact f2 j hj
          have hx2 : I25 2 = tx := by rw [q1 2 (by omega) (by omega) (by omega)]; exact hx
          have hn2 : I25 1 3 = n := by rw [q2 3 (by omega)]; exact hn
          have hk3 : 1 ≤ (kF tx n 4 (p + 1) 0).1 → p + 3 ≤ (kF tx n 4 (p + 1) 0).2 := fun h => by
            rcases hk with e | e
            · rw [e] at h; simp at h
            · omega
          refine ev_istore_4 28 dX9_readInto_28 rfl rfl ?_
          refine ev_iload_4 30 dX9_readInto_30 ?_
          refine ev_bipush 32 dX9_readInto_32 ⟨by decide, by decide⟩ ?_
          refine ev_icmp_eq 34 58 dX9_readInto_34 rfl (fun h34 => ?_) (fun h34 => ?_)
          · refine ev_iload_2 58 dX9_readInto_58 ?_
            refine ev_iret 59 dX9_readInto_59 ?_ rfl
            first
              | (rcases g2 with ⟨e1, e2⟩ | g3
                 · rw [e1, if_pos rfl] at h4
                   exact QM_of (by rw [h4]; exact ⟨rfl, e0, q1, q2⟩)
                 · exfalso; have := hk3 g3.1; omega)
              | (rcases f52 with ⟨D', e1, e2, e3, e4⟩ | ⟨e1, e2, e3⟩
                 · exfalso; omega
                 · rw [e1] at h4
                   subst e3
                   exact QM_of (by rw [h4]; exact ⟨rfl, e0, q1, q2⟩))
          · refine ev_aload_1 37 dX9_readInto_37 ?_
            refine ev_aload_0 38 dX9_readInto_38 ?_
            refine ev_getA 39 0 dX9_readInto_39 fa_X9_9 (kd_1 hZ) (pr_1_0 hP) rfl ?_
            refine ev_iload_2 42 dX9_readInto_42 ?_
            refine ev_iald 43 dX9_readInto_43 (kd_2 hZ) ⟨by omega, by have := (ln_2 hZ); omega⟩ ?_
            refine ev_aload_0 44 dX9_readInto_44 ?_
            refine ev_getA 45 1 dX9_readInto_45 fa_X9_15 (kd_1 hZ) (pr_1_1 hP) rfl ?_
            refine ev_aload_0 48 dX9_readInto_48 ?_
            refine ev_gI 49 2 2 dX9_readInto_49 fa_X9_18 (kd_1 hZ) rfl rfl rfl ?_
            refine ev_cVm_3 52 dX9_readInto_52 kmX10_addItem lk_X9_34 (kdT_0 hZ hT) (c_addItem hZ hP hT hC2 _ _) rfl rfl (fun x52 I52 f52 => ?_)
            have g3 : 1 ≤ (kF tx n 4 (p + 1) 0).1 ∧ (kF tx n 4 (p + 1) 0).1 ≤ 4 ∧ x25 = (kF tx n 4 (p + 1) 0).2 ∧ I25 1 2 = (kF tx n 4 (p + 1) 0).1 ∧ ∀ j : Nat, (j : Int) < (kF tx n 4 (p + 1) 0).1 → I25 3 j = vF tx n j (p + 1) := by
              rcases g2 with ⟨_, e2⟩ | g3
              · exact absurd e2 h34
              · exact g3
            rw [if_neg (by omega)] at h4
            have ea : addG (vw T I25) (I25 2 p) (I25 1 2) (I25 3 0) (I25 3 1) (I25 3 2) (I25 3 3) = addG (vw T I1) (tx p) (kF tx n 4 (p + 1) 0).1 (vF tx n 0 (p + 1)) (vF tx n 1 (p + 1)) (vF tx n 2 (p + 1)) (vF tx n 3 (p + 1)) := by
              rw [e0, hx2, g3.2.2.2.1]
              exact addG_congr (fun h => g3.2.2.2.2 0 (by omega)) (fun h => g3.2.2.2.2 1 (by omega)) (fun h => g3.2.2.2.2 2 (by omega)) (fun h => g3.2.2.2.2 3 (by omega))
            rw [ea] at f52
            have hk2 : p + 3 ≤ (kF tx n 4 (p + 1) 0).2 := by
              rcases hk with e | e
              · rw [e] at g3; have := g3.1; simp at this
              · omega
            refine ev_zne 55 60 dX9_readInto_55 rfl (fun h55 => ?_) (fun h55 => ?_)
            · refine ev_iload_4 60 dX9_readInto_60 ?_
              refine ev_istore_2 62 dX9_readInto_62 rfl rfl ?_
              refine ev_iinc_3 63 dX9_readInto_63 ⟨by omega, by omega⟩ rfl rfl ?_
              refine ev_goto 66 8 dX9_readInto_66 rfl ?_
              rcases f52 with ⟨D', e1, e2, e3, e4⟩ | ⟨e1, e2, e3⟩
              · rw [e1] at h4
                refine ev_forget (fg_k (fg_k (fg_k (fg_k (fg_x fg_n))))) ?_
                have hC3 : Cn (vw T I52) := by rw [e3]; exact addG_Cn hC e1
                rw [g3.2.2.1]
                exact ih _ _ I52 (by omega) (by omega) (by omega) hC3 ⟨fun a ha hb hc => by rw [e4 a ha]; exact q1 a ha hb hc, fun j hj => by rw [e4 1 (by omega)]; exact q2 j hj⟩ (by rw [e3]; exact h4) (by omega)
              · exfalso; omega
            · refine ev_iload_2 58 dX9_readInto_58 ?_
              refine ev_iret 59 dX9_readInto_59 ?_ rfl
              first
                | (rcases g2 with ⟨e1, e2⟩ | g3
                   · rw [e1, if_pos rfl] at h4
                     exact QM_of (by rw [h4]; exact ⟨rfl, e0, q1, q2⟩)
                   · exfalso; have := hk3 g3.1; omega)
                | (rcases f52 with ⟨D', e1, e2, e3, e4⟩ | ⟨e1, e2, e3⟩
                   · exfalso; omega
                   · rw [e1] at h4
                     subst e3
                     exact QM_of (by rw [h4]; exact ⟨rfl, e0, q1, q2⟩))
  refine ev_aload_1 0 dX9_readInto_0 ?_
  refine ev_cVv_0 1 dX9_readInto_1 kmX10_start lk_X9_25 (kdT_0 hZ hT) (c_tstart hZ hP hT) rfl rfl (fun I1 f1 => ?_)
  refine ev_iconst 4 dX9_readInto_4 ⟨by decide, by decide⟩ ?_
  refine ev_istore_2 5 dX9_readInto_5 rfl rfl ?_
  refine ev_iconst 6 dX9_readInto_6 ⟨by decide, by decide⟩ ?_
  refine ev_istore_3 7 dX9_readInto_7 rfl rfl ?_
  exact loop 200 0 0 I1 (by omega) (by omega) (by omega) (by rw [f1.1]; exact startD_Cn _) ⟨fun a ha _ _ => f1.2 a ha, fun j _ => by rw [f1.2 1 (by omega)]⟩ (by rw [← hR, f1.1]) (by omega)
