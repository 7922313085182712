/-! the reference: how the text is read -/
def DM (I : It) (D : Nat → Int → Int) : Prop := (I 133 6 = D 0 0 ∧ I 133 7 = D 0 1 ∧ I 133 8 = D 0 5 ∧ I 133 9 = D 0 10 ∧ I 133 10 = D 0 13 ∧ (D 0 1 + D 0 5 + D 0 10 + D 0 13 ≤ 0 → I 133 11 = 0) ∧ (0 < D 0 1 + D 0 5 + D 0 10 + D 0 13 → I 133 11 = 1)) ∧
  (∀ t, 0 ≤ t → t < D 0 1 → I 134 (24 + 3 * t) = D 1 t ∧ I 134 (24 + 3 * t + 1) = D 2 t ∧ I 134 (24 + 3 * t + 2) = D 3 t) ∧
  (∀ t, 0 ≤ t → t < D 0 5 → I 135 (24 + 4 * t) = D 5 t ∧ I 135 (24 + 4 * t + 1) = D 4 t ∧ I 135 (24 + 4 * t + 2) = D 6 t ∧ I 135 (24 + 4 * t + 3) = D 7 t) ∧
  (∀ t, 0 ≤ t → t < D 0 10 → I 136 (16 + 2 * t) = D 8 t ∧ I 136 (16 + 2 * t + 1) = D 9 t) ∧
  (∀ t, 0 ≤ t → t < D 0 13 → I 137 (15 + 3 * t) = D 10 t ∧ I 137 (15 + 3 * t + 1) = D 11 t ∧ I 137 (15 + 3 * t + 2) = D 12 t)
theorem DM.fr {I I' : It} {D : Nat → Int → Int} (h : DM I D) (e3 : I' 133 = I 133) (e4 : I' 134 = I 134) (e5 : I' 135 = I 135) (e6 : I' 136 = I 136) (e7 : I' 137 = I 137) : DM I' D := by
  unfold DM; rw [e3, e4, e5, e6, e7]; exact h
/-- what reading an item may change -/
def GF (I I' : It) : Prop := (∀ j, j < 6 → I' 133 j = I 133 j) ∧ (∀ j, j < 24 → I' 134 j = I 134 j) ∧ (∀ j, j < 24 → I' 135 j = I 135 j) ∧ (∀ j, j < 16 → I' 136 j = I 136 j) ∧ (∀ j, j < 15 → I' 137 j = I 137 j) ∧ ∀ a, a ≠ 133 → a ≠ 134 → a ≠ 135 → a ≠ 136 → a ≠ 137 → I' a = I a
theorem GF.rf {I : It} : GF I I := ⟨fun _ _ => rfl, fun _ _ => rfl, fun _ _ => rfl, fun _ _ => rfl, fun _ _ => rfl, fun _ _ _ _ _ _ => rfl⟩
theorem GF.tr {I J K : It} (h : GF I J) (k : GF J K) : GF I K := ⟨fun j a => (k.1 j a).trans (h.1 j a), fun j a => (k.2.1 j a).trans (h.2.1 j a), fun j a => (k.2.2.1 j a).trans (h.2.2.1 j a), fun j a => (k.2.2.2.1 j a).trans (h.2.2.2.1 j a), fun j a => (k.2.2.2.2.1 j a).trans (h.2.2.2.2.1 j a), fun a a1 a2 a3 a4 a5 => (k.2.2.2.2.2 a a1 a2 a3 a4 a5).trans (h.2.2.2.2.2 a a1 a2 a3 a4 a5)⟩
theorem GF.up3 {I J : It} {j x : Int} (h : GF I J) (hj : 6 ≤ j) : GF I (upI J 133 j x) := h.tr ⟨fun i a => upI_k (by omega), fun i a => by rw [upI_A (by omega)], fun i a => by rw [upI_A (by omega)], fun i a => by rw [upI_A (by omega)], fun i a => by rw [upI_A (by omega)], fun a a1 a2 a3 a4 a5 => upI_A a1⟩
/-- what one item's numbers do, told in the row R -/
def PT (R : Nat) (f w q : Int) (I I' : It) : Prop := (∀ k, 0 ≤ k → k < w → I' R (f + w * I 133 q + k) = I 144 k) ∧ (∀ i, (i < f + w * I 133 q ∨ f + w * I 133 q + w ≤ i) → I' R i = I R i) ∧ I' 133 q = I 133 q + 1 ∧ (∀ j, j ≠ q → I' 133 j = I 133 j) ∧ ∀ a, a ≠ 133 → a ≠ R → I' a = I a
theorem PT.gf {R : Nat} {f w q : Int} {I I' : It} (h : PT R f w q I I') (hq : 6 ≤ q) (hw : 0 ≤ w * I 133 q) (hR : (R = 134 ∧ f = 24) ∨ (R = 135 ∧ f = 24) ∨ (R = 136 ∧ f = 16) ∨ (R = 137 ∧ f = 15)) : GF I I' := by
  obtain ⟨h1, h2, h3, h4, h5⟩ := h
  have key : ∀ (a : Nat) (m : Int), a ≠ 133 → (a = R → m ≤ f) → ∀ j, j < m → I' a j = I a j := fun a m ha hm j hj => by
    by_cases z : a = R
    · subst z; exact h2 j (by have := hm rfl; omega)
    · rw [h5 a ha z]
  exact ⟨fun j a => h4 j (by omega), key 134 24 (by omega) (by omega), key 135 24 (by omega) (by omega), key 136 16 (by omega) (by omega), key 137 15 (by omega) (by omega), fun a a1 a2 a3 a4 a5 => h5 a a1 (by omega)⟩
theorem numF_r {tx : Int → Int} {n p : Int} (h : 1 ≤ figF tx n 200 p ∧ figF tx n 200 p ≤ 2) : 0 ≤ numF tx n p (figF tx n 200 p) ∧ numF tx n p (figF tx n 200 p) ≤ 99 := by
  have e0 : figF tx n 200 p = if 48 ≤ letF tx n p ∧ letF tx n p ≤ 57 then figF tx n 199 (p + 1) + 1 else 0 := rfl
  have e1 : figF tx n 199 (p + 1) = if 48 ≤ letF tx n (p + 1) ∧ letF tx n (p + 1) ≤ 57 then figF tx n 198 (p + 1 + 1) + 1 else 0 := rfl
  have r0 := fig_r tx n 199 (p + 1)
  unfold numF
  by_cases c0 : 48 ≤ letF tx n p ∧ letF tx n p ≤ 57
  · rw [if_pos c0] at e0
    by_cases f1 : figF tx n 200 p = 1
    · rw [if_pos f1]; omega
    · rw [if_neg f1]
      by_cases c1 : 48 ≤ letF tx n (p + 1) ∧ letF tx n (p + 1) ≤ 57
      · omega
      · rw [if_neg c1] at e1; omega
  · rw [if_neg c0] at e0; omega
/-- one item: what is told then, and where the next one begins -/
def itF (tx : Int → Int) (n : Int) (D : Nat → Int → Int) (p : Int) : Option (Nat → Int → Int) :=
  if (kF tx n 4 (p + 1) 0).1 = 0 then none else addG D (tx p) (kF tx n 4 (p + 1) 0).1 (vF tx n 0 (p + 1)) (vF tx n 1 (p + 1)) (vF tx n 2 (p + 1)) (vF tx n 3 (p + 1))
theorem rdF_it (tx : Int → Int) (n : Int) (m : Nat) (D : Nat → Int → Int) (p : Int) (h : p < n) : rdF tx n (m + 1) D p = match itF tx n D p with
    | none => (p, D)
    | some D' => rdF tx n m D' (kF tx n 4 (p + 1) 0).2 := by
  unfold itF
  show (if p < n then _ else _) = _
  rw [if_pos h]
  by_cases z : (kF tx n 4 (p + 1) 0).1 = 0
  · rw [if_pos z, if_pos z]
  · rw [if_neg z, if_neg z]; rfl
theorem addG_k {D : Nat → Int → Int} {l k a b c e : Int} (h : k ≠ nmb l ∨ nmb l = 0) : addG D l k a b c e = none := by
  unfold addG; unfold nmb at h
  by_cases c1 : l = 110
  · subst c1; rw [if_pos rfl]; exact if_neg (fun z => by simp at h; omega)
  · rw [if_neg c1]
    by_cases c2 : l = 108
    · subst c2; rw [if_pos rfl]; exact if_neg (fun z => by simp at h; omega)
    · rw [if_neg c2]
      by_cases c3 : l = 116
      · subst c3; rw [if_pos rfl]; exact if_neg (fun z => by simp at h; omega)
      · rw [if_neg c3]
        by_cases c4 : l = 109
        · subst c4; rw [if_pos rfl]; exact if_neg (fun z => by simp at h; omega)
        · rw [if_neg c4]
          by_cases c5 : l = 103
          · subst c5; rw [if_pos rfl]; exact if_neg (fun z => by simp at h; omega)
          · rw [if_neg c5]
theorem nmb_c (x : Int) : (x = 116 ∧ nmb x = 4) ∨ (x = 108 ∧ nmb x = 3) ∨ (x = 103 ∧ nmb x = 3) ∨ (x = 109 ∧ nmb x = 2) ∨ (x = 110 ∧ nmb x = 1) ∨ (nmb x = 0 ∧ x ≠ 116 ∧ x ≠ 108 ∧ x ≠ 103 ∧ x ≠ 109 ∧ x ≠ 110) := by
  unfold nmb
  (repeat' split) <;> omega
/-- where the numbers begin, one behind the other -/
def qF (tx : Int → Int) (n : Int) : Nat → Int → Int
  | 0, p => p
  | k + 1, p => qF tx n k (p + figF tx n 200 p + 1)
theorem qF_s (tx : Int → Int) (n : Int) : ∀ (k : Nat) (p : Int), qF tx n (k + 1) p = qF tx n k p + figF tx n 200 (qF tx n k p) + 1
  | 0, p => rfl
  | k + 1, p => by
    show qF tx n (k + 1) (p + figF tx n 200 p + 1) = _
    rw [qF_s tx n k]; rfl
theorem vF_q (tx : Int → Int) (n : Int) : ∀ (k : Nat) (p : Int), vF tx n k p = numF tx n (qF tx n k p) (figF tx n 200 (qF tx n k p))
  | 0, p => rfl
  | k + 1, p => by
    show vF tx n k (p + figF tx n 200 p + 1) = _
    rw [vF_q tx n k]; rfl
theorem kF_0 (tx : Int → Int) (n : Int) {m : Nat} {q i : Int} (h : ¬ (1 ≤ figF tx n 200 q ∧ figF tx n 200 q ≤ 2)) : kF tx n m q i = (0, 0) := by
  cases m with
  | zero => rfl
  | succ m => exact if_neg h
theorem kF_1 (tx : Int → Int) (n : Int) {m : Nat} {q i : Int} (h : 1 ≤ figF tx n 200 q ∧ figF tx n 200 q ≤ 2) : kF tx n (m + 1) q i = (if letF tx n (q + figF tx n 200 q) = 59 then (i + 1, q + figF tx n 200 q + 1) else if letF tx n (q + figF tx n 200 q) = 44 then kF tx n m (q + figF tx n 200 q + 1) (i + 1) else (0, 0)) := if_pos h
theorem kF_n (tx : Int → Int) (n : Int) (m : Nat) (q i : Int) : (kF tx n m q i).1 = 0 ∨ i < (kF tx n m q i).1 := by
  rcases kF_r tx n m q i with e | e
  · rw [e]; exact Or.inl rfl
  · exact Or.inr (by omega)
theorem m_begins {l : Launch} {g : Gt} {d : Nat} {Z : Zt} {I : It} {P : Pt'} (hM : LayM Z) (hN : LayQ P) (D : Nat → Int → Int) : Mt l g mX12_begins d 0 0 [vA 131] Z I P (QV (fun I' => DM I' (startD D) ∧ GF I I') Z P) := by
  refine Mt.of kmX12_begins (ls := [vA 131, vX]) (fun _ => rfl) (fun _ => rfl) (okf_k (okf_n rfl)) (fun hok => ?_)
  have loop : ∀ (k : Nat) (j : Int) (J : It), 6 ≤ j → j + k = 12 → (∀ i, 6 ≤ i → i < j → J 133 i = if i = 6 then 12 else 0) → (∀ i, i < 6 → J 133 i = I 133 i) → (∀ a, a ≠ 133 → J a = I a) → Ev l g mX12_begins d 0 0 Z J P 3 [vA 131, vI j] [] (QV (fun I' => DM I' (startD D) ∧ GF I I') Z P) := by
    intro k
    induction k with
    | zero =>
      intro j J h0 h1 q1 q2 q3
      refine ev_iload_1 3 dX12_begins_3 ?_
      refine ev_bipush 4 dX12_begins_4 ⟨by decide, by decide⟩ ?_
      refine ev_icmp_ge 6 33 dX12_begins_6 rfl (fun h6 => ?_) (fun h6 => ?_)
      · refine ev_vret 33 dX12_begins_33 ?_ rfl
        refine QV_of ⟨⟨⟨?_, ?_, ?_, ?_, ?_, fun _ => ?_, fun z => ?_⟩, fun t a c => ?_, fun t a c => ?_, fun t a c => ?_, fun t a c => ?_⟩, q2, fun i a => by rw [q3 134 (by omega)], fun i a => by rw [q3 135 (by omega)], fun i a => by rw [q3 136 (by omega)], fun i a => by rw [q3 137 (by omega)], fun a a1 _ _ _ _ => q3 a a1⟩
        · rw [q1 6 (by omega) (by omega)]; simp [startD, upD]
        · rw [q1 7 (by omega) (by omega)]; simp [startD, upD]
        · rw [q1 8 (by omega) (by omega)]; simp [startD, upD]
        · rw [q1 9 (by omega) (by omega)]; simp [startD, upD]
        · rw [q1 10 (by omega) (by omega)]; simp [startD, upD]
        · rw [q1 11 (by omega) (by omega)]; simp
        · simp [startD, upD] at z
        · simp [startD, upD] at c; omega
        · simp [startD, upD] at c; omega
        · simp [startD, upD] at c; omega
        · simp [startD, upD] at c; omega
      · exfalso; omega
    | succ k ih =>
      intro j J h0 h1 q1 q2 q3
      refine ev_iload_1 3 dX12_begins_3 ?_
      refine ev_bipush 4 dX12_begins_4 ⟨by decide, by decide⟩ ?_
      refine ev_icmp_ge 6 33 dX12_begins_6 rfl (fun h6 => ?_) (fun h6 => ?_)
      · exfalso; omega
      · refine ev_aload_0 9 dX12_begins_9 ?_
        refine ev_getA 10 3 dX12_begins_10 fa_X12_13 (kd_131 hM) (pr_131_3 hN) rfl ?_
        refine ev_iload_1 13 dX12_begins_13 ?_
        refine ev_iload_1 14 dX12_begins_14 ?_
        refine ev_bipush 15 dX12_begins_15 ⟨by decide, by decide⟩ ?_
        refine ev_jne 17 25 dX12_begins_17 rfl (fun h17 => ?_) (fun h17 => ?_)
        · refine ev_iconst 25 dX12_begins_25 ⟨by decide, by decide⟩ ?_
          refine ev_iast 26 dX12_begins_26 (kd_133 hM) ⟨by omega, by have := (ln_133 hM); omega⟩ ?_
          refine ev_iinc_1 27 dX12_begins_27 ⟨by omega, by omega⟩ rfl rfl ?_
          refine ev_goto 30 3 dX12_begins_30 rfl ?_
          refine ih (j + 1) _ (by omega) (by omega) (fun i a c => ?_) (fun i a => by rw [upI_k (by omega)]; exact q2 i a) (fun a z => by rw [upI_A z]; exact q3 a z)
          by_cases z : i = j
          · subst z
            rw [upI_s]
            first
              | exact (if_pos (by omega)).symm
              | exact (if_neg (by omega)).symm
          · rw [upI_k z]; exact q1 i a (by omega)
        · refine ev_bipush 20 dX12_begins_20 ⟨by decide, by decide⟩ ?_
          refine ev_goto 22 26 dX12_begins_22 rfl ?_
          refine ev_iast 26 dX12_begins_26 (kd_133 hM) ⟨by omega, by have := (ln_133 hM); omega⟩ ?_
          refine ev_iinc_1 27 dX12_begins_27 ⟨by omega, by omega⟩ rfl rfl ?_
          refine ev_goto 30 3 dX12_begins_30 rfl ?_
          refine ih (j + 1) _ (by omega) (by omega) (fun i a c => ?_) (fun i a => by rw [upI_k (by omega)]; exact q2 i a) (fun a z => by rw [upI_A z]; exact q3 a z)
          by_cases z : i = j
          · subst z
            rw [upI_s]
            first
              | exact (if_pos (by omega)).symm
              | exact (if_neg (by omega)).symm
          · rw [upI_k z]; exact q1 i a (by omega)
  refine ev_bipush 0 dX12_begins_0 ⟨by decide, by decide⟩ ?_
  refine ev_istore_1 2 dX12_begins_2 rfl rfl ?_
  exact loop 6 6 I (by omega) (by omega) (fun i a c => by omega) (fun _ _ => rfl) (fun _ _ => rfl)
theorem m_isPut {l : Launch} {g : Gt} {d : Nat} {Z : Zt} {I : It} {P : Pt'} (hM : LayM Z) (hN : LayQ P) {R : Nat} {len f w q y : Int} (hR : R = 134 ∨ R = 135 ∨ R = 136 ∨ R = 137) (kR : Z.1 R = 15) (lR : Z.2.1 R = len) (hl : len ≤ 48) (hf : 0 ≤ f ∧ f ≤ 24) (hw : 0 ≤ w ∧ w ≤ 4) (hq : 7 ≤ q ∧ q ≤ 10) (hc : 0 ≤ I 133 q ∧ I 133 q ≤ 8) (h3 : I 133 q ≠ y → 0 ≤ w * I 133 q ∧ f + w * I 133 q + w ≤ len) : Mt l g mX12_isPut d 0 0 [vA 131, vA R, vI f, vI w, vI q, vI y] Z I P (QM (fun r I' => (I 133 q = y ∧ r = 0 ∧ I' = I) ∨ (I 133 q ≠ y ∧ r = 1 ∧ PT R f w q I I')) Z P) := by
  refine Mt.of kmX12_isPut (ls := [vA 131, vA R, vI f, vI w, vI q, vI y, vX]) (fun _ => rfl) (fun _ => rfl) (okf_k (okf_k (okf_k (okf_k (okf_k (okf_k (okf_n rfl))))))) (fun hok => ?_)
  have loop : I 133 q ≠ y → ∀ (r : Nat) (k : Int) (J : It), 0 ≤ k → k + r = w → (∀ j, 0 ≤ j → j < k → J R (f + w * I 133 q + j) = I 144 j) → (∀ i, (i < f + w * I 133 q ∨ f + w * I 133 q + k ≤ i) → J R i = I R i) → (∀ a, a ≠ R → J a = I a) → Ev l g mX12_isPut d 0 0 Z J P 17 [vA 131, vA R, vI f, vI w, vI q, vI y, vI k] [] (QM (fun r I' => (I 133 q = y ∧ r = 0 ∧ I' = I) ∨ (I 133 q ≠ y ∧ r = 1 ∧ PT R f w q I I')) Z P) := by
    intro hy r
    have hb := h3 hy
    induction r with
    | zero =>
      intro k J h0 h1 g1 g2 g3
      have e3 : J 133 q = I 133 q := by rw [g3 133 (by omega)]
      refine ev_iload_6 17 dX12_isPut_17 ?_
      refine ev_iload_3 19 dX12_isPut_19 ?_
      refine ev_icmp_ge 20 52 dX12_isPut_20 rfl (fun h20 => ?_) (fun h20 => ?_)
      · refine ev_aload_0 52 dX12_isPut_52 ?_
        refine ev_getA 53 3 dX12_isPut_53 fa_X12_13 (kd_131 hM) (pr_131_3 hN) rfl ?_
        refine ev_iload_4 56 dX12_isPut_56 ?_
        refine ev_dup2 58 dX12_isPut_58 ?_
        refine ev_iald 59 dX12_isPut_59 (kd_133 hM) ⟨by omega, by have := (ln_133 hM); omega⟩ ?_
        try simp only [e3]
        refine ev_iconst 60 dX12_isPut_60 ⟨by decide, by decide⟩ ?_
        refine ev_iadd 61 dX12_isPut_61 ⟨by omega, by omega⟩ ?_
        refine ev_iast 62 dX12_isPut_62 (kd_133 hM) ⟨by omega, by have := (ln_133 hM); omega⟩ ?_
        refine ev_iconst 63 dX12_isPut_63 ⟨by decide, by decide⟩ ?_
        refine ev_zret 64 dX12_isPut_64 (by first | omega | exact b2_or _) ?_ rfl
        refine QM_of (Or.inr ⟨hy, rfl, fun j a c => ?_, fun i a => ?_, upI_s _ _ _ _, fun j a => ?_, fun a a1 a2 => ?_⟩)
        · rw [upI_A (by omega)]; exact g1 j a (by omega)
        · rw [upI_A (by omega)]; exact g2 i (by omega)
        · rw [upI_k a, g3 133 (by omega)]
        · rw [upI_A a1]; exact g3 a a2
      · exfalso; omega
    | succ r ih =>
      intro k J h0 h1 g1 g2 g3
      have e3 : J 133 q = I 133 q := by rw [g3 133 (by omega)]
      have e4 : J 144 k = I 144 k := by rw [g3 144 (by omega)]
      refine ev_iload_6 17 dX12_isPut_17 ?_
      refine ev_iload_3 19 dX12_isPut_19 ?_
      refine ev_icmp_ge 20 52 dX12_isPut_20 rfl (fun h20 => ?_) (fun h20 => ?_)
      · exfalso; omega
      · refine ev_aload_1 23 dX12_isPut_23 ?_
        refine ev_iload_2 24 dX12_isPut_24 ?_
        refine ev_iload_3 25 dX12_isPut_25 ?_
        refine ev_aload_0 26 dX12_isPut_26 ?_
        refine ev_getA 27 3 dX12_isPut_27 fa_X12_13 (kd_131 hM) (pr_131_3 hN) rfl ?_
        refine ev_iload_4 30 dX12_isPut_30 ?_
        refine ev_iald 32 dX12_isPut_32 (kd_133 hM) ⟨by omega, by have := (ln_133 hM); omega⟩ ?_
        try simp only [e3, e4]
        refine ev_imul 33 dX12_isPut_33 ⟨by omega, by omega⟩ ?_
        refine ev_iadd 34 dX12_isPut_34 ⟨by omega, by omega⟩ ?_
        refine ev_iload_6 35 dX12_isPut_35 ?_
        refine ev_iadd 37 dX12_isPut_37 ⟨by omega, by omega⟩ ?_
        refine ev_aload_0 38 dX12_isPut_38 ?_
        refine ev_getA 39 21 dX12_isPut_39 fa_X12_49 (kd_131 hM) (pr_131_21 hN) rfl ?_
        refine ev_iload_6 42 dX12_isPut_42 ?_
        refine ev_iald 44 dX12_isPut_44 (kd_144 hM) ⟨by omega, by have := (ln_144 hM); omega⟩ ?_
        try simp only [e3, e4]
        refine ev_iast 45 dX12_isPut_45 kR ⟨by omega, by have := lR; omega⟩ ?_
        refine ev_iinc_6 46 dX12_isPut_46 ⟨by omega, by omega⟩ rfl rfl ?_
        refine ev_goto 49 17 dX12_isPut_49 rfl ?_
        refine ih (k + 1) _ (by omega) (by omega) (fun j a c => ?_) (fun i a => ?_) (fun a z => by rw [upI_A z]; exact g3 a z)
        · by_cases z : j = k
          · subst z; exact upI_s _ _ _ _
          · rw [upI_k (by omega)]; exact g1 j a (by omega)
        · rw [upI_k (by omega)]; exact g2 i (by omega)
  refine ev_aload_0 0 dX12_isPut_0 ?_
  refine ev_getA 1 3 dX12_isPut_1 fa_X12_13 (kd_131 hM) (pr_131_3 hN) rfl ?_
  refine ev_iload_4 4 dX12_isPut_4 ?_
  refine ev_iald 6 dX12_isPut_6 (kd_133 hM) ⟨by omega, by have := (ln_133 hM); omega⟩ ?_
  refine ev_iload_5 7 dX12_isPut_7 ?_
  refine ev_jne 9 14 dX12_isPut_9 rfl (fun h9 => ?_) (fun h9 => ?_)
  · refine ev_iconst 14 dX12_isPut_14 ⟨by decide, by decide⟩ ?_
    refine ev_istore_6 15 dX12_isPut_15 rfl rfl ?_
    exact loop (by omega) w.toNat 0 I (by omega) (by omega) (fun j a c => by omega) (fun _ _ => rfl) (fun _ _ => rfl)
  · refine ev_iconst 12 dX12_isPut_12 ⟨by decide, by decide⟩ ?_
    refine ev_zret 13 dX12_isPut_13 (by first | omega | exact b2_or _) ?_ rfl
    exact QM_of (Or.inl ⟨by omega, rfl, rfl⟩)
theorem DM.n {I : It} {D : Nat → Int → Int} {x : Int} (h : DM I D) : DM (upI I 133 6 x) (upD D 0 0 x) := by
  obtain ⟨⟨h1, h2, h3, h4, h5, h6, h7⟩, k1, k2, k3, k4⟩ := h
  refine ⟨⟨?_, ?_, ?_, ?_, ?_, fun z => ?_, fun z => ?_⟩, fun t a c => ?_, fun t a c => ?_, fun t a c => ?_, fun t a c => ?_⟩
  · rw [upI_s]; simp [upD]
  · rw [upI_k (by omega)]; simpa [upD] using h2
  · rw [upI_k (by omega)]; simpa [upD] using h3
  · rw [upI_k (by omega)]; simpa [upD] using h4
  · rw [upI_k (by omega)]; simpa [upD] using h5
  · rw [upI_k (by omega)]; exact h6 (by simpa [upD] using z)
  · rw [upI_k (by omega)]; exact h7 (by simpa [upD] using z)
  · rw [upI_A (by omega)]; exact k1 t a (by simpa [upD] using c)
  · rw [upI_A (by omega)]; exact k2 t a (by simpa [upD] using c)
  · rw [upI_A (by omega)]; exact k3 t a (by simpa [upD] using c)
  · rw [upI_A (by omega)]; exact k4 t a (by simpa [upD] using c)
theorem DM.l {I I' : It} {D : Nat → Int → Int} (hC : Cn D) (h : DM I D) (p : PT 134 24 3 7 (upI I 133 11 1) I') : DM I' (upD (upD (upD (upD D 1 (D 0 1) (I 144 0)) 2 (D 0 1) (I 144 1)) 3 (D 0 1) (I 144 2)) 0 1 (D 0 1 + 1)) := by
  obtain ⟨⟨h1, h2, h3, h4, h5, h6, h7⟩, k1, k2, k3, k4⟩ := h
  obtain ⟨p1, p2, p3, p4, p5⟩ := p
  obtain ⟨c1, c2, c3, c4, c5⟩ := hC
  have eq : upI I 133 11 1 133 7 = D 0 1 := by rw [upI_k (by omega)]; assumption
  rw [eq] at p1 p2 p3
  have e144 : upI I 133 11 1 144 = I 144 := upI_A (by omega)
  rw [e144] at p1
  refine ⟨⟨?_, ?_, ?_, ?_, ?_, fun z => ?_, fun z => ?_⟩, fun t a c => ?_, fun t a c => ?_, fun t a c => ?_, fun t a c => ?_⟩
  · rw [p4 6 (by omega), upI_k (by omega)]; simpa [upD] using (by assumption : I 133 6 = D 0 0)
  · rw [p3]; simp [upD]
  · rw [p4 8 (by omega), upI_k (by omega)]; simpa [upD] using (by assumption : I 133 8 = D 0 5)
  · rw [p4 9 (by omega), upI_k (by omega)]; simpa [upD] using (by assumption : I 133 9 = D 0 10)
  · rw [p4 10 (by omega), upI_k (by omega)]; simpa [upD] using (by assumption : I 133 10 = D 0 13)
  · simp [upD] at z; omega
  · rw [p4 11 (by omega), upI_s]
  · have c2 : t < D 0 1 + 1 := by simpa [upD] using c
    by_cases z : t = D 0 1
    · subst z
      exact ⟨by have := p1 0 (by omega) (by omega); rw [show (24 + 3 * D 0 1 + 0 : Int) = 24 + 3 * D 0 1 by omega] at this; rw [this]; simp [upD], by have := p1 1 (by omega) (by omega); rw [this]; simp [upD], by have := p1 2 (by omega) (by omega); rw [this]; simp [upD]⟩
    · have kk := k1 t a (by omega)
      rw [p2 _ (by omega), p2 _ (by omega), p2 _ (by omega), upI_A (by omega)]
      simpa [upD, z] using kk
  · rw [p5 135 (by omega) (by omega), upI_A (by omega)]
    have kk := k2 t a (by simpa [upD] using c)
    simpa [upD] using kk
  · rw [p5 136 (by omega) (by omega), upI_A (by omega)]
    have kk := k3 t a (by simpa [upD] using c)
    simpa [upD] using kk
  · rw [p5 137 (by omega) (by omega), upI_A (by omega)]
    have kk := k4 t a (by simpa [upD] using c)
    simpa [upD] using kk
theorem DM.t {I I' : It} {D : Nat → Int → Int} (hC : Cn D) (h : DM I D) (p : PT 135 24 4 8 (upI I 133 11 1) I') : DM I' (upD (upD (upD (upD (upD D 4 (D 0 5) (I 144 1)) 5 (D 0 5) (I 144 0)) 6 (D 0 5) (I 144 2)) 7 (D 0 5) (I 144 3)) 0 5 (D 0 5 + 1)) := by
  obtain ⟨⟨h1, h2, h3, h4, h5, h6, h7⟩, k1, k2, k3, k4⟩ := h
  obtain ⟨p1, p2, p3, p4, p5⟩ := p
  obtain ⟨c1, c2, c3, c4, c5⟩ := hC
  have eq : upI I 133 11 1 133 8 = D 0 5 := by rw [upI_k (by omega)]; assumption
  rw [eq] at p1 p2 p3
  have e144 : upI I 133 11 1 144 = I 144 := upI_A (by omega)
  rw [e144] at p1
  refine ⟨⟨?_, ?_, ?_, ?_, ?_, fun z => ?_, fun z => ?_⟩, fun t a c => ?_, fun t a c => ?_, fun t a c => ?_, fun t a c => ?_⟩
  · rw [p4 6 (by omega), upI_k (by omega)]; simpa [upD] using (by assumption : I 133 6 = D 0 0)
  · rw [p4 7 (by omega), upI_k (by omega)]; simpa [upD] using (by assumption : I 133 7 = D 0 1)
  · rw [p3]; simp [upD]
  · rw [p4 9 (by omega), upI_k (by omega)]; simpa [upD] using (by assumption : I 133 9 = D 0 10)
  · rw [p4 10 (by omega), upI_k (by omega)]; simpa [upD] using (by assumption : I 133 10 = D 0 13)
  · simp [upD] at z; omega
  · rw [p4 11 (by omega), upI_s]
  · rw [p5 134 (by omega) (by omega), upI_A (by omega)]
    have kk := k1 t a (by simpa [upD] using c)
    simpa [upD] using kk
  · have c2 : t < D 0 5 + 1 := by simpa [upD] using c
    by_cases z : t = D 0 5
    · subst z
      exact ⟨by have := p1 0 (by omega) (by omega); rw [show (24 + 4 * D 0 5 + 0 : Int) = 24 + 4 * D 0 5 by omega] at this; rw [this]; simp [upD], by have := p1 1 (by omega) (by omega); rw [this]; simp [upD], by have := p1 2 (by omega) (by omega); rw [this]; simp [upD], by have := p1 3 (by omega) (by omega); rw [this]; simp [upD]⟩
    · have kk := k2 t a (by omega)
      rw [p2 _ (by omega), p2 _ (by omega), p2 _ (by omega), p2 _ (by omega), upI_A (by omega)]
      simpa [upD, z] using kk
  · rw [p5 136 (by omega) (by omega), upI_A (by omega)]
    have kk := k3 t a (by simpa [upD] using c)
    simpa [upD] using kk
  · rw [p5 137 (by omega) (by omega), upI_A (by omega)]
    have kk := k4 t a (by simpa [upD] using c)
    simpa [upD] using kk
theorem DM.m {I I' : It} {D : Nat → Int → Int} (hC : Cn D) (h : DM I D) (p : PT 136 16 2 9 (upI I 133 11 1) I') : DM I' (upD (upD (upD D 8 (D 0 10) (I 144 0)) 9 (D 0 10) (I 144 1)) 0 10 (D 0 10 + 1)) := by
  obtain ⟨⟨h1, h2, h3, h4, h5, h6, h7⟩, k1, k2, k3, k4⟩ := h
  obtain ⟨p1, p2, p3, p4, p5⟩ := p
  obtain ⟨c1, c2, c3, c4, c5⟩ := hC
  have eq : upI I 133 11 1 133 9 = D 0 10 := by rw [upI_k (by omega)]; assumption
  rw [eq] at p1 p2 p3
  have e144 : upI I 133 11 1 144 = I 144 := upI_A (by omega)
  rw [e144] at p1
  refine ⟨⟨?_, ?_, ?_, ?_, ?_, fun z => ?_, fun z => ?_⟩, fun t a c => ?_, fun t a c => ?_, fun t a c => ?_, fun t a c => ?_⟩
  · rw [p4 6 (by omega), upI_k (by omega)]; simpa [upD] using (by assumption : I 133 6 = D 0 0)
  · rw [p4 7 (by omega), upI_k (by omega)]; simpa [upD] using (by assumption : I 133 7 = D 0 1)
  · rw [p4 8 (by omega), upI_k (by omega)]; simpa [upD] using (by assumption : I 133 8 = D 0 5)
  · rw [p3]; simp [upD]
  · rw [p4 10 (by omega), upI_k (by omega)]; simpa [upD] using (by assumption : I 133 10 = D 0 13)
  · simp [upD] at z; omega
  · rw [p4 11 (by omega), upI_s]
  · rw [p5 134 (by omega) (by omega), upI_A (by omega)]
    have kk := k1 t a (by simpa [upD] using c)
    simpa [upD] using kk
  · rw [p5 135 (by omega) (by omega), upI_A (by omega)]
    have kk := k2 t a (by simpa [upD] using c)
    simpa [upD] using kk
  · have c2 : t < D 0 10 + 1 := by simpa [upD] using c
    by_cases z : t = D 0 10
    · subst z
      exact ⟨by have := p1 0 (by omega) (by omega); rw [show (16 + 2 * D 0 10 + 0 : Int) = 16 + 2 * D 0 10 by omega] at this; rw [this]; simp [upD], by have := p1 1 (by omega) (by omega); rw [this]; simp [upD]⟩
    · have kk := k3 t a (by omega)
      rw [p2 _ (by omega), p2 _ (by omega), upI_A (by omega)]
      simpa [upD, z] using kk
  · rw [p5 137 (by omega) (by omega), upI_A (by omega)]
    have kk := k4 t a (by simpa [upD] using c)
    simpa [upD] using kk
theorem DM.g {I I' : It} {D : Nat → Int → Int} (hC : Cn D) (h : DM I D) (p : PT 137 15 3 10 (upI I 133 11 1) I') : DM I' (upD (upD (upD (upD D 10 (D 0 13) (I 144 0)) 11 (D 0 13) (I 144 1)) 12 (D 0 13) (I 144 2)) 0 13 (D 0 13 + 1)) := by
  obtain ⟨⟨h1, h2, h3, h4, h5, h6, h7⟩, k1, k2, k3, k4⟩ := h
  obtain ⟨p1, p2, p3, p4, p5⟩ := p
  obtain ⟨c1, c2, c3, c4, c5⟩ := hC
  have eq : upI I 133 11 1 133 10 = D 0 13 := by rw [upI_k (by omega)]; assumption
  rw [eq] at p1 p2 p3
  have e144 : upI I 133 11 1 144 = I 144 := upI_A (by omega)
  rw [e144] at p1
  refine ⟨⟨?_, ?_, ?_, ?_, ?_, fun z => ?_, fun z => ?_⟩, fun t a c => ?_, fun t a c => ?_, fun t a c => ?_, fun t a c => ?_⟩
  · rw [p4 6 (by omega), upI_k (by omega)]; simpa [upD] using (by assumption : I 133 6 = D 0 0)
  · rw [p4 7 (by omega), upI_k (by omega)]; simpa [upD] using (by assumption : I 133 7 = D 0 1)
  · rw [p4 8 (by omega), upI_k (by omega)]; simpa [upD] using (by assumption : I 133 8 = D 0 5)
  · rw [p4 9 (by omega), upI_k (by omega)]; simpa [upD] using (by assumption : I 133 9 = D 0 10)
  · rw [p3]; simp [upD]
  · simp [upD] at z; omega
  · rw [p4 11 (by omega), upI_s]
  · rw [p5 134 (by omega) (by omega), upI_A (by omega)]
    have kk := k1 t a (by simpa [upD] using c)
    simpa [upD] using kk
  · rw [p5 135 (by omega) (by omega), upI_A (by omega)]
    have kk := k2 t a (by simpa [upD] using c)
    simpa [upD] using kk
  · rw [p5 136 (by omega) (by omega), upI_A (by omega)]
    have kk := k3 t a (by simpa [upD] using c)
    simpa [upD] using kk
  · have c2 : t < D 0 13 + 1 := by simpa [upD] using c
    by_cases z : t = D 0 13
    · subst z
      exact ⟨by have := p1 0 (by omega) (by omega); rw [show (15 + 3 * D 0 13 + 0 : Int) = 15 + 3 * D 0 13 by omega] at this; rw [this]; simp [upD], by have := p1 1 (by omega) (by omega); rw [this]; simp [upD], by have := p1 2 (by omega) (by omega); rw [this]; simp [upD]⟩
    · have kk := k4 t a (by omega)
      rw [p2 _ (by omega), p2 _ (by omega), p2 _ (by omega), upI_A (by omega)]
      simpa [upD, z] using kk
theorem m_isGood {l : Launch} {g : Gt} {d : Nat} {Z : Zt} {I : It} {P : Pt'} (hM : LayM Z) (hN : LayQ P) {D : Nat → Int → Int} (hD : DM I D) (hC : Cn D) {L : Int} (hg : L = 110 ∨ L = 108 ∨ L = 116 ∨ L = 109 ∨ L = 103) (hg0 : 0 ≤ I 144 0) (hg1 : 2 ≤ nmb L → 0 ≤ I 144 1) (hg2 : 3 ≤ nmb L → 0 ≤ I 144 2) (hg3 : 4 ≤ nmb L → 0 ≤ I 144 3) : Mt l g mX12_isGood (d + 1) 0 0 [vA 131, vI L] Z I P (QM (fun r I' => GF I I' ∧ ((∃ D', addG D L (nmb L) (I 144 0) (I 144 1) (I 144 2) (I 144 3) = some D' ∧ r = 1 ∧ DM I' D') ∨ (addG D L (nmb L) (I 144 0) (I 144 1) (I 144 2) (I 144 3) = none ∧ r = 0))) Z P) := by
  obtain ⟨⟨h1, h2, h3, h4, h5, h6, h7⟩, k1, k2, k3, k4⟩ := id hD
  obtain ⟨c1, c2, c3, c4, c5⟩ := id hC
  have u6 : ∀ x, upI I 133 11 x 133 6 = D 0 0 := fun x => by rw [upI_k (by omega)]; exact h1
  refine Mt.of kmX12_isGood (ls := [vA 131, vI L, vX, vX, vX]) (fun _ => rfl) (fun _ => rfl) (okf_k (okf_k (okf_n rfl))) (fun hok => ?_)
  have nm1 : nmb 110 = 1 := rfl
  have nm2 : nmb 108 = 3 := rfl
  have nm3 : nmb 116 = 4 := rfl
  have nm4 : nmb 109 = 2 := rfl
  have nm5 : nmb 103 = 3 := rfl
  rcases hg with rfl | rfl | rfl | rfl | rfl
  · have ea : addG D 110 (nmb 110) (I 144 0) (I 144 1) (I 144 2) (I 144 3) = if (1 : Int) = 1 ∧ D 0 1 + D 0 5 + D 0 10 + D 0 13 ≤ 0 ∧ 4 ≤ I 144 0 ∧ I 144 0 ≤ 24 then some (upD D 0 0 (I 144 0)) else none := rfl
    rw [ea]
    have h8 : (D 0 1 + D 0 5 + D 0 10 + D 0 13 ≤ 0 ∧ I 133 11 = 0) ∨ (0 < D 0 1 + D 0 5 + D 0 10 + D 0 13 ∧ I 133 11 = 1) := by
      by_cases z : D 0 1 + D 0 5 + D 0 10 + D 0 13 ≤ 0
      · exact Or.inl ⟨z, h6 z⟩
      · exact Or.inr ⟨by omega, h7 (by omega)⟩
    have u11 : upI I 133 6 (I 144 0) 133 11 = I 133 11 := upI_k (by omega)
    refine ev_aload_0 0 dX12_isGood_0 ?_
    refine ev_getA 1 21 dX12_isGood_1 fa_X12_49 (kd_131 hM) (pr_131_21 hN) rfl ?_
    refine ev_iconst 4 dX12_isGood_4 ⟨by decide, by decide⟩ ?_
    refine ev_iald 5 dX12_isGood_5 (kd_144 hM) ⟨by omega, by have := (ln_144 hM); omega⟩ ?_
    try simp only [u11]
    refine ev_istore_2 6 dX12_isGood_6 rfl rfl ?_
    refine ev_aload_0 7 dX12_isGood_7 ?_
    refine ev_getA 8 21 dX12_isGood_8 fa_X12_49 (kd_131 hM) (pr_131_21 hN) rfl ?_
    refine ev_iconst 11 dX12_isGood_11 ⟨by decide, by decide⟩ ?_
    refine ev_iald 12 dX12_isGood_12 (kd_144 hM) ⟨by omega, by have := (ln_144 hM); omega⟩ ?_
    try simp only [u11]
    refine ev_istore_3 13 dX12_isGood_13 rfl rfl ?_
    refine ev_aload_0 14 dX12_isGood_14 ?_
    refine ev_getA 15 21 dX12_isGood_15 fa_X12_49 (kd_131 hM) (pr_131_21 hN) rfl ?_
    refine ev_iconst 18 dX12_isGood_18 ⟨by decide, by decide⟩ ?_
    refine ev_iald 19 dX12_isGood_19 (kd_144 hM) ⟨by omega, by have := (ln_144 hM); omega⟩ ?_
    try simp only [u11]
    refine ev_istore_4 20 dX12_isGood_20 rfl rfl ?_
    refine ev_iload_1 22 dX12_isGood_22 ?_
    refine ev_bipush 23 dX12_isGood_23 ⟨by decide, by decide⟩ ?_
    refine ev_jne 25 66 dX12_isGood_25 rfl (fun h25 => ?_) (fun h25 => ?_)
    · exfalso; omega
    · refine ev_aload_0 28 dX12_isGood_28 ?_
      refine ev_getA 29 3 dX12_isGood_29 fa_X12_13 (kd_131 hM) (pr_131_3 hN) rfl ?_
      refine ev_bipush 32 dX12_isGood_32 ⟨by decide, by decide⟩ ?_
      refine ev_iload_2 34 dX12_isGood_34 ?_
      refine ev_iast 35 dX12_isGood_35 (kd_133 hM) ⟨by omega, by have := (ln_133 hM); omega⟩ ?_
      refine ev_iload_2 36 dX12_isGood_36 ?_
      refine ev_i2l 37 dX12_isGood_37 ?_
      refine ev_ldc2 38 dX12_isGood_38 kl_X12_91 ⟨by decide, by decide⟩ ?_
      refine ev_ldc2 41 dX12_isGood_41 kl_X12_93 ⟨by decide, by decide⟩ ?_
      refine ev_cSp_3 44 dX12_isGood_44 kmX12_in lk_X12_62 (m_in _ _ _) rfl rfl ?_
      try simp (disch := omega) only [upI_s, upI_a, upI_k]
      try simp only [u11]
      refine ev_ifb_eq 47 64 dX12_isGood_47 rfl (fun h47 => ?_) (fun h47 => ?_)
      · refine ev_iconst 64 dX12_isGood_64 ⟨by decide, by decide⟩ ?_
        refine ev_zret 65 dX12_isGood_65 (by first | omega | exact b2_or _) ?_ rfl
        first
          | exact QM_of ⟨GF.rf.up3 (by omega), Or.inr ⟨if_neg (fun z => by have z2 := z.2; omega), rfl⟩⟩
          | exact QM_of ⟨GF.rf.up3 (by omega), Or.inl ⟨_, if_pos ⟨by trivial, by omega⟩, rfl, DM.n hD⟩⟩
      · refine ev_aload_0 50 dX12_isGood_50 ?_
        refine ev_getA 51 3 dX12_isGood_51 fa_X12_13 (kd_131 hM) (pr_131_3 hN) rfl ?_
        refine ev_bipush 54 dX12_isGood_54 ⟨by decide, by decide⟩ ?_
        refine ev_iald 56 dX12_isGood_56 (kd_133 hM) ⟨by omega, by have := (ln_133 hM); omega⟩ ?_
        try simp (disch := omega) only [upI_s, upI_a, upI_k]
        try simp only [u11]
        refine ev_zne 57 64 dX12_isGood_57 rfl (fun h57 => ?_) (fun h57 => ?_)
        · refine ev_iconst 64 dX12_isGood_64 ⟨by decide, by decide⟩ ?_
          refine ev_zret 65 dX12_isGood_65 (by first | omega | exact b2_or _) ?_ rfl
          first
            | exact QM_of ⟨GF.rf.up3 (by omega), Or.inr ⟨if_neg (fun z => by have z2 := z.2; omega), rfl⟩⟩
            | exact QM_of ⟨GF.rf.up3 (by omega), Or.inl ⟨_, if_pos ⟨by trivial, by omega⟩, rfl, DM.n hD⟩⟩
        · refine ev_iconst 60 dX12_isGood_60 ⟨by decide, by decide⟩ ?_
          refine ev_goto 61 65 dX12_isGood_61 rfl ?_
          refine ev_zret 65 dX12_isGood_65 (by first | omega | exact b2_or _) ?_ rfl
          first
            | exact QM_of ⟨GF.rf.up3 (by omega), Or.inr ⟨if_neg (fun z => by have z2 := z.2; omega), rfl⟩⟩
            | exact QM_of ⟨GF.rf.up3 (by omega), Or.inl ⟨_, if_pos ⟨by trivial, by omega⟩, rfl, DM.n hD⟩⟩
  · have uq : upI I 133 11 1 133 7 = D 0 1 := by rw [upI_k (by omega)]; assumption
    have ea : addG D 108 (nmb 108) (I 144 0) (I 144 1) (I 144 2) (I 144 3) = if (3 : Int) = 3 ∧ D 0 1 < 8 ∧ (0 ≤ I 144 0 ∧ I 144 0 ≤ 6) ∧ (0 ≤ I 144 1 ∧ I 144 1 ≤ 9) ∧ (1 ≤ I 144 2 ∧ I 144 2 ≤ 9) then some (upD (upD (upD (upD D 1 (D 0 1) (I 144 0)) 2 (D 0 1) (I 144 1)) 3 (D 0 1) (I 144 2)) 0 1 (D 0 1 + 1)) else none := rfl
    rw [ea]
    refine ev_aload_0 0 dX12_isGood_0 ?_
    refine ev_getA 1 21 dX12_isGood_1 fa_X12_49 (kd_131 hM) (pr_131_21 hN) rfl ?_
    refine ev_iconst 4 dX12_isGood_4 ⟨by decide, by decide⟩ ?_
    refine ev_iald 5 dX12_isGood_5 (kd_144 hM) ⟨by omega, by have := (ln_144 hM); omega⟩ ?_
    try simp only [u6]
    refine ev_istore_2 6 dX12_isGood_6 rfl rfl ?_
    refine ev_aload_0 7 dX12_isGood_7 ?_
    refine ev_getA 8 21 dX12_isGood_8 fa_X12_49 (kd_131 hM) (pr_131_21 hN) rfl ?_
    refine ev_iconst 11 dX12_isGood_11 ⟨by decide, by decide⟩ ?_
    refine ev_iald 12 dX12_isGood_12 (kd_144 hM) ⟨by omega, by have := (ln_144 hM); omega⟩ ?_
    try simp only [u6]
    refine ev_istore_3 13 dX12_isGood_13 rfl rfl ?_
    refine ev_aload_0 14 dX12_isGood_14 ?_
    refine ev_getA 15 21 dX12_isGood_15 fa_X12_49 (kd_131 hM) (pr_131_21 hN) rfl ?_
    refine ev_iconst 18 dX12_isGood_18 ⟨by decide, by decide⟩ ?_
    refine ev_iald 19 dX12_isGood_19 (kd_144 hM) ⟨by omega, by have := (ln_144 hM); omega⟩ ?_
    try simp only [u6]
    refine ev_istore_4 20 dX12_isGood_20 rfl rfl ?_
    refine ev_iload_1 22 dX12_isGood_22 ?_
    refine ev_bipush 23 dX12_isGood_23 ⟨by decide, by decide⟩ ?_
    refine ev_jne 25 66 dX12_isGood_25 rfl (fun h25 => ?_) (fun h25 => ?_)
    · refine ev_aload_0 66 dX12_isGood_66 ?_
      refine ev_getA 67 3 dX12_isGood_67 fa_X12_13 (kd_131 hM) (pr_131_3 hN) rfl ?_
      refine ev_bipush 70 dX12_isGood_70 ⟨by decide, by decide⟩ ?_
      refine ev_iconst 72 dX12_isGood_72 ⟨by decide, by decide⟩ ?_
      refine ev_iast 73 dX12_isGood_73 (kd_133 hM) ⟨by omega, by have := (ln_133 hM); omega⟩ ?_
      refine ev_iload_1 74 dX12_isGood_74 ?_
      refine ev_lsw 75 108 dX12_isGood_75 (by rfl) (by rfl) (by rfl) ?_
      refine ev_iload_2 108 dX12_isGood_108 ?_
      refine ev_bipush 109 dX12_isGood_109 ⟨by decide, by decide⟩ ?_
      refine ev_icmp_ge 111 155 dX12_isGood_111 rfl (fun h111 => ?_) (fun h111 => ?_)
      · refine ev_iconst 155 dX12_isGood_155 ⟨by decide, by decide⟩ ?_
        refine ev_zret 156 dX12_isGood_156 (by first | omega | exact b2_or _) ?_ rfl
        first
          | exact QM_of ⟨GF.rf.up3 (by omega), Or.inr ⟨if_neg (fun z => by have z2 := z.2; omega), rfl⟩⟩
          | (rcases f145 with ⟨f1, f2, f3⟩ | ⟨f1, f2, f3⟩
             · rw [uq] at f1
               first
                 | (exfalso; omega)
                 | exact QM_of ⟨by rw [f3]; exact GF.rf.up3 (by omega), Or.inr ⟨if_neg (fun z => by have z2 := z.2; omega), rfl⟩⟩
             · rw [uq] at f1
               first
                 | (exfalso; omega)
                 | exact QM_of ⟨GF.tr (GF.up3 (j := 11) (x := 1) GF.rf (by omega)) (f3.gf (by omega) (by rw [uq]; omega) (by omega)), Or.inl ⟨_, if_pos ⟨by trivial, by omega⟩, rfl, DM.l hC hD f3⟩⟩)
        
      · refine ev_iload_3 114 dX12_isGood_114 ?_
        refine ev_bipush 115 dX12_isGood_115 ⟨by decide, by decide⟩ ?_
        refine ev_icmp_ge 117 155 dX12_isGood_117 rfl (fun h117 => ?_) (fun h117 => ?_)
        · refine ev_iconst 155 dX12_isGood_155 ⟨by decide, by decide⟩ ?_
          refine ev_zret 156 dX12_isGood_156 (by first | omega | exact b2_or _) ?_ rfl
          first
            | exact QM_of ⟨GF.rf.up3 (by omega), Or.inr ⟨if_neg (fun z => by have z2 := z.2; omega), rfl⟩⟩
            | (rcases f145 with ⟨f1, f2, f3⟩ | ⟨f1, f2, f3⟩
               · rw [uq] at f1
                 first
                   | (exfalso; omega)
                   | exact QM_of ⟨by rw [f3]; exact GF.rf.up3 (by omega), Or.inr ⟨if_neg (fun z => by have z2 := z.2; omega), rfl⟩⟩
               · rw [uq] at f1
                 first
                   | (exfalso; omega)
                   | exact QM_of ⟨GF.tr (GF.up3 (j := 11) (x := 1) GF.rf (by omega)) (f3.gf (by omega) (by rw [uq]; omega) (by omega)), Or.inl ⟨_, if_pos ⟨by trivial, by omega⟩, rfl, DM.l hC hD f3⟩⟩)
          
        · refine ev_iload_4 120 dX12_isGood_120 ?_
          refine ev_i2l 122 dX12_isGood_122 ?_
          refine ev_lconst1 123 dX12_isGood_123 ?_
          refine ev_ldc2 124 dX12_isGood_124 kl_X12_95 ⟨by decide, by decide⟩ ?_
          refine ev_cSp_3 127 dX12_isGood_127 kmX12_in lk_X12_62 (m_in _ _ _) rfl rfl ?_
          try simp (disch := omega) only [upI_s, upI_a, upI_k]
          try simp only [u6]
          refine ev_ifb_eq 130 155 dX12_isGood_130 rfl (fun h130 => ?_) (fun h130 => ?_)
          · refine ev_iconst 155 dX12_isGood_155 ⟨by decide, by decide⟩ ?_
            refine ev_zret 156 dX12_isGood_156 (by first | omega | exact b2_or _) ?_ rfl
            first
              | exact QM_of ⟨GF.rf.up3 (by omega), Or.inr ⟨if_neg (fun z => by have z2 := z.2; omega), rfl⟩⟩
              | (rcases f145 with ⟨f1, f2, f3⟩ | ⟨f1, f2, f3⟩
                 · rw [uq] at f1
                   first
                     | (exfalso; omega)
                     | exact QM_of ⟨by rw [f3]; exact GF.rf.up3 (by omega), Or.inr ⟨if_neg (fun z => by have z2 := z.2; omega), rfl⟩⟩
                 · rw [uq] at f1
                   first
                     | (exfalso; omega)
                     | exact QM_of ⟨GF.tr (GF.up3 (j := 11) (x := 1) GF.rf (by omega)) (f3.gf (by omega) (by rw [uq]; omega) (by omega)), Or.inl ⟨_, if_pos ⟨by trivial, by omega⟩, rfl, DM.l hC hD f3⟩⟩)
            
          · refine ev_aload_0 133 dX12_isGood_133 ?_
            refine ev_aload_0 134 dX12_isGood_134 ?_
            refine ev_getA 135 4 dX12_isGood_135 fa_X12_17 (kd_131 hM) (pr_131_4 hN) rfl ?_
            refine ev_bipush 138 dX12_isGood_138 ⟨by decide, by decide⟩ ?_
            refine ev_iconst 140 dX12_isGood_140 ⟨by decide, by decide⟩ ?_
            refine ev_bipush 141 dX12_isGood_141 ⟨by decide, by decide⟩ ?_
            refine ev_bipush 143 dX12_isGood_143 ⟨by decide, by decide⟩ ?_
            refine ev_cVm_5 145 dX12_isGood_145 kmX12_isPut lk_X12_97 (kd_131 hM) (m_isPut hM hN (R := 134) (len := 48) (f := 24) (w := 3) (q := 7) (y := 8) (by omega) (kd_134 hM) (ln_134 hM) (by omega) (by omega) (by omega) (by omega) (by rw [uq]; omega) (fun z => by rw [uq] at z ⊢; omega)) rfl rfl (fun x145 I145 f145 => ?_)
            refine ev_if_eq 148 155 dX12_isGood_148 rfl (fun h148 => ?_) (fun h148 => ?_)
            · refine ev_iconst 155 dX12_isGood_155 ⟨by decide, by decide⟩ ?_
              refine ev_zret 156 dX12_isGood_156 (by first | omega | exact b2_or _) ?_ rfl
              first
                | exact QM_of ⟨GF.rf.up3 (by omega), Or.inr ⟨if_neg (fun z => by have z2 := z.2; omega), rfl⟩⟩
                | (rcases f145 with ⟨f1, f2, f3⟩ | ⟨f1, f2, f3⟩
                   · rw [uq] at f1
                     first
                       | (exfalso; omega)
                       | exact QM_of ⟨by rw [f3]; exact GF.rf.up3 (by omega), Or.inr ⟨if_neg (fun z => by have z2 := z.2; omega), rfl⟩⟩
                   · rw [uq] at f1
                     first
                       | (exfalso; omega)
                       | exact QM_of ⟨GF.tr (GF.up3 (j := 11) (x := 1) GF.rf (by omega)) (f3.gf (by omega) (by rw [uq]; omega) (by omega)), Or.inl ⟨_, if_pos ⟨by trivial, by omega⟩, rfl, DM.l hC hD f3⟩⟩)
              
            · refine ev_iconst 151 dX12_isGood_151 ⟨by decide, by decide⟩ ?_
              refine ev_goto 152 156 dX12_isGood_152 rfl ?_
              refine ev_zret 156 dX12_isGood_156 (by first | omega | exact b2_or _) ?_ rfl
              first
                | exact QM_of ⟨GF.rf.up3 (by omega), Or.inr ⟨if_neg (fun z => by have z2 := z.2; omega), rfl⟩⟩
                | (rcases f145 with ⟨f1, f2, f3⟩ | ⟨f1, f2, f3⟩
                   · rw [uq] at f1
                     first
                       | (exfalso; omega)
                       | exact QM_of ⟨by rw [f3]; exact GF.rf.up3 (by omega), Or.inr ⟨if_neg (fun z => by have z2 := z.2; omega), rfl⟩⟩
                   · rw [uq] at f1
                     first
                       | (exfalso; omega)
                       | exact QM_of ⟨GF.tr (GF.up3 (j := 11) (x := 1) GF.rf (by omega)) (f3.gf (by omega) (by rw [uq]; omega) (by omega)), Or.inl ⟨_, if_pos ⟨by trivial, by omega⟩, rfl, DM.l hC hD f3⟩⟩)
              
    · exfalso; omega
  · have uq : upI I 133 11 1 133 8 = D 0 5 := by rw [upI_k (by omega)]; assumption
    have ea : addG D 116 (nmb 116) (I 144 0) (I 144 1) (I 144 2) (I 144 3) = if (4 : Int) = 4 ∧ D 0 5 < 6 ∧ (0 ≤ I 144 1 ∧ I 144 1 ≤ 7) ∧ (0 ≤ I 144 0 ∧ I 144 0 < D 0 0) ∧ (0 ≤ I 144 2 ∧ I 144 2 ≤ 20) ∧ (0 ≤ I 144 3 ∧ I 144 3 ≤ 20) then some (upD (upD (upD (upD (upD D 4 (D 0 5) (I 144 1)) 5 (D 0 5) (I 144 0)) 6 (D 0 5) (I 144 2)) 7 (D 0 5) (I 144 3)) 0 5 (D 0 5 + 1)) else none := rfl
    rw [ea]
    refine ev_aload_0 0 dX12_isGood_0 ?_
    refine ev_getA 1 21 dX12_isGood_1 fa_X12_49 (kd_131 hM) (pr_131_21 hN) rfl ?_
    refine ev_iconst 4 dX12_isGood_4 ⟨by decide, by decide⟩ ?_
    refine ev_iald 5 dX12_isGood_5 (kd_144 hM) ⟨by omega, by have := (ln_144 hM); omega⟩ ?_
    try simp only [u6]
    refine ev_istore_2 6 dX12_isGood_6 rfl rfl ?_
    refine ev_aload_0 7 dX12_isGood_7 ?_
    refine ev_getA 8 21 dX12_isGood_8 fa_X12_49 (kd_131 hM) (pr_131_21 hN) rfl ?_
    refine ev_iconst 11 dX12_isGood_11 ⟨by decide, by decide⟩ ?_
    refine ev_iald 12 dX12_isGood_12 (kd_144 hM) ⟨by omega, by have := (ln_144 hM); omega⟩ ?_
    try simp only [u6]
    refine ev_istore_3 13 dX12_isGood_13 rfl rfl ?_
    refine ev_aload_0 14 dX12_isGood_14 ?_
    refine ev_getA 15 21 dX12_isGood_15 fa_X12_49 (kd_131 hM) (pr_131_21 hN) rfl ?_
    refine ev_iconst 18 dX12_isGood_18 ⟨by decide, by decide⟩ ?_
    refine ev_iald 19 dX12_isGood_19 (kd_144 hM) ⟨by omega, by have := (ln_144 hM); omega⟩ ?_
    try simp only [u6]
    refine ev_istore_4 20 dX12_isGood_20 rfl rfl ?_
    refine ev_iload_1 22 dX12_isGood_22 ?_
    refine ev_bipush 23 dX12_isGood_23 ⟨by decide, by decide⟩ ?_
    refine ev_jne 25 66 dX12_isGood_25 rfl (fun h25 => ?_) (fun h25 => ?_)
    · refine ev_aload_0 66 dX12_isGood_66 ?_
      refine ev_getA 67 3 dX12_isGood_67 fa_X12_13 (kd_131 hM) (pr_131_3 hN) rfl ?_
      refine ev_bipush 70 dX12_isGood_70 ⟨by decide, by decide⟩ ?_
      refine ev_iconst 72 dX12_isGood_72 ⟨by decide, by decide⟩ ?_
      refine ev_iast 73 dX12_isGood_73 (kd_133 hM) ⟨by omega, by have := (ln_133 hM); omega⟩ ?_
      refine ev_iload_1 74 dX12_isGood_74 ?_
      refine ev_lsw 75 157 dX12_isGood_75 (by rfl) (by rfl) (by rfl) ?_
      refine ev_iload_2 157 dX12_isGood_157 ?_
      refine ev_aload_0 158 dX12_isGood_158 ?_
      refine ev_getA 159 3 dX12_isGood_159 fa_X12_13 (kd_131 hM) (pr_131_3 hN) rfl ?_
      refine ev_bipush 162 dX12_isGood_162 ⟨by decide, by decide⟩ ?_
      refine ev_iald 164 dX12_isGood_164 (kd_133 hM) ⟨by omega, by have := (ln_133 hM); omega⟩ ?_
      try simp (disch := omega) only [upI_s, upI_a, upI_k]
      try simp only [u6]
      refine ev_icmp_ge 165 214 dX12_isGood_165 rfl (fun h165 => ?_) (fun h165 => ?_)
      · refine ev_iconst 214 dX12_isGood_214 ⟨by decide, by decide⟩ ?_
        refine ev_zret 215 dX12_isGood_215 (by first | omega | exact b2_or _) ?_ rfl
        first
          | exact QM_of ⟨GF.rf.up3 (by omega), Or.inr ⟨if_neg (fun z => by have z2 := z.2; omega), rfl⟩⟩
          | (rcases f204 with ⟨f1, f2, f3⟩ | ⟨f1, f2, f3⟩
             · rw [uq] at f1
               first
                 | (exfalso; omega)
                 | exact QM_of ⟨by rw [f3]; exact GF.rf.up3 (by omega), Or.inr ⟨if_neg (fun z => by have z2 := z.2; omega), rfl⟩⟩
             · rw [uq] at f1
               first
                 | (exfalso; omega)
                 | exact QM_of ⟨GF.tr (GF.up3 (j := 11) (x := 1) GF.rf (by omega)) (f3.gf (by omega) (by rw [uq]; omega) (by omega)), Or.inl ⟨_, if_pos ⟨by trivial, by omega⟩, rfl, DM.t hC hD f3⟩⟩)
        
      · refine ev_iload_3 168 dX12_isGood_168 ?_
        refine ev_bipush 169 dX12_isGood_169 ⟨by decide, by decide⟩ ?_
        refine ev_icmp_ge 171 214 dX12_isGood_171 rfl (fun h171 => ?_) (fun h171 => ?_)
        · refine ev_iconst 214 dX12_isGood_214 ⟨by decide, by decide⟩ ?_
          refine ev_zret 215 dX12_isGood_215 (by first | omega | exact b2_or _) ?_ rfl
          first
            | exact QM_of ⟨GF.rf.up3 (by omega), Or.inr ⟨if_neg (fun z => by have z2 := z.2; omega), rfl⟩⟩
            | (rcases f204 with ⟨f1, f2, f3⟩ | ⟨f1, f2, f3⟩
               · rw [uq] at f1
                 first
                   | (exfalso; omega)
                   | exact QM_of ⟨by rw [f3]; exact GF.rf.up3 (by omega), Or.inr ⟨if_neg (fun z => by have z2 := z.2; omega), rfl⟩⟩
               · rw [uq] at f1
                 first
                   | (exfalso; omega)
                   | exact QM_of ⟨GF.tr (GF.up3 (j := 11) (x := 1) GF.rf (by omega)) (f3.gf (by omega) (by rw [uq]; omega) (by omega)), Or.inl ⟨_, if_pos ⟨by trivial, by omega⟩, rfl, DM.t hC hD f3⟩⟩)
          
        · refine ev_iload_4 174 dX12_isGood_174 ?_
          refine ev_bipush 176 dX12_isGood_176 ⟨by decide, by decide⟩ ?_
          refine ev_icmp_ge 178 214 dX12_isGood_178 rfl (fun h178 => ?_) (fun h178 => ?_)
          · refine ev_iconst 214 dX12_isGood_214 ⟨by decide, by decide⟩ ?_
            refine ev_zret 215 dX12_isGood_215 (by first | omega | exact b2_or _) ?_ rfl
            first
              | exact QM_of ⟨GF.rf.up3 (by omega), Or.inr ⟨if_neg (fun z => by have z2 := z.2; omega), rfl⟩⟩
              | (rcases f204 with ⟨f1, f2, f3⟩ | ⟨f1, f2, f3⟩
                 · rw [uq] at f1
                   first
                     | (exfalso; omega)
                     | exact QM_of ⟨by rw [f3]; exact GF.rf.up3 (by omega), Or.inr ⟨if_neg (fun z => by have z2 := z.2; omega), rfl⟩⟩
                 · rw [uq] at f1
                   first
                     | (exfalso; omega)
                     | exact QM_of ⟨GF.tr (GF.up3 (j := 11) (x := 1) GF.rf (by omega)) (f3.gf (by omega) (by rw [uq]; omega) (by omega)), Or.inl ⟨_, if_pos ⟨by trivial, by omega⟩, rfl, DM.t hC hD f3⟩⟩)
            
          · refine ev_aload_0 181 dX12_isGood_181 ?_
            refine ev_getA 182 21 dX12_isGood_182 fa_X12_49 (kd_131 hM) (pr_131_21 hN) rfl ?_
            refine ev_iconst 185 dX12_isGood_185 ⟨by decide, by decide⟩ ?_
            refine ev_iald 186 dX12_isGood_186 (kd_144 hM) ⟨by omega, by have := (ln_144 hM); omega⟩ ?_
            try simp (disch := omega) only [upI_s, upI_a, upI_k]
            try simp only [u6]
            refine ev_bipush 187 dX12_isGood_187 ⟨by decide, by decide⟩ ?_
            refine ev_icmp_ge 189 214 dX12_isGood_189 rfl (fun h189 => ?_) (fun h189 => ?_)
            · refine ev_iconst 214 dX12_isGood_214 ⟨by decide, by decide⟩ ?_
              refine ev_zret 215 dX12_isGood_215 (by first | omega | exact b2_or _) ?_ rfl
              first
                | exact QM_of ⟨GF.rf.up3 (by omega), Or.inr ⟨if_neg (fun z => by have z2 := z.2; omega), rfl⟩⟩
                | (rcases f204 with ⟨f1, f2, f3⟩ | ⟨f1, f2, f3⟩
                   · rw [uq] at f1
                     first
                       | (exfalso; omega)
                       | exact QM_of ⟨by rw [f3]; exact GF.rf.up3 (by omega), Or.inr ⟨if_neg (fun z => by have z2 := z.2; omega), rfl⟩⟩
                   · rw [uq] at f1
                     first
                       | (exfalso; omega)
                       | exact QM_of ⟨GF.tr (GF.up3 (j := 11) (x := 1) GF.rf (by omega)) (f3.gf (by omega) (by rw [uq]; omega) (by omega)), Or.inl ⟨_, if_pos ⟨by trivial, by omega⟩, rfl, DM.t hC hD f3⟩⟩)
              
            · refine ev_aload_0 192 dX12_isGood_192 ?_
              refine ev_aload_0 193 dX12_isGood_193 ?_
              refine ev_getA 194 5 dX12_isGood_194 fa_X12_20 (kd_131 hM) (pr_131_5 hN) rfl ?_
              refine ev_bipush 197 dX12_isGood_197 ⟨by decide, by decide⟩ ?_
              refine ev_iconst 199 dX12_isGood_199 ⟨by decide, by decide⟩ ?_
              refine ev_bipush 200 dX12_isGood_200 ⟨by decide, by decide⟩ ?_
              refine ev_bipush 202 dX12_isGood_202 ⟨by decide, by decide⟩ ?_
              refine ev_cVm_5 204 dX12_isGood_204 kmX12_isPut lk_X12_97 (kd_131 hM) (m_isPut hM hN (R := 135) (len := 48) (f := 24) (w := 4) (q := 8) (y := 6) (by omega) (kd_135 hM) (ln_135 hM) (by omega) (by omega) (by omega) (by omega) (by rw [uq]; omega) (fun z => by rw [uq] at z ⊢; omega)) rfl rfl (fun x204 I204 f204 => ?_)
              refine ev_if_eq 207 214 dX12_isGood_207 rfl (fun h207 => ?_) (fun h207 => ?_)
              · refine ev_iconst 214 dX12_isGood_214 ⟨by decide, by decide⟩ ?_
                refine ev_zret 215 dX12_isGood_215 (by first | omega | exact b2_or _) ?_ rfl
                first
                  | exact QM_of ⟨GF.rf.up3 (by omega), Or.inr ⟨if_neg (fun z => by have z2 := z.2; omega), rfl⟩⟩
                  | (rcases f204 with ⟨f1, f2, f3⟩ | ⟨f1, f2, f3⟩
                     · rw [uq] at f1
                       first
                         | (exfalso; omega)
                         | exact QM_of ⟨by rw [f3]; exact GF.rf.up3 (by omega), Or.inr ⟨if_neg (fun z => by have z2 := z.2; omega), rfl⟩⟩
                     · rw [uq] at f1
                       first
                         | (exfalso; omega)
                         | exact QM_of ⟨GF.tr (GF.up3 (j := 11) (x := 1) GF.rf (by omega)) (f3.gf (by omega) (by rw [uq]; omega) (by omega)), Or.inl ⟨_, if_pos ⟨by trivial, by omega⟩, rfl, DM.t hC hD f3⟩⟩)
                
              · refine ev_iconst 210 dX12_isGood_210 ⟨by decide, by decide⟩ ?_
                refine ev_goto 211 215 dX12_isGood_211 rfl ?_
                refine ev_zret 215 dX12_isGood_215 (by first | omega | exact b2_or _) ?_ rfl
                first
                  | exact QM_of ⟨GF.rf.up3 (by omega), Or.inr ⟨if_neg (fun z => by have z2 := z.2; omega), rfl⟩⟩
                  | (rcases f204 with ⟨f1, f2, f3⟩ | ⟨f1, f2, f3⟩
                     · rw [uq] at f1
                       first
                         | (exfalso; omega)
                         | exact QM_of ⟨by rw [f3]; exact GF.rf.up3 (by omega), Or.inr ⟨if_neg (fun z => by have z2 := z.2; omega), rfl⟩⟩
                     · rw [uq] at f1
                       first
                         | (exfalso; omega)
                         | exact QM_of ⟨GF.tr (GF.up3 (j := 11) (x := 1) GF.rf (by omega)) (f3.gf (by omega) (by rw [uq]; omega) (by omega)), Or.inl ⟨_, if_pos ⟨by trivial, by omega⟩, rfl, DM.t hC hD f3⟩⟩)
                
    · exfalso; omega
  · have uq : upI I 133 11 1 133 9 = D 0 10 := by rw [upI_k (by omega)]; assumption
    have ea : addG D 109 (nmb 109) (I 144 0) (I 144 1) (I 144 2) (I 144 3) = if (2 : Int) = 2 ∧ D 0 10 < 8 ∧ (0 ≤ I 144 0 ∧ I 144 0 ≤ 7) ∧ (0 ≤ I 144 1 ∧ I 144 1 < D 0 0) then some (upD (upD (upD D 8 (D 0 10) (I 144 0)) 9 (D 0 10) (I 144 1)) 0 10 (D 0 10 + 1)) else none := rfl
    rw [ea]
    refine ev_aload_0 0 dX12_isGood_0 ?_
    refine ev_getA 1 21 dX12_isGood_1 fa_X12_49 (kd_131 hM) (pr_131_21 hN) rfl ?_
    refine ev_iconst 4 dX12_isGood_4 ⟨by decide, by decide⟩ ?_
    refine ev_iald 5 dX12_isGood_5 (kd_144 hM) ⟨by omega, by have := (ln_144 hM); omega⟩ ?_
    try simp only [u6]
    refine ev_istore_2 6 dX12_isGood_6 rfl rfl ?_
    refine ev_aload_0 7 dX12_isGood_7 ?_
    refine ev_getA 8 21 dX12_isGood_8 fa_X12_49 (kd_131 hM) (pr_131_21 hN) rfl ?_
    refine ev_iconst 11 dX12_isGood_11 ⟨by decide, by decide⟩ ?_
    refine ev_iald 12 dX12_isGood_12 (kd_144 hM) ⟨by omega, by have := (ln_144 hM); omega⟩ ?_
    try simp only [u6]
    refine ev_istore_3 13 dX12_isGood_13 rfl rfl ?_
    refine ev_aload_0 14 dX12_isGood_14 ?_
    refine ev_getA 15 21 dX12_isGood_15 fa_X12_49 (kd_131 hM) (pr_131_21 hN) rfl ?_
    refine ev_iconst 18 dX12_isGood_18 ⟨by decide, by decide⟩ ?_
    refine ev_iald 19 dX12_isGood_19 (kd_144 hM) ⟨by omega, by have := (ln_144 hM); omega⟩ ?_
    try simp only [u6]
    refine ev_istore_4 20 dX12_isGood_20 rfl rfl ?_
    refine ev_iload_1 22 dX12_isGood_22 ?_
    refine ev_bipush 23 dX12_isGood_23 ⟨by decide, by decide⟩ ?_
    refine ev_jne 25 66 dX12_isGood_25 rfl (fun h25 => ?_) (fun h25 => ?_)
    · refine ev_aload_0 66 dX12_isGood_66 ?_
      refine ev_getA 67 3 dX12_isGood_67 fa_X12_13 (kd_131 hM) (pr_131_3 hN) rfl ?_
      refine ev_bipush 70 dX12_isGood_70 ⟨by decide, by decide⟩ ?_
      refine ev_iconst 72 dX12_isGood_72 ⟨by decide, by decide⟩ ?_
      refine ev_iast 73 dX12_isGood_73 (kd_133 hM) ⟨by omega, by have := (ln_133 hM); omega⟩ ?_
      refine ev_iload_1 74 dX12_isGood_74 ?_
      refine ev_lsw 75 216 dX12_isGood_75 (by rfl) (by rfl) (by rfl) ?_
      refine ev_iload_2 216 dX12_isGood_216 ?_
      refine ev_bipush 217 dX12_isGood_217 ⟨by decide, by decide⟩ ?_
      refine ev_icmp_ge 219 255 dX12_isGood_219 rfl (fun h219 => ?_) (fun h219 => ?_)
      · refine ev_iconst 255 dX12_isGood_255 ⟨by decide, by decide⟩ ?_
        refine ev_zret 256 dX12_isGood_256 (by first | omega | exact b2_or _) ?_ rfl
        first
          | exact QM_of ⟨GF.rf.up3 (by omega), Or.inr ⟨if_neg (fun z => by have z2 := z.2; omega), rfl⟩⟩
          | (rcases f245 with ⟨f1, f2, f3⟩ | ⟨f1, f2, f3⟩
             · rw [uq] at f1
               first
                 | (exfalso; omega)
                 | exact QM_of ⟨by rw [f3]; exact GF.rf.up3 (by omega), Or.inr ⟨if_neg (fun z => by have z2 := z.2; omega), rfl⟩⟩
             · rw [uq] at f1
               first
                 | (exfalso; omega)
                 | exact QM_of ⟨GF.tr (GF.up3 (j := 11) (x := 1) GF.rf (by omega)) (f3.gf (by omega) (by rw [uq]; omega) (by omega)), Or.inl ⟨_, if_pos ⟨by trivial, by omega⟩, rfl, DM.m hC hD f3⟩⟩)
        
      · refine ev_iload_3 222 dX12_isGood_222 ?_
        refine ev_aload_0 223 dX12_isGood_223 ?_
        refine ev_getA 224 3 dX12_isGood_224 fa_X12_13 (kd_131 hM) (pr_131_3 hN) rfl ?_
        refine ev_bipush 227 dX12_isGood_227 ⟨by decide, by decide⟩ ?_
        refine ev_iald 229 dX12_isGood_229 (kd_133 hM) ⟨by omega, by have := (ln_133 hM); omega⟩ ?_
        try simp (disch := omega) only [upI_s, upI_a, upI_k]
        try simp only [u6]
        refine ev_icmp_ge 230 255 dX12_isGood_230 rfl (fun h230 => ?_) (fun h230 => ?_)
        · refine ev_iconst 255 dX12_isGood_255 ⟨by decide, by decide⟩ ?_
          refine ev_zret 256 dX12_isGood_256 (by first | omega | exact b2_or _) ?_ rfl
          first
            | exact QM_of ⟨GF.rf.up3 (by omega), Or.inr ⟨if_neg (fun z => by have z2 := z.2; omega), rfl⟩⟩
            | (rcases f245 with ⟨f1, f2, f3⟩ | ⟨f1, f2, f3⟩
               · rw [uq] at f1
                 first
                   | (exfalso; omega)
                   | exact QM_of ⟨by rw [f3]; exact GF.rf.up3 (by omega), Or.inr ⟨if_neg (fun z => by have z2 := z.2; omega), rfl⟩⟩
               · rw [uq] at f1
                 first
                   | (exfalso; omega)
                   | exact QM_of ⟨GF.tr (GF.up3 (j := 11) (x := 1) GF.rf (by omega)) (f3.gf (by omega) (by rw [uq]; omega) (by omega)), Or.inl ⟨_, if_pos ⟨by trivial, by omega⟩, rfl, DM.m hC hD f3⟩⟩)
          
        · refine ev_aload_0 233 dX12_isGood_233 ?_
          refine ev_aload_0 234 dX12_isGood_234 ?_
          refine ev_getA 235 6 dX12_isGood_235 fa_X12_23 (kd_131 hM) (pr_131_6 hN) rfl ?_
          refine ev_bipush 238 dX12_isGood_238 ⟨by decide, by decide⟩ ?_
          refine ev_iconst 240 dX12_isGood_240 ⟨by decide, by decide⟩ ?_
          refine ev_bipush 241 dX12_isGood_241 ⟨by decide, by decide⟩ ?_
          refine ev_bipush 243 dX12_isGood_243 ⟨by decide, by decide⟩ ?_
          refine ev_cVm_5 245 dX12_isGood_245 kmX12_isPut lk_X12_97 (kd_131 hM) (m_isPut hM hN (R := 136) (len := 32) (f := 16) (w := 2) (q := 9) (y := 8) (by omega) (kd_136 hM) (ln_136 hM) (by omega) (by omega) (by omega) (by omega) (by rw [uq]; omega) (fun z => by rw [uq] at z ⊢; omega)) rfl rfl (fun x245 I245 f245 => ?_)
          refine ev_if_eq 248 255 dX12_isGood_248 rfl (fun h248 => ?_) (fun h248 => ?_)
          · refine ev_iconst 255 dX12_isGood_255 ⟨by decide, by decide⟩ ?_
            refine ev_zret 256 dX12_isGood_256 (by first | omega | exact b2_or _) ?_ rfl
            first
              | exact QM_of ⟨GF.rf.up3 (by omega), Or.inr ⟨if_neg (fun z => by have z2 := z.2; omega), rfl⟩⟩
              | (rcases f245 with ⟨f1, f2, f3⟩ | ⟨f1, f2, f3⟩
                 · rw [uq] at f1
                   first
                     | (exfalso; omega)
                     | exact QM_of ⟨by rw [f3]; exact GF.rf.up3 (by omega), Or.inr ⟨if_neg (fun z => by have z2 := z.2; omega), rfl⟩⟩
                 · rw [uq] at f1
                   first
                     | (exfalso; omega)
                     | exact QM_of ⟨GF.tr (GF.up3 (j := 11) (x := 1) GF.rf (by omega)) (f3.gf (by omega) (by rw [uq]; omega) (by omega)), Or.inl ⟨_, if_pos ⟨by trivial, by omega⟩, rfl, DM.m hC hD f3⟩⟩)
            
          · refine ev_iconst 251 dX12_isGood_251 ⟨by decide, by decide⟩ ?_
            refine ev_goto 252 256 dX12_isGood_252 rfl ?_
            refine ev_zret 256 dX12_isGood_256 (by first | omega | exact b2_or _) ?_ rfl
            first
              | exact QM_of ⟨GF.rf.up3 (by omega), Or.inr ⟨if_neg (fun z => by have z2 := z.2; omega), rfl⟩⟩
              | (rcases f245 with ⟨f1, f2, f3⟩ | ⟨f1, f2, f3⟩
                 · rw [uq] at f1
                   first
                     | (exfalso; omega)
                     | exact QM_of ⟨by rw [f3]; exact GF.rf.up3 (by omega), Or.inr ⟨if_neg (fun z => by have z2 := z.2; omega), rfl⟩⟩
                 · rw [uq] at f1
                   first
                     | (exfalso; omega)
                     | exact QM_of ⟨GF.tr (GF.up3 (j := 11) (x := 1) GF.rf (by omega)) (f3.gf (by omega) (by rw [uq]; omega) (by omega)), Or.inl ⟨_, if_pos ⟨by trivial, by omega⟩, rfl, DM.m hC hD f3⟩⟩)
            
    · exfalso; omega
  · have uq : upI I 133 11 1 133 10 = D 0 13 := by rw [upI_k (by omega)]; assumption
    have ea : addG D 103 (nmb 103) (I 144 0) (I 144 1) (I 144 2) (I 144 3) = if (3 : Int) = 3 ∧ D 0 13 < 5 ∧ (0 ≤ I 144 0 ∧ I 144 0 ≤ 7) ∧ (0 ≤ I 144 1 ∧ I 144 1 < D 0 0) ∧ (0 ≤ I 144 2 ∧ I 144 2 ≤ 9) then some (upD (upD (upD (upD D 10 (D 0 13) (I 144 0)) 11 (D 0 13) (I 144 1)) 12 (D 0 13) (I 144 2)) 0 13 (D 0 13 + 1)) else none := rfl
    rw [ea]
    refine ev_aload_0 0 dX12_isGood_0 ?_
    refine ev_getA 1 21 dX12_isGood_1 fa_X12_49 (kd_131 hM) (pr_131_21 hN) rfl ?_
    refine ev_iconst 4 dX12_isGood_4 ⟨by decide, by decide⟩ ?_
    refine ev_iald 5 dX12_isGood_5 (kd_144 hM) ⟨by omega, by have := (ln_144 hM); omega⟩ ?_
    try simp only [u6]
    refine ev_istore_2 6 dX12_isGood_6 rfl rfl ?_
    refine ev_aload_0 7 dX12_isGood_7 ?_
    refine ev_getA 8 21 dX12_isGood_8 fa_X12_49 (kd_131 hM) (pr_131_21 hN) rfl ?_
    refine ev_iconst 11 dX12_isGood_11 ⟨by decide, by decide⟩ ?_
    refine ev_iald 12 dX12_isGood_12 (kd_144 hM) ⟨by omega, by have := (ln_144 hM); omega⟩ ?_
    try simp only [u6]
    refine ev_istore_3 13 dX12_isGood_13 rfl rfl ?_
    refine ev_aload_0 14 dX12_isGood_14 ?_
    refine ev_getA 15 21 dX12_isGood_15 fa_X12_49 (kd_131 hM) (pr_131_21 hN) rfl ?_
    refine ev_iconst 18 dX12_isGood_18 ⟨by decide, by decide⟩ ?_
    refine ev_iald 19 dX12_isGood_19 (kd_144 hM) ⟨by omega, by have := (ln_144 hM); omega⟩ ?_
    try simp only [u6]
    refine ev_istore_4 20 dX12_isGood_20 rfl rfl ?_
    refine ev_iload_1 22 dX12_isGood_22 ?_
    refine ev_bipush 23 dX12_isGood_23 ⟨by decide, by decide⟩ ?_
    refine ev_jne 25 66 dX12_isGood_25 rfl (fun h25 => ?_) (fun h25 => ?_)
    · refine ev_aload_0 66 dX12_isGood_66 ?_
      refine ev_getA 67 3 dX12_isGood_67 fa_X12_13 (kd_131 hM) (pr_131_3 hN) rfl ?_
      refine ev_bipush 70 dX12_isGood_70 ⟨by decide, by decide⟩ ?_
      refine ev_iconst 72 dX12_isGood_72 ⟨by decide, by decide⟩ ?_
      refine ev_iast 73 dX12_isGood_73 (kd_133 hM) ⟨by omega, by have := (ln_133 hM); omega⟩ ?_
      refine ev_iload_1 74 dX12_isGood_74 ?_
      refine ev_lsw 75 257 dX12_isGood_75 (by rfl) (by rfl) (by rfl) ?_
      refine ev_iload_2 257 dX12_isGood_257 ?_
      refine ev_bipush 258 dX12_isGood_258 ⟨by decide, by decide⟩ ?_
      refine ev_icmp_ge 260 302 dX12_isGood_260 rfl (fun h260 => ?_) (fun h260 => ?_)
      · refine ev_iconst 302 dX12_isGood_302 ⟨by decide, by decide⟩ ?_
        refine ev_zret 303 dX12_isGood_303 (by first | omega | exact b2_or _) ?_ rfl
        first
          | exact QM_of ⟨GF.rf.up3 (by omega), Or.inr ⟨if_neg (fun z => by have z2 := z.2; omega), rfl⟩⟩
          | (rcases f292 with ⟨f1, f2, f3⟩ | ⟨f1, f2, f3⟩
             · rw [uq] at f1
               first
                 | (exfalso; omega)
                 | exact QM_of ⟨by rw [f3]; exact GF.rf.up3 (by omega), Or.inr ⟨if_neg (fun z => by have z2 := z.2; omega), rfl⟩⟩
             · rw [uq] at f1
               first
                 | (exfalso; omega)
                 | exact QM_of ⟨GF.tr (GF.up3 (j := 11) (x := 1) GF.rf (by omega)) (f3.gf (by omega) (by rw [uq]; omega) (by omega)), Or.inl ⟨_, if_pos ⟨by trivial, by omega⟩, rfl, DM.g hC hD f3⟩⟩)
        
      · refine ev_iload_3 263 dX12_isGood_263 ?_
        refine ev_aload_0 264 dX12_isGood_264 ?_
        refine ev_getA 265 3 dX12_isGood_265 fa_X12_13 (kd_131 hM) (pr_131_3 hN) rfl ?_
        refine ev_bipush 268 dX12_isGood_268 ⟨by decide, by decide⟩ ?_
        refine ev_iald 270 dX12_isGood_270 (kd_133 hM) ⟨by omega, by have := (ln_133 hM); omega⟩ ?_
        try simp (disch := omega) only [upI_s, upI_a, upI_k]
        try simp only [u6]
        refine ev_icmp_ge 271 302 dX12_isGood_271 rfl (fun h271 => ?_) (fun h271 => ?_)
        · refine ev_iconst 302 dX12_isGood_302 ⟨by decide, by decide⟩ ?_
          refine ev_zret 303 dX12_isGood_303 (by first | omega | exact b2_or _) ?_ rfl
          first
            | exact QM_of ⟨GF.rf.up3 (by omega), Or.inr ⟨if_neg (fun z => by have z2 := z.2; omega), rfl⟩⟩
            | (rcases f292 with ⟨f1, f2, f3⟩ | ⟨f1, f2, f3⟩
               · rw [uq] at f1
                 first
                   | (exfalso; omega)
                   | exact QM_of ⟨by rw [f3]; exact GF.rf.up3 (by omega), Or.inr ⟨if_neg (fun z => by have z2 := z.2; omega), rfl⟩⟩
               · rw [uq] at f1
                 first
                   | (exfalso; omega)
                   | exact QM_of ⟨GF.tr (GF.up3 (j := 11) (x := 1) GF.rf (by omega)) (f3.gf (by omega) (by rw [uq]; omega) (by omega)), Or.inl ⟨_, if_pos ⟨by trivial, by omega⟩, rfl, DM.g hC hD f3⟩⟩)
          
        · refine ev_iload_4 274 dX12_isGood_274 ?_
          refine ev_bipush 276 dX12_isGood_276 ⟨by decide, by decide⟩ ?_
          refine ev_icmp_ge 278 302 dX12_isGood_278 rfl (fun h278 => ?_) (fun h278 => ?_)
          · refine ev_iconst 302 dX12_isGood_302 ⟨by decide, by decide⟩ ?_
            refine ev_zret 303 dX12_isGood_303 (by first | omega | exact b2_or _) ?_ rfl
            first
              | exact QM_of ⟨GF.rf.up3 (by omega), Or.inr ⟨if_neg (fun z => by have z2 := z.2; omega), rfl⟩⟩
              | (rcases f292 with ⟨f1, f2, f3⟩ | ⟨f1, f2, f3⟩
                 · rw [uq] at f1
                   first
                     | (exfalso; omega)
                     | exact QM_of ⟨by rw [f3]; exact GF.rf.up3 (by omega), Or.inr ⟨if_neg (fun z => by have z2 := z.2; omega), rfl⟩⟩
                 · rw [uq] at f1
                   first
                     | (exfalso; omega)
                     | exact QM_of ⟨GF.tr (GF.up3 (j := 11) (x := 1) GF.rf (by omega)) (f3.gf (by omega) (by rw [uq]; omega) (by omega)), Or.inl ⟨_, if_pos ⟨by trivial, by omega⟩, rfl, DM.g hC hD f3⟩⟩)
            
          · refine ev_aload_0 281 dX12_isGood_281 ?_
            refine ev_aload_0 282 dX12_isGood_282 ?_
            refine ev_getA 283 7 dX12_isGood_283 fa_X12_26 (kd_131 hM) (pr_131_7 hN) rfl ?_
            refine ev_bipush 286 dX12_isGood_286 ⟨by decide, by decide⟩ ?_
            refine ev_iconst 288 dX12_isGood_288 ⟨by decide, by decide⟩ ?_
            refine ev_bipush 289 dX12_isGood_289 ⟨by decide, by decide⟩ ?_
            refine ev_iconst 291 dX12_isGood_291 ⟨by decide, by decide⟩ ?_
            refine ev_cVm_5 292 dX12_isGood_292 kmX12_isPut lk_X12_97 (kd_131 hM) (m_isPut hM hN (R := 137) (len := 30) (f := 15) (w := 3) (q := 10) (y := 5) (by omega) (kd_137 hM) (ln_137 hM) (by omega) (by omega) (by omega) (by omega) (by rw [uq]; omega) (fun z => by rw [uq] at z ⊢; omega)) rfl rfl (fun x292 I292 f292 => ?_)
            refine ev_if_eq 295 302 dX12_isGood_295 rfl (fun h295 => ?_) (fun h295 => ?_)
            · refine ev_iconst 302 dX12_isGood_302 ⟨by decide, by decide⟩ ?_
              refine ev_zret 303 dX12_isGood_303 (by first | omega | exact b2_or _) ?_ rfl
              first
                | exact QM_of ⟨GF.rf.up3 (by omega), Or.inr ⟨if_neg (fun z => by have z2 := z.2; omega), rfl⟩⟩
                | (rcases f292 with ⟨f1, f2, f3⟩ | ⟨f1, f2, f3⟩
                   · rw [uq] at f1
                     first
                       | (exfalso; omega)
                       | exact QM_of ⟨by rw [f3]; exact GF.rf.up3 (by omega), Or.inr ⟨if_neg (fun z => by have z2 := z.2; omega), rfl⟩⟩
                   · rw [uq] at f1
                     first
                       | (exfalso; omega)
                       | exact QM_of ⟨GF.tr (GF.up3 (j := 11) (x := 1) GF.rf (by omega)) (f3.gf (by omega) (by rw [uq]; omega) (by omega)), Or.inl ⟨_, if_pos ⟨by trivial, by omega⟩, rfl, DM.g hC hD f3⟩⟩)
              
            · refine ev_iconst 298 dX12_isGood_298 ⟨by decide, by decide⟩ ?_
              refine ev_goto 299 303 dX12_isGood_299 rfl ?_
              refine ev_zret 303 dX12_isGood_303 (by first | omega | exact b2_or _) ?_ rfl
              first
                | exact QM_of ⟨GF.rf.up3 (by omega), Or.inr ⟨if_neg (fun z => by have z2 := z.2; omega), rfl⟩⟩
                | (rcases f292 with ⟨f1, f2, f3⟩ | ⟨f1, f2, f3⟩
                   · rw [uq] at f1
                     first
                       | (exfalso; omega)
                       | exact QM_of ⟨by rw [f3]; exact GF.rf.up3 (by omega), Or.inr ⟨if_neg (fun z => by have z2 := z.2; omega), rfl⟩⟩
                   · rw [uq] at f1
                     first
                       | (exfalso; omega)
                       | exact QM_of ⟨GF.tr (GF.up3 (j := 11) (x := 1) GF.rf (by omega)) (f3.gf (by omega) (by rw [uq]; omega) (by omega)), Or.inl ⟨_, if_pos ⟨by trivial, by omega⟩, rfl, DM.g hC hD f3⟩⟩)
              
    · exfalso; omega

