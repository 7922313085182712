/-! rows of sound, the past as a row that goes round, what drifted, what was heard -/
def RowAt (Z : Zt) (P : Pt') (R : Nat) : Prop := Z.1 R = 5 ∧ P R 0 = some (R + 1) ∧ Z.1 (R + 1) = 15 ∧ Z.2.1 (R + 1) = 192
def EqS (σ σ' : Nat → Int → Int) : Prop := σ 0 0 = σ' 0 0 ∧ σ 0 1 = σ' 0 1 ∧ (∀ t, 0 ≤ t → t < 6 → σ 1 t = σ' 1 t ∧ σ 2 t = σ' 2 t) ∧ (∀ t, 0 ≤ t → t < 7 → σ 3 t = σ' 3 t ∧ σ 4 t = σ' 4 t ∧ σ 5 t = σ' 5 t ∧ σ 6 t = σ' 6 t)
theorem EqS.rf {σ : Nat → Int → Int} : EqS σ σ := ⟨rfl, rfl, fun _ _ _ => ⟨rfl, rfl⟩, fun _ _ _ => ⟨rfl, rfl, rfl, rfl⟩⟩
theorem EqS.tr {a b c : Nat → Int → Int} (h : EqS a b) (k : EqS b c) : EqS a c := ⟨h.1.trans k.1, h.2.1.trans k.2.1, fun t x y => ⟨(h.2.2.1 t x y).1.trans (k.2.2.1 t x y).1, (h.2.2.1 t x y).2.trans (k.2.2.1 t x y).2⟩, fun t x y => ⟨(h.2.2.2 t x y).1.trans (k.2.2.2 t x y).1, (h.2.2.2 t x y).2.1.trans (k.2.2.2 t x y).2.1, (h.2.2.2 t x y).2.2.1.trans (k.2.2.2 t x y).2.2.1, (h.2.2.2 t x y).2.2.2.trans (k.2.2.2 t x y).2.2.2⟩⟩
theorem EqS.sy {a b : Nat → Int → Int} (h : EqS a b) : EqS b a := ⟨h.1.symm, h.2.1.symm, fun t x y => ⟨(h.2.2.1 t x y).1.symm, (h.2.2.1 t x y).2.symm⟩, fun t x y => ⟨(h.2.2.2 t x y).1.symm, (h.2.2.2 t x y).2.1.symm, (h.2.2.2 t x y).2.2.1.symm, (h.2.2.2 t x y).2.2.2.symm⟩⟩
theorem Cp.eqS {X Y : Nat} {I I' : It} (h : Cp X Y I' I) : EqS (vw X I') (vw Y I) := h
theorem eqS_fr {X : Nat} {I I' : It} (h : ∀ a, X ≤ a → a < X + 7 → I' a = I a) : EqS (vw X I') (vw X I) := by
  have e : ∀ c, c < 7 → vw X I' c = vw X I c := fun c hc => h (X + c) (by omega) (by omega)
  unfold EqS
  rw [e 0 (by omega), e 1 (by omega), e 2 (by omega), e 3 (by omega), e 4 (by omega), e 5 (by omega), e 6 (by omega)]
  exact EqS.rf
/-- the place in the row that goes round -/
def sl (n o k : Int) : Int := if o + k < n then o + k else o + k - n
theorem sl_r {n o k : Int} (ho : 0 ≤ o ∧ o < n) (hk : 0 ≤ k ∧ k ≤ n) : 0 ≤ sl n o k ∧ sl n o k < n := by unfold sl; split <;> omega
theorem sl_i {n o k j : Int} (ho : 0 ≤ o ∧ o < n) (hk : 0 ≤ k ∧ k < n) (hj : 0 ≤ j ∧ j < n) (h : k ≠ j) : sl n o k ≠ sl n o j := by unfold sl; split <;> split <;> omega
def VP (p : Nat) (n : Int) (I : It) (U : Int → Nat → Int → Int) : Prop := (0 ≤ I p 1 ∧ I p 1 < n) ∧ (0 ≤ I p 2 ∧ I p 2 ≤ n) ∧ ∀ k, 0 ≤ k → k < I p 2 → EqS (vw (p + 2 + 7 * (sl n (I p 1) k).toNat) I) (U k)
def pshU (n a : Int) (U : Int → Nat → Int → Int) (σ : Nat → Int → Int) : Int → Nat → Int → Int := if a < n then (fun k => if k = a then σ else U k) else (fun k => if k = n - 1 then σ else U (k + 1))
theorem c_silence {l : Launch} {g : Gt} {d : Nat} {Z : Zt} {I : It} {P : Pt'} {R : Nat} (hr : RowAt Z P R) : Mt l g mX5_silence d 0 0 [vA R] Z I P (QV (fun I' => (∀ i, 0 ≤ i → i < 192 → I' (R + 1) i = 1000000) ∧ ∀ a, a ≠ R + 1 → I' a = I a) Z P) := by
  refine Mt.of kmX5_silence (ls := [vA R, vX]) (fun _ => rfl) (fun _ => rfl) (okf_k (okf_n rfl)) (fun hok => ?_)
  have loop : ∀ (k : Nat) (t : Int) (I1 : It), 0 ≤ t → t + k = 192 → (∀ i, 0 ≤ i → i < t → I1 (R + 1) i = 1000000) → (∀ a, a ≠ R + 1 → I1 a = I a) → Ev l g mX5_silence d 0 0 Z I1 P 2 [vA R, vI t] [] (QV (fun I' => (∀ i, 0 ≤ i → i < 192 → I' (R + 1) i = 1000000) ∧ ∀ a, a ≠ R + 1 → I' a = I a) Z P) := by
    intro k
    induction k with
    | zero =>
      intro t I1 h0 h1 g1 g2
      obtain rfl : t = 192 := by omega
      refine ev_iload_1 2 dX5_silence_2 ?_
      refine ev_sipush 3 dX5_silence_3 ⟨by decide, by decide⟩ ?_
      refine ev_icmp_ge 6 23 dX5_silence_6 rfl (fun h6 => ?_) (fun h6 => ?_)
      · refine ev_vret 23 dX5_silence_23 ?_ rfl
        exact QV_of ⟨g1, g2⟩
      · exfalso; omega
    | succ k ih =>
      intro t I1 h0 h1 g1 g2
      refine ev_iload_1 2 dX5_silence_2 ?_
      refine ev_sipush 3 dX5_silence_3 ⟨by decide, by decide⟩ ?_
      refine ev_icmp_ge 6 23 dX5_silence_6 rfl (fun h6 => ?_) (fun h6 => ?_)
      · exfalso; omega
      · refine ev_aload_0 9 dX5_silence_9 ?_
        refine ev_getA 10 0 dX5_silence_10 fa_X5_9 hr.1 hr.2.1 rfl ?_
        refine ev_iload_1 13 dX5_silence_13 ?_
        refine ev_ldc 14 dX5_silence_14 kc_X5_19 ⟨by decide, by decide⟩ ?_
        refine ev_iast 16 dX5_silence_16 hr.2.2.1 ⟨by omega, by have := hr.2.2.2; omega⟩ ?_
        refine ev_iinc_1 17 dX5_silence_17 ⟨by omega, by omega⟩ rfl rfl ?_
        refine ev_goto 20 2 dX5_silence_20 rfl ?_
        exact ih _ _ (by omega) (by omega) (all_s (fun j a b => by rw [upI_k (by omega)]; exact g1 j a b) (upI_s _ _ _ _)) (fun a ha => by rw [upI_A ha]; exact g2 a ha)
  refine ev_iconst 0 dX5_silence_0 ⟨by decide, by decide⟩ ?_
  refine ev_istore_1 1 dX5_silence_1 rfl rfl ?_
  exact loop 192 0 I (by omega) (by omega) all_0 (fun _ _ => rfl)
theorem c_beatsTo {l : Launch} {g : Gt} {d : Nat} {Z : Zt} {I : It} {P : Pt'} {R : Nat} (hr : RowAt Z P R) (v : Int) : Mt l g mX5_beatsTo d 0 0 [vA R, vI v] Z I P (QP (if 0 ≤ v ∧ v < 192 then I (R + 1) v else 1000000) Z I P) := by
  refine Mt.of kmX5_beatsTo (ls := [vA R, vI v]) (fun _ => rfl) (fun _ => rfl) (okf_k (okf_k (okf_n rfl))) (fun hok => ?_)
  refine ev_iload_1 0 dX5_beatsTo_0 ?_
  refine ev_if_lt 1 20 dX5_beatsTo_1 rfl (fun h1 => ?_) (fun h1 => ?_)
  · refine ev_ldc 20 dX5_beatsTo_20 kc_X5_19 ⟨by decide, by decide⟩ ?_
    refine ev_iret 22 dX5_beatsTo_22 ?_ rfl
    first | exact QP_of (if_pos (by omega)).symm | exact QP_of (if_neg (by omega)).symm
  · refine ev_iload_1 4 dX5_beatsTo_4 ?_
    refine ev_sipush 5 dX5_beatsTo_5 ⟨by decide, by decide⟩ ?_
    refine ev_icmp_ge 8 20 dX5_beatsTo_8 rfl (fun h8 => ?_) (fun h8 => ?_)
    · refine ev_ldc 20 dX5_beatsTo_20 kc_X5_19 ⟨by decide, by decide⟩ ?_
      refine ev_iret 22 dX5_beatsTo_22 ?_ rfl
      first | exact QP_of (if_pos (by omega)).symm | exact QP_of (if_neg (by omega)).symm
    · refine ev_aload_0 11 dX5_beatsTo_11 ?_
      refine ev_getA 12 0 dX5_beatsTo_12 fa_X5_9 hr.1 hr.2.1 rfl ?_
      refine ev_iload_1 15 dX5_beatsTo_15 ?_
      refine ev_iald 16 dX5_beatsTo_16 hr.2.2.1 ⟨by omega, by have := hr.2.2.2; omega⟩ ?_
      refine ev_goto 17 22 dX5_beatsTo_17 rfl ?_
      refine ev_iret 22 dX5_beatsTo_22 ?_ rfl
      first | exact QP_of (if_pos (by omega)).symm | exact QP_of (if_neg (by omega)).symm
theorem c_isOpen {l : Launch} {g : Gt} {d : Nat} {Z : Zt} {I : It} {P : Pt'} (hZ : LayC Z) (hP : LayP P) (v : Int) : Mt l g mX7_isOpen d 0 0 [vA 101, vI v] Z I P (QP (b2 ((0 ≤ v ∧ v < 192) ∧ I 105 v = 0)) Z I P) := by
  refine Mt.of kmX7_isOpen (ls := [vA 101, vI v]) (fun _ => rfl) (fun _ => rfl) (okf_k (okf_k (okf_n rfl))) (fun hok => ?_)
  refine ev_iload_1 0 dX7_isOpen_0 ?_
  refine ev_if_lt 1 24 dX7_isOpen_1 rfl (fun h1 => ?_) (fun h1 => ?_)
  · refine ev_iconst 24 dX7_isOpen_24 ⟨by decide, by decide⟩ ?_
    refine ev_zret 25 dX7_isOpen_25 (by first | omega | exact b2_or _) ?_ rfl
    first | exact QP_of (b2_t (by omega)).symm | exact QP_of (b2_f (by omega)).symm
  · refine ev_iload_1 4 dX7_isOpen_4 ?_
    refine ev_sipush 5 dX7_isOpen_5 ⟨by decide, by decide⟩ ?_
    refine ev_icmp_ge 8 24 dX7_isOpen_8 rfl (fun h8 => ?_) (fun h8 => ?_)
    · refine ev_iconst 24 dX7_isOpen_24 ⟨by decide, by decide⟩ ?_
      refine ev_zret 25 dX7_isOpen_25 (by first | omega | exact b2_or _) ?_ rfl
      first | exact QP_of (b2_t (by omega)).symm | exact QP_of (b2_f (by omega)).symm
    · refine ev_aload_0 11 dX7_isOpen_11 ?_
      refine ev_getA 12 3 dX7_isOpen_12 fa_X7_22 (kd_101 hZ) (pr_101_3 hP) rfl ?_
      refine ev_iload_1 15 dX7_isOpen_15 ?_
      refine ev_zald 16 dX7_isOpen_16 (kd_105 hZ) ⟨by omega, by have := (ln_105 hZ); omega⟩ ?_
      refine ev_zne 17 24 dX7_isOpen_17 rfl (fun h17 => ?_) (fun h17 => ?_)
      · refine ev_iconst 24 dX7_isOpen_24 ⟨by decide, by decide⟩ ?_
        refine ev_zret 25 dX7_isOpen_25 (by first | omega | exact b2_or _) ?_ rfl
        first | exact QP_of (b2_t (by omega)).symm | exact QP_of (b2_f (by omega)).symm
      · refine ev_iconst 20 dX7_isOpen_20 ⟨by decide, by decide⟩ ?_
        refine ev_goto 21 25 dX7_isOpen_21 rfl ?_
        refine ev_zret 25 dX7_isOpen_25 (by first | omega | exact b2_or _) ?_ rfl
        first | exact QP_of (b2_t (by omega)).symm | exact QP_of (b2_f (by omega)).symm
theorem c_slot {l : Launch} {g : Gt} {d : Nat} {Z : Zt} {I : It} {P : Pt'} (hZ : LayC Z) (hP : LayP P) {p : Nat} {n : Int} (hp : IsP p n) {k : Int} (ho : 0 ≤ I p 1 ∧ I p 1 < n) (hk : 0 ≤ k ∧ k ≤ n) : Mt l g mX4_slot d 0 0 [vA p, vI k] Z I P (QP (sl n (I p 1) k) Z I P) := by
  have hn : n = 8 ∨ n = 2 := by rcases hp with h | h <;> omega
  refine Mt.of kmX4_slot (ls := [vA p, vI k, vX]) (fun _ => rfl) (fun _ => rfl) (okf_k (okf_k (okf_n rfl))) (fun hok => ?_)
  refine ev_aload_0 0 dX4_slot_0 ?_
  refine ev_gI 1 1 1 dX4_slot_1 fa_X4_7 (kdP_0 hZ hp) rfl rfl rfl ?_
  refine ev_iload_1 4 dX4_slot_4 ?_
  refine ev_iadd 5 dX4_slot_5 ⟨by omega, by omega⟩ ?_
  refine ev_istore_2 6 dX4_slot_6 rfl rfl ?_
  refine ev_iload_2 7 dX4_slot_7 ?_
  refine ev_aload_0 8 dX4_slot_8 ?_
  refine ev_getA 9 0 dX4_slot_9 fa_X4_24 (kdP_0 hZ hp) (prP_0 hP hp) rfl ?_
  refine ev_alen 12 dX4_slot_12 (kdP_1 hZ hp) rfl rfl ?_
  rw [show _ = _ from (lnP_1 hZ hp)]
  refine ev_icmp_ge 13 20 dX4_slot_13 rfl (fun h13 => ?_) (fun h13 => ?_)
  · refine ev_iload_2 20 dX4_slot_20 ?_
    refine ev_aload_0 21 dX4_slot_21 ?_
    refine ev_getA 22 0 dX4_slot_22 fa_X4_24 (kdP_0 hZ hp) (prP_0 hP hp) rfl ?_
    refine ev_alen 25 dX4_slot_25 (kdP_1 hZ hp) rfl rfl ?_
    rw [show _ = _ from (lnP_1 hZ hp)]
    refine ev_isub 26 dX4_slot_26 ⟨by omega, by omega⟩ ?_
    refine ev_iret 27 dX4_slot_27 ?_ rfl
    first | exact QP_of (if_pos (by omega)).symm | exact QP_of (if_neg (by omega)).symm
  · refine ev_iload_2 16 dX4_slot_16 ?_
    refine ev_goto 17 27 dX4_slot_17 rfl ?_
    refine ev_iret 27 dX4_slot_27 ?_ rfl
    first | exact QP_of (if_pos (by omega)).symm | exact QP_of (if_neg (by omega)).symm
theorem c_pempty {l : Launch} {g : Gt} {d : Nat} {Z : Zt} {I : It} {P : Pt'} (hZ : LayC Z) {p : Nat} {n : Int} (hp : IsP p n) : Mt l g mX4_empty d 0 0 [vA p] Z I P (QV (fun I' => I' = upI (upI I p 1 0) p 2 0) Z P) := by
  refine Mt.of kmX4_empty (ls := [vA p]) (fun _ => rfl) (fun _ => rfl) (okf_k (okf_n rfl)) (fun hok => ?_)
  refine ev_aload_0 0 dX4_empty_0 ?_
  refine ev_iconst 1 dX4_empty_1 ⟨by decide, by decide⟩ ?_
  refine ev_pI 2 1 1 dX4_empty_2 fp_X4_7 (kdP_0 hZ hp) rfl rfl ?_
  refine ev_aload_0 5 dX4_empty_5 ?_
  refine ev_iconst 6 dX4_empty_6 ⟨by decide, by decide⟩ ?_
  refine ev_pI 7 2 2 dX4_empty_7 fp_X4_13 (kdP_0 hZ hp) rfl rfl ?_
  refine ev_vret 10 dX4_empty_10 ?_ rfl
  exact QV_of rfl
theorem c_push {l : Launch} {g : Gt} {d : Nat} {Z : Zt} {I : It} {P : Pt'} (hZ : LayC Z) (hP : LayP P) {p : Nat} {n : Int} (hp : IsP p n) {U : Int → Nat → Int → Int} (hU : VP p n I U) (hB : ∀ t, 0 ≤ t → t < 6 → I 20 t = 0 ∨ I 20 t = 1) : Mt l g mX4_push (d + 1) 0 0 [vA p, vA 18] Z I P (QV (fun I' => I' p 2 = (if I p 2 < n then I p 2 + 1 else n) ∧ VP p n I' (pshU n (I p 2) U (vw 18 I)) ∧ (∀ q, (q < p ∨ p + 2 + 7 * n.toNat ≤ q) → I' q = I q)) Z P) := by
  have hn : n = 8 ∨ n = 2 := by rcases hp with h | h <;> omega
  have hp2 : 25 ≤ p ∧ (p + 2 + 7 * n.toNat ≤ 99) := by rcases hp with ⟨rfl, rfl⟩ | ⟨rfl, rfl⟩ <;> omega
  refine Mt.of kmX4_push (ls := [vA p, vA 18]) (fun _ => rfl) (fun _ => rfl) (okf_k (okf_k (okf_n rfl))) (fun hok => ?_)
  have tail : ∀ (I1 : It) (V : Int → Nat → Int → Int), VP p n I1 V → I1 p 2 < n → (∀ q, q ≠ p → I1 q = I q) → (∀ I', I' p 2 = I1 p 2 + 1 → VP p n I' (fun k => if k = I1 p 2 then vw 18 I else V k) → (∀ q, (q < p ∨ p + 2 + 7 * n.toNat ≤ q) → I' q = I q) → (QV (fun I' => I' p 2 = (if I p 2 < n then I p 2 + 1 else n) ∧ VP p n I' (pshU n (I p 2) U (vw 18 I)) ∧ (∀ q, (q < p ∨ p + 2 + 7 * n.toNat ≤ q) → I' q = I q)) Z P) none Z I' P) → Ev l g mX4_push (d + 1) 0 0 Z I1 P 31 [vA p, vA 18] [] (QV (fun I' => I' p 2 = (if I p 2 < n then I p 2 + 1 else n) ∧ VP p n I' (pshU n (I p 2) U (vw 18 I)) ∧ (∀ q, (q < p ∨ p + 2 + 7 * n.toNat ≤ q) → I' q = I q)) Z P) := by
    intro I1 V ⟨v1, v2, v3⟩ hlt ho hq
    obtain ⟨s1, s2⟩ := prP_1 (i := sl n (I1 p 1) (I1 p 2)) hP hp (sl_r v1 ⟨v2.1, by omega⟩).1 (sl_r v1 ⟨v2.1, by omega⟩).2
    have hB1 : ∀ t, 0 ≤ t → t < 6 → I1 (18 + 2) t = 0 ∨ I1 (18 + 2) t = 1 := fun t a b => by rw [ho (18 + 2) (by omega)]; exact hB t a b
    obtain ⟨Y, hY⟩ : ∃ Y, Y = p + 2 + 7 * (sl n (I1 p 1) (I1 p 2)).toNat := ⟨_, rfl⟩
    rw [← hY] at s1 s2
    have hr := sl_r (n := n) (o := I1 p 1) (k := I1 p 2) v1 ⟨v2.1, by omega⟩
    have hF : IsS 18 := Or.inl rfl
    have hd1 : Y + 7 ≤ 18 ∨ 18 + 7 ≤ Y := by omega
    refine ev_aload_0 31 dX4_push_31 ?_
    refine ev_getA 32 0 dX4_push_32 fa_X4_24 (kdP_0 hZ hp) (prP_0 hP hp) rfl ?_
    refine ev_aload_0 35 dX4_push_35 ?_
    refine ev_aload_0 36 dX4_push_36 ?_
    refine ev_gI 37 2 2 dX4_push_37 fa_X4_13 (kdP_0 hZ hp) rfl rfl rfl ?_
    refine ev_cVp_1 40 dX4_push_40 kmX4_slot lk_X4_29 (kdP_0 hZ hp) (c_slot hZ hP hp (by omega) (by omega)) rfl rfl ?_
    refine ev_aaldA 43 dX4_push_43 (kdP_1 hZ hp) (by omega) ⟨by omega, by have := (lnP_1 hZ hp); omega⟩ s1 ?_
    refine ev_aload_1 44 dX4_push_44 ?_
    refine ev_cVv_1 45 dX4_push_45 kmX8_copyFrom lk_X4_33 (kdS_0 hZ s2) (c_copy hZ hP s2 hF hd1 hB1) rfl rfl (fun I45 f45 => ?_)
    obtain ⟨c1, c2⟩ := f45
    have hsl := sl_r (n := n) (o := I1 p 1) (k := I1 p 2) v1 ⟨v2.1, by omega⟩
    have hy2 : p + 2 ≤ Y ∧ Y + 7 ≤ p + 2 + 7 * n.toNat := by omega
    have e1 : I45 p = I1 p := c2 p (by omega)
    refine ev_aload_0 48 dX4_push_48 ?_
    refine ev_dupA 49 dX4_push_49 ?_
    refine ev_gI 50 2 2 dX4_push_50 fa_X4_13 (kdP_0 hZ hp) rfl rfl rfl ?_
    rw [e1]
    refine ev_iconst 53 dX4_push_53 ⟨by decide, by decide⟩ ?_
    refine ev_iadd 54 dX4_push_54 ⟨by omega, by omega⟩ ?_
    refine ev_pI 55 2 2 dX4_push_55 fp_X4_13 (kdP_0 hZ hp) rfl rfl ?_
    refine ev_vret 58 dX4_push_58 ?_ rfl
    refine hq _ (by rw [upI_s]) ⟨by rw [upI_k (by omega), e1]; exact v1, by rw [upI_s]; omega, fun k a b => ?_⟩ (fun q hq2 => ?_)
    · rw [upI_s] at b
      rw [upI_k (by omega), e1]
      have hrk := sl_r (n := n) (o := I1 p 1) (k := k) v1 ⟨a, by omega⟩
      show EqS _ (if k = I1 p 2 then vw 18 I else V k)
      by_cases ek : k = I1 p 2
      · rw [if_pos ek, ek, ← hY]
        refine (eqS_fr (fun a ha hb => upI_A (by omega))).tr ?_
        have e18 : EqS (vw 18 I1) (vw 18 I) := eqS_fr (fun a ha hb => ho a (by omega))
        exact c1.eqS.tr e18
      · rw [if_neg ek]
        have hne := sl_i (n := n) (o := I1 p 1) (k := k) (j := I1 p 2) v1 ⟨a, by omega⟩ ⟨v2.1, hlt⟩ ek
        refine (eqS_fr (fun a ha hb => ?_)).tr (v3 k a (by omega))
        rw [upI_A (by omega)]; exact c2 a (by omega)
    · rw [upI_A (by omega), c2 q (by omega)]; exact ho q (by omega)
  obtain ⟨u1, u2, u3⟩ := id hU
  refine ev_aload_0 0 dX4_push_0 ?_
  refine ev_gI 1 2 2 dX4_push_1 fa_X4_13 (kdP_0 hZ hp) rfl rfl rfl ?_
  refine ev_aload_0 4 dX4_push_4 ?_
  refine ev_getA 5 0 dX4_push_5 fa_X4_24 (kdP_0 hZ hp) (prP_0 hP hp) rfl ?_
  refine ev_alen 8 dX4_push_8 (kdP_1 hZ hp) rfl rfl ?_
  rw [show _ = _ from (lnP_1 hZ hp)]
  refine ev_icmp_lt 9 31 dX4_push_9 rfl (fun h9 => ?_) (fun h9 => ?_)
  · exact tail I U hU (by omega) (fun _ _ => rfl) (fun I' a1 a2 a3 => QV_of ⟨by rw [a1, if_pos (by omega)], by unfold pshU; rw [if_pos (by omega)]; exact a2, a3⟩)
  · refine ev_aload_0 12 dX4_push_12 ?_
    refine ev_aload_0 13 dX4_push_13 ?_
    refine ev_iconst 14 dX4_push_14 ⟨by decide, by decide⟩ ?_
    refine ev_cVp_1 15 dX4_push_15 kmX4_slot lk_X4_29 (kdP_0 hZ hp) (c_slot hZ hP hp (by omega) (by omega)) rfl rfl ?_
    refine ev_pI 18 1 1 dX4_push_18 fp_X4_7 (kdP_0 hZ hp) rfl rfl ?_
    refine ev_aload_0 21 dX4_push_21 ?_
    refine ev_dupA 22 dX4_push_22 ?_
    refine ev_gI 23 2 2 dX4_push_23 fa_X4_13 (kdP_0 hZ hp) rfl rfl rfl ?_
    try simp (disch := omega) only [upI_s, upI_a, upI_k]
    refine ev_iconst 26 dX4_push_26 ⟨by decide, by decide⟩ ?_
    refine ev_isub 27 dX4_push_27 ⟨by omega, by omega⟩ ?_
    refine ev_pI 28 2 2 dX4_push_28 fp_X4_13 (kdP_0 hZ hp) rfl rfl ?_
    have hn8 : I p 2 = n := by omega
    refine tail _ (fun k => U (k + 1)) ⟨?_, ?_, fun k a b => ?_⟩ ?_ (fun q hq => by rw [upI_A hq, upI_A hq]) (fun I' a1 a2 a3 => QV_of ⟨?_, ?_, a3⟩)
    · simp (disch := omega) only [upI_s, upI_k]; exact sl_r u1 ⟨by omega, by omega⟩
    · simp (disch := omega) only [upI_s, upI_k]; omega
    · simp (disch := omega) only [upI_s, upI_k] at b ⊢
      have e : sl n (sl n (I p 1) 1) k = sl n (I p 1) (k + 1) := by unfold sl; split <;> split <;> split <;> omega
      rw [e]
      have hrk := sl_r (n := n) (o := I p 1) (k := k + 1) u1 ⟨by omega, by omega⟩
      exact (eqS_fr (fun a ha hb => by rw [upI_A (by omega), upI_A (by omega)])).tr (u3 (k + 1) (by omega) (by omega))
    · simp (disch := omega) only [upI_s, upI_k]; omega
    · rw [a1]; simp (disch := omega) only [upI_s, upI_k]; rw [if_neg (by omega)]; omega
    · unfold pshU
      rw [if_neg (by omega)]
      simp (disch := omega) only [upI_s, upI_k] at a2
      rw [hn8] at a2
      exact a2
theorem c_pop {l : Launch} {g : Gt} {d : Nat} {Z : Zt} {I : It} {P : Pt'} (hZ : LayC Z) (hP : LayP P) {p : Nat} {n : Int} (hp : IsP p n) {U : Int → Nat → Int → Int} (hU : VP p n I U) (hB : ∀ k, 0 ≤ k → k < I p 2 → ∀ t, 0 ≤ t → t < 6 → U k 2 t = 0 ∨ U k 2 t = 1) : Mt l g mX4_pop (d + 1) 0 0 [vA p, vA 18] Z I P (QM (fun r I' => (I p 2 = 0 ∧ r = 0 ∧ I' = I) ∨ (1 ≤ I p 2 ∧ r = 1 ∧ I' p 2 = I p 2 - 1 ∧ VP p n I' U ∧ EqS (vw 18 I') (U (I p 2 - 1)) ∧ (∀ q, (q < 18 ∨ 25 ≤ q) → q ≠ p → I' q = I q))) Z P) := by
  have hn : n = 8 ∨ n = 2 := by rcases hp with h | h <;> omega
  have hp2 : 25 ≤ p ∧ (p + 2 + 7 * n.toNat ≤ 99) := by rcases hp with ⟨rfl, rfl⟩ | ⟨rfl, rfl⟩ <;> omega
  obtain ⟨u1, u2, u3⟩ := id hU
  refine Mt.of kmX4_pop (ls := [vA p, vA 18]) (fun _ => rfl) (fun _ => rfl) (okf_k (okf_k (okf_n rfl))) (fun hok => ?_)
  refine ev_aload_0 0 dX4_pop_0 ?_
  refine ev_gI 1 2 2 dX4_pop_1 fa_X4_13 (kdP_0 hZ hp) rfl rfl rfl ?_
  refine ev_iconst 4 dX4_pop_4 ⟨by decide, by decide⟩ ?_
  refine ev_icmp_ge 5 10 dX4_pop_5 rfl (fun h5 => ?_) (fun h5 => ?_)
  · refine ev_aload_0 10 dX4_pop_10 ?_
    refine ev_dupA 11 dX4_pop_11 ?_
    refine ev_gI 12 2 2 dX4_pop_12 fa_X4_13 (kdP_0 hZ hp) rfl rfl rfl ?_
    refine ev_iconst 15 dX4_pop_15 ⟨by decide, by decide⟩ ?_
    refine ev_isub 16 dX4_pop_16 ⟨by omega, by omega⟩ ?_
    refine ev_pI 17 2 2 dX4_pop_17 fp_X4_13 (kdP_0 hZ hp) rfl rfl ?_
    obtain ⟨I1, hI1⟩ : ∃ I1, I1 = upI I p 2 (I p 2 - 1) := ⟨_, rfl⟩
    rw [← hI1]
    have p1 : I1 p 1 = I p 1 := by rw [hI1, upI_k (by omega)]
    have p2 : I1 p 2 = I p 2 - 1 := by rw [hI1, upI_s]
    have po : ∀ q, q ≠ p → I1 q = I q := fun q hq => by rw [hI1, upI_A hq]
    obtain ⟨s1, s2⟩ := prP_1 (i := sl n (I1 p 1) (I1 p 2)) hP hp (sl_r (by omega) (by omega)).1 (sl_r (by omega) (by omega)).2
    have hr := sl_r (n := n) (o := I1 p 1) (k := I1 p 2) (by omega) (by omega)
    obtain ⟨Y, hY⟩ : ∃ Y, Y = p + 2 + 7 * (sl n (I1 p 1) (I1 p 2)).toNat := ⟨_, rfl⟩
    rw [← hY] at s1 s2
    have hd1 : 18 + 7 ≤ Y ∨ Y + 7 ≤ 18 := by omega
    have hF : IsS 18 := Or.inl rfl
    have eY : EqS (vw Y I1) (U (I p 2 - 1)) := by
      have h := u3 (I p 2 - 1) (by omega) (by omega)
      rw [← p1, ← p2, ← hY] at h
      rw [← p2]
      exact (eqS_fr (fun a ha hb => po a (by omega))).tr h
    have hB1 : ∀ t, 0 ≤ t → t < 6 → I1 (Y + 2) t = 0 ∨ I1 (Y + 2) t = 1 := fun t a b => by
      have h := (eY.2.2.1 t a b).2
      have h' : I1 (Y + 2) t = U (I p 2 - 1) 2 t := h
      rw [h']; exact hB _ (by omega) (by omega) t a b
    refine ev_aload_1 20 dX4_pop_20 ?_
    refine ev_aload_0 21 dX4_pop_21 ?_
    refine ev_getA 22 0 dX4_pop_22 fa_X4_24 (kdP_0 hZ hp) (prP_0 hP hp) rfl ?_
    refine ev_aload_0 25 dX4_pop_25 ?_
    refine ev_aload_0 26 dX4_pop_26 ?_
    refine ev_gI 27 2 2 dX4_pop_27 fa_X4_13 (kdP_0 hZ hp) rfl rfl rfl ?_
    try simp (disch := omega) only [upI_s, upI_a, upI_k]
    refine ev_cVp_1 30 dX4_pop_30 kmX4_slot lk_X4_29 (kdP_0 hZ hp) (c_slot hZ hP hp (by omega) (by omega)) rfl rfl ?_
    try simp (disch := omega) only [upI_s, upI_a, upI_k]
    refine ev_aaldA 33 dX4_pop_33 (kdP_1 hZ hp) (by omega) ⟨by omega, by have := (lnP_1 hZ hp); omega⟩ s1 ?_
    refine ev_cVv_1 34 dX4_pop_34 kmX8_copyFrom lk_X4_33 (kd_18 hZ) (c_copy hZ hP hF s2 hd1 hB1) rfl rfl (fun I34 f34 => ?_)
    refine ev_iconst 37 dX4_pop_37 ⟨by decide, by decide⟩ ?_
    refine ev_zret 38 dX4_pop_38 (by first | omega | exact b2_or _) ?_ rfl
    first
      | exact QM_of (Or.inl ⟨by omega, rfl, rfl⟩)
      | (obtain ⟨c1, c2⟩ := f34
         have e1 : I34 p = I1 p := c2 p (by omega)
         refine QM_of (Or.inr ⟨by omega, rfl, by rw [e1]; exact p2, ⟨by rw [e1, p1]; exact u1, by rw [e1, p2]; omega, fun k a b => ?_⟩, c1.eqS.tr eY, fun q hq hq2 => by rw [c2 q (by omega)]; exact po q hq2⟩)
         rw [e1, p2] at b
         rw [e1, p1]
         have hrk := sl_r (n := n) (o := I p 1) (k := k) u1 ⟨a, by omega⟩
         exact (eqS_fr (fun a ha hb => by rw [c2 a (by omega)]; exact po a (by omega))).tr (u3 k a (by omega)))
  · refine ev_iconst 8 dX4_pop_8 ⟨by decide, by decide⟩ ?_
    refine ev_zret 9 dX4_pop_9 (by first | omega | exact b2_or _) ?_ rfl
    first
      | exact QM_of (Or.inl ⟨by omega, rfl, rfl⟩)
      | (obtain ⟨c1, c2⟩ := f34
         have e1 : I34 p = I1 p := c2 p (by omega)
         refine QM_of (Or.inr ⟨by omega, rfl, by rw [e1]; exact p2, ⟨by rw [e1, p1]; exact u1, by rw [e1, p2]; omega, fun k a b => ?_⟩, c1.eqS.tr eY, fun q hq hq2 => by rw [c2 q (by omega)]; exact po q hq2⟩)
         rw [e1, p2] at b
         rw [e1, p1]
         have hrk := sl_r (n := n) (o := I p 1) (k := k) u1 ⟨a, by omega⟩
         exact (eqS_fr (fun a ha hb => by rw [c2 a (by omega)]; exact po a (by omega))).tr (u3 k a (by omega)))
theorem c_dadd {l : Launch} {g : Gt} {d : Nat} {Z : Zt} {I : It} {P : Pt'} (hZ : LayC Z) (hP : LayP P) (h : 0 ≤ I 112 4 ∧ I 112 4 ≤ 6) (a b c e : Int) : Mt l g mX1_add d 0 0 [vA 112, vI a, vI b, vI c, vI e] Z I P (QM (fun r I' => (I 112 4 < 6 ∧ r = 1 ∧ I' = upI (upI (upI (upI (upI I 113 (I 112 4) a) 114 (I 112 4) b) 115 (I 112 4) c) 116 (I 112 4) e) 112 4 (I 112 4 + 1)) ∨ (I 112 4 = 6 ∧ r = 0 ∧ I' = I)) Z P) := by
  refine Mt.of kmX1_add (ls := [vA 112, vI a, vI b, vI c, vI e]) (fun _ => rfl) (fun _ => rfl) (okf_k (okf_k (okf_k (okf_k (okf_k (okf_n rfl)))))) (fun hok => ?_)
  refine ev_aload_0 0 dX1_add_0 ?_
  refine ev_gI 1 4 4 dX1_add_1 fa_X1_24 (kd_112 hZ) rfl rfl rfl ?_
  refine ev_bipush 4 dX1_add_4 ⟨by decide, by decide⟩ ?_
  refine ev_icmp_lt 6 11 dX1_add_6 rfl (fun h6 => ?_) (fun h6 => ?_)
  · refine ev_aload_0 11 dX1_add_11 ?_
    refine ev_getA 12 0 dX1_add_12 fa_X1_9 (kd_112 hZ) (pr_112_0 hP) rfl ?_
    refine ev_aload_0 15 dX1_add_15 ?_
    refine ev_gI 16 4 4 dX1_add_16 fa_X1_24 (kd_112 hZ) rfl rfl rfl ?_
    refine ev_iload_1 19 dX1_add_19 ?_
    refine ev_iast 20 dX1_add_20 (kd_113 hZ) ⟨by omega, by have := (ln_113 hZ); omega⟩ ?_
    refine ev_aload_0 21 dX1_add_21 ?_
    refine ev_getA 22 1 dX1_add_22 fa_X1_15 (kd_112 hZ) (pr_112_1 hP) rfl ?_
    refine ev_aload_0 25 dX1_add_25 ?_
    refine ev_gI 26 4 4 dX1_add_26 fa_X1_24 (kd_112 hZ) rfl rfl rfl ?_
    try simp (disch := omega) only [upI_s, upI_a, upI_k]
    refine ev_iload_2 29 dX1_add_29 ?_
    refine ev_iast 30 dX1_add_30 (kd_114 hZ) ⟨by omega, by have := (ln_114 hZ); omega⟩ ?_
    refine ev_aload_0 31 dX1_add_31 ?_
    refine ev_getA 32 2 dX1_add_32 fa_X1_18 (kd_112 hZ) (pr_112_2 hP) rfl ?_
    refine ev_aload_0 35 dX1_add_35 ?_
    refine ev_gI 36 4 4 dX1_add_36 fa_X1_24 (kd_112 hZ) rfl rfl rfl ?_
    try simp (disch := omega) only [upI_s, upI_a, upI_k]
    refine ev_iload_3 39 dX1_add_39 ?_
    refine ev_iast 40 dX1_add_40 (kd_115 hZ) ⟨by omega, by have := (ln_115 hZ); omega⟩ ?_
    refine ev_aload_0 41 dX1_add_41 ?_
    refine ev_getA 42 3 dX1_add_42 fa_X1_21 (kd_112 hZ) (pr_112_3 hP) rfl ?_
    refine ev_aload_0 45 dX1_add_45 ?_
    refine ev_gI 46 4 4 dX1_add_46 fa_X1_24 (kd_112 hZ) rfl rfl rfl ?_
    try simp (disch := omega) only [upI_s, upI_a, upI_k]
    refine ev_iload_4 49 dX1_add_49 ?_
    refine ev_iast 51 dX1_add_51 (kd_116 hZ) ⟨by omega, by have := (ln_116 hZ); omega⟩ ?_
    refine ev_aload_0 52 dX1_add_52 ?_
    refine ev_dupA 53 dX1_add_53 ?_
    refine ev_gI 54 4 4 dX1_add_54 fa_X1_24 (kd_112 hZ) rfl rfl rfl ?_
    try simp (disch := omega) only [upI_s, upI_a, upI_k]
    refine ev_iconst 57 dX1_add_57 ⟨by decide, by decide⟩ ?_
    refine ev_iadd 58 dX1_add_58 ⟨by omega, by omega⟩ ?_
    refine ev_pI 59 4 4 dX1_add_59 fp_X1_24 (kd_112 hZ) rfl rfl ?_
    refine ev_iconst 62 dX1_add_62 ⟨by decide, by decide⟩ ?_
    refine ev_zret 63 dX1_add_63 (by first | omega | exact b2_or _) ?_ rfl
    first | exact QM_of (Or.inr ⟨by omega, rfl, rfl⟩) | exact QM_of (Or.inl ⟨by omega, rfl, rfl⟩)
  · refine ev_iconst 9 dX1_add_9 ⟨by decide, by decide⟩ ?_
    refine ev_zret 10 dX1_add_10 (by first | omega | exact b2_or _) ?_ rfl
    first | exact QM_of (Or.inr ⟨by omega, rfl, rfl⟩) | exact QM_of (Or.inl ⟨by omega, rfl, rfl⟩)
theorem c_dempty {l : Launch} {g : Gt} {d : Nat} {Z : Zt} {I : It} {P : Pt'} (hZ : LayC Z) : Mt l g mX1_empty d 0 0 [vA 112] Z I P (QM (fun r I' => r = I 112 4 ∧ I' = upI I 112 4 0) Z P) := by
  refine Mt.of kmX1_empty (ls := [vA 112, vX]) (fun _ => rfl) (fun _ => rfl) (okf_k (okf_n rfl)) (fun hok => ?_)
  refine ev_aload_0 0 dX1_empty_0 ?_
  refine ev_gI 1 4 4 dX1_empty_1 fa_X1_24 (kd_112 hZ) rfl rfl rfl ?_
  refine ev_istore_1 4 dX1_empty_4 rfl rfl ?_
  refine ev_aload_0 5 dX1_empty_5 ?_
  refine ev_iconst 6 dX1_empty_6 ⟨by decide, by decide⟩ ?_
  refine ev_pI 7 4 4 dX1_empty_7 fp_X1_24 (kd_112 hZ) rfl rfl ?_
  refine ev_iload_1 10 dX1_empty_10 ?_
  refine ev_iret 11 dX1_empty_11 ?_ rfl
  exact QM_of ⟨rfl, rfl⟩
theorem c_hadd {l : Launch} {g : Gt} {d : Nat} {Z : Zt} {I : It} {P : Pt'} (hZ : LayC Z) (hP : LayP P) (h : 0 ≤ I 106 4 ∧ I 106 4 ≤ 6) (a b : Int) : Mt l g mX2_add d 0 0 [vA 106, vI a, vI b] Z I P (QM (fun r I' => (I 106 4 < 6 ∧ r = 1 ∧ I' = upI (upI (upI I 107 (I 106 4) a) 108 (I 106 4) b) 106 4 (I 106 4 + 1)) ∨ (I 106 4 = 6 ∧ r = 0 ∧ I' = I)) Z P) := by
  refine Mt.of kmX2_add (ls := [vA 106, vI a, vI b]) (fun _ => rfl) (fun _ => rfl) (okf_k (okf_k (okf_k (okf_n rfl)))) (fun hok => ?_)
  refine ev_aload_0 0 dX2_add_0 ?_
  refine ev_gI 1 4 4 dX2_add_1 fa_X2_18 (kd_106 hZ) rfl rfl rfl ?_
  refine ev_bipush 4 dX2_add_4 ⟨by decide, by decide⟩ ?_
  refine ev_icmp_lt 6 11 dX2_add_6 rfl (fun h6 => ?_) (fun h6 => ?_)
  · refine ev_aload_0 11 dX2_add_11 ?_
    refine ev_getA 12 2 dX2_add_12 fa_X2_9 (kd_106 hZ) (pr_106_2 hP) rfl ?_
    refine ev_aload_0 15 dX2_add_15 ?_
    refine ev_gI 16 4 4 dX2_add_16 fa_X2_18 (kd_106 hZ) rfl rfl rfl ?_
    refine ev_iload_1 19 dX2_add_19 ?_
    refine ev_iast 20 dX2_add_20 (kd_107 hZ) ⟨by omega, by have := (ln_107 hZ); omega⟩ ?_
    refine ev_aload_0 21 dX2_add_21 ?_
    refine ev_getA 22 3 dX2_add_22 fa_X2_15 (kd_106 hZ) (pr_106_3 hP) rfl ?_
    refine ev_aload_0 25 dX2_add_25 ?_
    refine ev_gI 26 4 4 dX2_add_26 fa_X2_18 (kd_106 hZ) rfl rfl rfl ?_
    try simp (disch := omega) only [upI_s, upI_a, upI_k]
    refine ev_iload_2 29 dX2_add_29 ?_
    refine ev_iast 30 dX2_add_30 (kd_108 hZ) ⟨by omega, by have := (ln_108 hZ); omega⟩ ?_
    refine ev_aload_0 31 dX2_add_31 ?_
    refine ev_dupA 32 dX2_add_32 ?_
    refine ev_gI 33 4 4 dX2_add_33 fa_X2_18 (kd_106 hZ) rfl rfl rfl ?_
    try simp (disch := omega) only [upI_s, upI_a, upI_k]
    refine ev_iconst 36 dX2_add_36 ⟨by decide, by decide⟩ ?_
    refine ev_iadd 37 dX2_add_37 ⟨by omega, by omega⟩ ?_
    refine ev_pI 38 4 4 dX2_add_38 fp_X2_18 (kd_106 hZ) rfl rfl ?_
    refine ev_iconst 41 dX2_add_41 ⟨by decide, by decide⟩ ?_
    refine ev_zret 42 dX2_add_42 (by first | omega | exact b2_or _) ?_ rfl
    first | exact QM_of (Or.inr ⟨by omega, rfl, rfl⟩) | exact QM_of (Or.inl ⟨by omega, rfl, rfl⟩)
  · refine ev_iconst 9 dX2_add_9 ⟨by decide, by decide⟩ ?_
    refine ev_zret 10 dX2_add_10 (by first | omega | exact b2_or _) ?_ rfl
    first | exact QM_of (Or.inr ⟨by omega, rfl, rfl⟩) | exact QM_of (Or.inl ⟨by omega, rfl, rfl⟩)
theorem c_hempty {l : Launch} {g : Gt} {d : Nat} {Z : Zt} {I : It} {P : Pt'} (hZ : LayC Z) : Mt l g mX2_empty d 0 0 [vA 106] Z I P (QM (fun r I' => r = I 106 4 ∧ I' = upI I 106 4 0) Z P) := by
  refine Mt.of kmX2_empty (ls := [vA 106, vX]) (fun _ => rfl) (fun _ => rfl) (okf_k (okf_n rfl)) (fun hok => ?_)
  refine ev_aload_0 0 dX2_empty_0 ?_
  refine ev_gI 1 4 4 dX2_empty_1 fa_X2_18 (kd_106 hZ) rfl rfl rfl ?_
  refine ev_istore_1 4 dX2_empty_4 rfl rfl ?_
  refine ev_aload_0 5 dX2_empty_5 ?_
  refine ev_iconst 6 dX2_empty_6 ⟨by decide, by decide⟩ ?_
  refine ev_pI 7 4 4 dX2_empty_7 fp_X2_18 (kd_106 hZ) rfl rfl ?_
  refine ev_iload_1 10 dX2_empty_10 ?_
  refine ev_iret 11 dX2_empty_11 ?_ rfl
  exact QM_of ⟨rfl, rfl⟩
theorem c_allBy {l : Launch} {g : Gt} {d : Nat} {Z : Zt} {I : It} {P : Pt'} (hZ : LayC Z) (hP : LayP P) {T : Nat} (hT : IsT T) (L c : Int) (h : 0 ≤ I 112 4 ∧ I 112 4 ≤ 6) (hc : 0 ≤ c ∧ c ≤ 6) (hB : ∀ i, 0 ≤ i → i < I 112 4 → (0 ≤ I 114 i ∧ I 114 i ≤ 23) ∧ (1 ≤ I 116 i ∧ I 116 i ≤ 50)) (h0 : 0 < I T 0) : Mt l g mX1_allBy (d + 2) 0 0 [vA 112, vA T, vI L, vI c] Z I P (QP (b2 (∀ i, 0 ≤ i → i < I 112 4 → I 113 i = L → (I 114 i + I 116 i * (c - 3)) % I T 0 = I 115 i)) Z I P) := by
  refine Mt.of kmX1_allBy (ls := [vA 112, vA T, vI L, vI c, vX]) (fun _ => rfl) (fun _ => rfl) (okf_k (okf_k (okf_k (okf_k (okf_n rfl))))) (fun hok => ?_)
  have loop : ∀ (k : Nat) (t : Int), 0 ≤ t → t + k = I 112 4 → (∀ i, 0 ≤ i → i < t → I 113 i = L → (I 114 i + I 116 i * (c - 3)) % I T 0 = I 115 i) → Ev l g mX1_allBy (d + 2) 0 0 Z I P 3 [vA 112, vA T, vI L, vI c, vI t] [] (QP (b2 (∀ i, 0 ≤ i → i < I 112 4 → I 113 i = L → (I 114 i + I 116 i * (c - 3)) % I T 0 = I 115 i)) Z I P) := by
    intro k
    induction k with
    | zero =>
      intro t h0 h1 hi
      obtain rfl : t = I 112 4 := by omega
      refine ev_iload_4 3 dX1_allBy_3 ?_
      refine ev_aload_0 5 dX1_allBy_5 ?_
      refine ev_gI 6 4 4 dX1_allBy_6 fa_X1_24 (kd_112 hZ) rfl rfl rfl ?_
      refine ev_icmp_ge 9 67 dX1_allBy_9 rfl (fun h9 => ?_) (fun h9 => ?_)
      · refine ev_iconst 67 dX1_allBy_67 ⟨by decide, by decide⟩ ?_
        refine ev_zret 68 dX1_allBy_68 (by first | omega | exact b2_or _) ?_ rfl
        exact QP_of (b2_t hi).symm
      · exfalso; omega
    | succ k ih =>
      intro t h0 h1 hi
      have hb := hB t h0 (by omega)
      have hmul : -150 ≤ I 116 t * (c - 3) ∧ I 116 t * (c - 3) ≤ 150 := by
        rcases (show c = 0 ∨ c = 1 ∨ c = 2 ∨ c = 3 ∨ c = 4 ∨ c = 5 ∨ c = 6 by omega) with rfl | rfl | rfl | rfl | rfl | rfl | rfl <;> omega
      refine ev_iload_4 3 dX1_allBy_3 ?_
      refine ev_aload_0 5 dX1_allBy_5 ?_
      refine ev_gI 6 4 4 dX1_allBy_6 fa_X1_24 (kd_112 hZ) rfl rfl rfl ?_
      refine ev_icmp_ge 9 67 dX1_allBy_9 rfl (fun h9 => ?_) (fun h9 => ?_)
      · exfalso; omega
      · refine ev_aload_0 12 dX1_allBy_12 ?_
        refine ev_getA 13 0 dX1_allBy_13 fa_X1_9 (kd_112 hZ) (pr_112_0 hP) rfl ?_
        refine ev_iload_4 16 dX1_allBy_16 ?_
        refine ev_iald 18 dX1_allBy_18 (kd_113 hZ) ⟨by omega, by have := (ln_113 hZ); omega⟩ ?_
        refine ev_iload_2 19 dX1_allBy_19 ?_
        refine ev_icmp_eq 20 26 dX1_allBy_20 rfl (fun h20 => ?_) (fun h20 => ?_)
        · refine ev_aload_1 26 dX1_allBy_26 ?_
          refine ev_aload_0 27 dX1_allBy_27 ?_
          refine ev_getA 28 1 dX1_allBy_28 fa_X1_15 (kd_112 hZ) (pr_112_1 hP) rfl ?_
          refine ev_iload_4 31 dX1_allBy_31 ?_
          refine ev_iald 33 dX1_allBy_33 (kd_114 hZ) ⟨by omega, by have := (ln_114 hZ); omega⟩ ?_
          refine ev_aload_0 34 dX1_allBy_34 ?_
          refine ev_getA 35 3 dX1_allBy_35 fa_X1_21 (kd_112 hZ) (pr_112_3 hP) rfl ?_
          refine ev_iload_4 38 dX1_allBy_38 ?_
          refine ev_iald 40 dX1_allBy_40 (kd_116 hZ) ⟨by omega, by have := (ln_116 hZ); omega⟩ ?_
          refine ev_iload_3 41 dX1_allBy_41 ?_
          refine ev_iconst 42 dX1_allBy_42 ⟨by decide, by decide⟩ ?_
          refine ev_isub 43 dX1_allBy_43 ⟨by omega, by omega⟩ ?_
          refine ev_imul 44 dX1_allBy_44 ⟨by omega, by omega⟩ ?_
          refine ev_iadd 45 dX1_allBy_45 ⟨by omega, by omega⟩ ?_
          refine ev_cVp_1 46 dX1_allBy_46 kmX10_wrap lk_X1_28 (kdT_0 hZ hT) (c_wrap hZ hT _ (by omega)) rfl rfl ?_
          refine ev_aload_0 49 dX1_allBy_49 ?_
          refine ev_getA 50 2 dX1_allBy_50 fa_X1_18 (kd_112 hZ) (pr_112_2 hP) rfl ?_
          refine ev_iload_4 53 dX1_allBy_53 ?_
          refine ev_iald 55 dX1_allBy_55 (kd_115 hZ) ⟨by omega, by have := (ln_115 hZ); omega⟩ ?_
          refine ev_icmp_eq 56 61 dX1_allBy_56 rfl (fun h56 => ?_) (fun h56 => ?_)
          · refine ev_iinc_4 61 dX1_allBy_61 ⟨by omega, by omega⟩ rfl rfl ?_
            refine ev_goto 64 3 dX1_allBy_64 rfl ?_
            first | exact ih _ (by omega) (by omega) (all_s hi (fun h => absurd h (by assumption))) | exact ih _ (by omega) (by omega) (all_s hi (fun h => by assumption))
          · refine ev_iconst 59 dX1_allBy_59 ⟨by decide, by decide⟩ ?_
            refine ev_zret 60 dX1_allBy_60 (by first | omega | exact b2_or _) ?_ rfl
            exact QP_of (b2_f (fun h => absurd (h t h0 (by omega) (by assumption)) (by assumption))).symm
        · refine ev_goto 23 61 dX1_allBy_23 rfl ?_
          refine ev_iinc_4 61 dX1_allBy_61 ⟨by omega, by omega⟩ rfl rfl ?_
          refine ev_goto 64 3 dX1_allBy_64 rfl ?_
          first | exact ih _ (by omega) (by omega) (all_s hi (fun h => absurd h (by assumption))) | exact ih _ (by omega) (by omega) (all_s hi (fun h => by assumption))
  refine ev_iconst 0 dX1_allBy_0 ⟨by decide, by decide⟩ ?_
  refine ev_istore_4 1 dX1_allBy_1 rfl rfl ?_
  exact loop (I 112 4).toNat 0 (by omega) (by omega) all_0
