/-! rows are made when they are asked for -/
section NUL
variable {l : Launch} {g : Gt} {mm : Mm} {d bc bs : Nat} {Z : Zt} {I : It} {P : Pt'} {ls st : List Vv} {Q : Qt}
theorem ev_aloadN_2 (pc : Nat) {a0 a1 : Vv} {r : List Vv} (hd : decode mm.2.1 pc = .ok (.aload_n 2, 1)) (k : Ev l g mm d bc bs Z I P (pc + 1) (a0 :: a1 :: vN :: r) (vN :: st) Q) : Ev l g mm d bc bs Z I P pc (a0 :: a1 :: vN :: r) st Q :=
  Ev.step (fun h1 h2 => ok_c (ok_at (i := 2) h1 rfl) h2) (fun p e R s m args below meth c H locs cells slots lj Q0 hF hD kk => lv_aload_nN hF.1 hF.2.1 hd rfl (lv_rd hD.2.2.1 (i := 2) (v := vN) rfl rfl) kk) k
theorem ev_astoreN_2 (pc : Nat) {a0 a1 b : Vv} {r : List Vv} (hd : decode mm.2.1 pc = .ok (.astore_n 2, 1)) (hn : pvLg (a0 :: a1 :: b :: r) 2 = false := by rfl) (hk : Nat.ble (2 + 1) mm.2.2.1 = true := by rfl) (k : Ev l g mm d bc bs Z I P (pc + 1) (a0 :: a1 :: vN :: r) st Q) : Ev l g mm d bc bs Z I P pc (a0 :: a1 :: b :: r) (vN :: st) Q :=
  Ev.stl (ls' := List.set (a0 :: a1 :: b :: r) 2 vN) (fun h1 h2 => ⟨ok_set h1 (ok_h h2), ok_t h2⟩) (fun p e R s m args below meth c H locs cells slots lj Q0 hF hl kk => lv_astore_nN hF.1 hF.2.1 hd rfl hl (Nat.le_of_ble_eq_true hk) rfl (fun lj' hl' => kk lj' (lv_st1 (v := vN) hn hl'))) k
end NUL
theorem cnt_ch {p q : Int → Prop} {j : Int} (hq : q j) (hp : ¬ p j) (h : ∀ i, i ≠ j → (p i ↔ q i)) : ∀ k : Nat, (j < 0 ∨ k ≤ j → cnt p k = cnt q k) ∧ (0 ≤ j ∧ j < k → cnt p k + 1 = cnt q k)
  | 0 => ⟨fun _ => rfl, fun z => by omega⟩
  | k + 1 => by
    obtain ⟨h1, h2⟩ := cnt_ch hq hp h k
    unfold cnt
    constructor
    · intro z
      have e := h (k : Int) (by omega)
      rw [h1 (by omega)]
      by_cases w : p (k : Int)
      · rw [b2_t w, b2_t (e.mp w)]
      · rw [b2_f w, b2_f (fun y => w (e.mpr y))]
    · intro z
      by_cases c : j = (k : Int)
      · subst c; rw [b2_f hp, b2_t hq, h1 (by omega)]; omega
      · have e := h (k : Int) (fun y => c y.symm)
        have := h2 (by omega)
        by_cases w : p (k : Int)
        · rw [b2_t w, b2_t (e.mp w)]; omega
        · rw [b2_f w, b2_f (fun y => w (e.mpr y))]; omega
/-- how many rows are still to be made -/
noncomputable def nn (P : Pt') : Nat := (cnt (fun j => P 102 j = none) 192).toNat
theorem nn_up {P P' : Pt'} {s : Int} {R : Nat} (hs : 0 ≤ s ∧ s < 192) (h : P 102 s = none) (h1 : P' 102 s = some R) (h2 : ∀ j, j ≠ s → P' 102 j = P 102 j) : nn P' + 1 = nn P := by
  have := (cnt_ch (p := fun j => P' 102 j = none) (q := fun j => P 102 j = none) (j := s) h (by rw [h1]; exact fun z => by cases z) (fun i hi => by rw [h2 i hi]) 192).2 (by omega)
  have := cnt_r (fun j => P' 102 j = none) 192
  unfold nn
  omega
def RO (Z : Zt) (P : Pt') : Prop := 145 ≤ Z.2.2 ∧ ∀ j R, 0 ≤ j → j < 192 → P 102 j = some R → 145 ≤ R ∧ R + 1 < Z.2.2 ∧ RowAt Z P R ∧ ∀ i, 0 ≤ i → i < 192 → P 102 i = some R → i = j
def KN (I : It) (P : Pt') (α : Nat → Int → Int) : Prop := ∀ j R, 0 ≤ j → j < 192 → P 102 j = some R → I R 1 = 0 ∨ (I R 1 = 1 ∧ ∀ v, 0 ≤ v → v < 192 → I (R + 1) v = dS 1000000 α j v)
def SH (I : It) (α : Nat → Int → Int) : Prop := (∀ v, 0 ≤ v → v < 192 → I 104 v = 1000000) ∧ ∀ v, gr α v → (I 105 v = 0 ↔ ¬ mkt α v)
/-- the class with a sea laid -/
def SN (T : Nat) (α : Nat → Int → Int) (Z : Zt) (I : It) (P : Pt') : Prop := LayC Z ∧ LayP P ∧ P 4 0 = some T ∧ IsT T ∧ VT T I α ∧ WF α ∧ RO Z P ∧ KN I P α ∧ SH I α
/-- rows come, nothing else -/
def SX (Z : Zt) (I : It) (P : Pt') (Z' : Zt) (I' : It) (P' : Pt') : Prop :=
  (∀ a, a < Z.2.2 → Z'.1 a = Z.1 a ∧ Z'.2.1 a = Z.2.1 a) ∧ (∀ a, a < 145 → I' a = I a) ∧ (∀ a, a < 145 → a ≠ 102 → P' a = P a) ∧
  (∀ R, RowAt Z P R → R + 1 < Z.2.2 → (R = 103 ∨ 145 ≤ R) → RowAt Z' P' R ∧ ((R = 103 ∨ I R 1 = 1) → I' R 1 = I R 1 ∧ ∀ v, I' (R + 1) v = I (R + 1) v)) ∧
  Z.2.2 ≤ Z'.2.2 ∧ Z'.2.2 + 2 * nn P' = Z.2.2 + 2 * nn P ∧ TZ Z' + 194 * nn P' = TZ Z + 194 * nn P
theorem SX.rf {Z : Zt} {I : It} {P : Pt'} : SX Z I P Z I P := ⟨fun _ _ => ⟨rfl, rfl⟩, fun _ _ => rfl, fun _ _ _ => rfl, fun _ h _ _ => ⟨h, fun _ => ⟨rfl, fun _ => rfl⟩⟩, Nat.le_refl _, rfl, rfl⟩
theorem SX.tr {Z Z1 Z2 : Zt} {I I1 I2 : It} {P P1 P2 : Pt'} (h : SX Z I P Z1 I1 P1) (k : SX Z1 I1 P1 Z2 I2 P2) : SX Z I P Z2 I2 P2 := by
  obtain ⟨h1, h2, h3, h4, h5, h6, h7⟩ := h
  obtain ⟨k1, k2, k3, k4, k5, k6, k7⟩ := k
  refine ⟨fun a ha => ?_, fun a ha => (k2 a ha).trans (h2 a ha), fun a ha hb => (k3 a ha hb).trans (h3 a ha hb), fun R hr hz hR => ?_, by omega, by omega, by omega⟩
  · obtain ⟨e1, e2⟩ := h1 a ha; obtain ⟨f1, f2⟩ := k1 a (by omega); exact ⟨f1.trans e1, f2.trans e2⟩
  · obtain ⟨e1, e2⟩ := h4 R hr hz hR
    obtain ⟨f1, f2⟩ := k4 R e1 (by omega) hR
    refine ⟨f1, fun q => ?_⟩
    obtain ⟨g1, g2⟩ := e2 q
    obtain ⟨g3, g4⟩ := f2 (by rcases q with q | q; exact Or.inl q; exact Or.inr (g1.trans q))
    exact ⟨g3.trans g1, fun v => (g4 v).trans (g2 v)⟩
theorem rfC_lt : ∀ q ∈ rfC, q.1 < 131 ∧ q.1 ≠ 102 := by decide +kernel
theorem rfM_lt : ∀ q ∈ rfM, q.1 < 145 ∧ q.1 ≠ 102 := by decide +kernel
theorem SX.layC {Z Z' : Zt} {I I' : It} {P P' : Pt'} (h : SX Z I P Z' I' P') (hz : 145 ≤ Z.2.2) (k : LayC Z) : LayC Z' := fun a ha => by rw [(h.1 a (by omega)).1, (h.1 a (by omega)).2]; exact k a ha
theorem SX.layM {Z Z' : Zt} {I I' : It} {P P' : Pt'} (h : SX Z I P Z' I' P') (hz : 145 ≤ Z.2.2) (k : LayM Z) : LayM Z' := fun a ha hb => by rw [(h.1 a (by omega)).1, (h.1 a (by omega)).2]; exact k a ha hb
theorem SX.layP {Z Z' : Zt} {I I' : It} {P P' : Pt'} (h : SX Z I P Z' I' P') (k : LayP P) : LayP P' := fun q hq => by have := rfC_lt q hq; rw [h.2.2.1 q.1 (by omega) (by omega)]; exact k q hq
theorem SX.layQ {Z Z' : Zt} {I I' : It} {P P' : Pt'} (h : SX Z I P Z' I' P') (k : LayQ P) : LayQ P' := fun q hq => by have := rfM_lt q hq; rw [h.2.2.1 q.1 (by omega) (by omega)]; exact k q hq
theorem SN.row0 {T : Nat} {α : Nat → Int → Int} {Z : Zt} {I : It} {P : Pt'} (h : SN T α Z I P) : RowAt Z P 103 := ⟨kd_103 h.1, pr_103_0 h.2.1, kd_104 h.1, ln_104 h.1⟩
theorem SN.ext {T : Nat} {α : Nat → Int → Int} {Z Z' : Zt} {I I' : It} {P P' : Pt'} (h : SN T α Z I P) (x : SX Z I P Z' I' P') (h1 : RO Z' P') (h2 : KN I' P' α) : SN T α Z' I' P' := by
  obtain ⟨hZ, hP, hT0, hT, hA, hW, hRO, hKN, hSH⟩ := h
  have ht : T = 5 ∨ T = 118 := hT
  refine ⟨x.layC hRO.1 hZ, x.layP hP, by rw [x.2.2.1 4 (by omega) (by omega)]; exact hT0, hT, fun c hc => ?_, hW, h1, h2, fun v a b => ?_, fun v hv => ?_⟩
  · rw [x.2.1 (T + c) (by omega)]; exact hA c hc
  · rw [x.2.1 104 (by omega)]; exact hSH.1 v a b
  · rw [x.2.1 105 (by omega)]; exact hSH.2 v hv
def RF (T : Nat) (α : Nat → Int → Int) (s : Int) (Z : Zt) (I : It) (P : Pt') (R : Nat) (Z' : Zt) (I' : It) (P' : Pt') : Prop :=
  SN T α Z' I' P' ∧ SX Z I P Z' I' P' ∧ RowAt Z' P' R ∧ R + 1 < Z'.2.2 ∧ (R = 103 ∨ 145 ≤ R) ∧ (R = 103 ∨ I' R 1 = 1) ∧ ∀ v, 0 ≤ v → v < 192 → I' (R + 1) v = dS 1000000 α s v
theorem c_rowI {l : Launch} {g : Gt} {d : Nat} {Z : Zt} {I : It} {P : Pt'} {R : Nat} (hk : Z.1 R = 5) (hR : R < Z.2.2) : Mt l g mX5_init (d + 1) 1 192 [vA R] Z I P (QW (fun Z' I' P' => Z' = nwZ Z 15 192 ∧ I' = upI I R 1 0 ∧ P' = upP P R 0 (some Z.2.2))) := by
  have hk2 : (nwZ Z 15 192).1 R = 5 := by show (if R = Z.2.2 then 15 else Z.1 R) = 5; rw [if_neg (by omega)]; exact hk
  refine Mt.of kmX5_init (ls := [vA R]) (fun _ => rfl) (fun _ => rfl) (okf_k (okf_n rfl)) (fun hok => ?_)
  refine ev_aload_0 0 dX5_init_0 ?_
  refine ev_objInit 1 dX5_init_1 oi_X5_3 oi_2 oi_3 ?_
  refine ev_aload_0 4 dX5_init_4 ?_
  refine ev_sipush 5 dX5_init_5 ⟨by decide, by decide⟩ ?_
  refine Ev.mono (bc' := 0 + 1) (bs' := 0 + 192) (by omega) (by omega) ?_
  refine ev_newI 8 dX5_init_8 (Or.inr (Or.inr (Or.inl ⟨rfl, rfl⟩))) ac_int ⟨by omega, by omega⟩ (n' := 192) rfl ?_
  refine ev_pA 10 0 0 dX5_init_10 fp_X5_9 hk2 (Or.inl rfl) rfl rfl ?_
  refine ev_aload_0 13 dX5_init_13 ?_
  refine ev_iconst 14 dX5_init_14 ⟨by decide, by decide⟩ ?_
  refine ev_pZ 15 1 1 dX5_init_15 fp_X5_15 hk2 (by omega) rfl rfl ?_
  refine ev_vret 18 dX5_init_18 ?_ rfl
  exact QW_of ⟨rfl, rfl, rfl⟩
theorem c_sndStart {l : Launch} {g : Gt} {d : Nat} {Z : Zt} {I : It} {P : Pt'} (hZ : LayC Z) (hP : LayP P) {T : Nat} (hT0 : P 4 0 = some T) (hT : IsT T) {α : Nat → Int → Int} (hA : VT T I α) (hW : WF α) (hRO : RO Z P) : Mt l g mX7_start (d + 1) 0 0 [vA 101] Z I P (QV (fun I' => (∀ v, 0 ≤ v → v < 192 → (I' 105 v = 0 ↔ ¬ mkt α v)) ∧ (∀ j R, 0 ≤ j → j < 192 → P 102 j = some R → I' R 1 = 0) ∧ ∀ a, a < 145 → a ≠ 105 → I' a = I a) Z P) := by
  have w0 := hW.1
  have w1 := hW.2.1
  have w2 := hW.2.2.2.1
  have ht : T = 5 ∨ T = 118 := hT
  refine Mt.of kmX7_start (ls := [vA 101, vX]) (fun _ => rfl) (fun _ => rfl) (okf_k (okf_n rfl)) (fun hok => ?_)
  have loop2 : ∀ (k : Nat) (t : Int) (I1 : It), 0 ≤ t → t + k = α 0 10 → (∀ v, 0 ≤ v → v < 192 → (I1 105 v = 0 ↔ ¬ ∃ q, 0 ≤ q ∧ q < t ∧ 24 * α 8 q + α 9 q = v)) → (∀ j R, 0 ≤ j → j < 192 → P 102 j = some R → I1 R 1 = 0) → (∀ a, a < 145 → a ≠ 105 → I1 a = I a) → Ev l g mX7_start (d + 1) 0 0 Z I1 P 43 [vA 101, vI t] [] (QV (fun I' => (∀ v, 0 ≤ v → v < 192 → (I' 105 v = 0 ↔ ¬ mkt α v)) ∧ (∀ j R, 0 ≤ j → j < 192 → P 102 j = some R → I' R 1 = 0) ∧ ∀ a, a < 145 → a ≠ 105 → I' a = I a) Z P) := by
    intro k
    induction k with
    | zero =>
      intro t I1 h0 h1 g1 g2 g3
      obtain rfl : t = α 0 10 := by omega
      have e10 : I1 T 10 = α 0 10 := by rw [g3 T (by omega) (by omega)]; exact hA.at 10
      refine ev_iload_1 43 dX7_start_43 ?_
      refine ev_aload_0 44 dX7_start_44 ?_
      refine ev_getA 45 0 dX7_start_45 fa_X7_26 (kd_101 hZ) (pr_101_0 hP) rfl ?_
      refine ev_getA 48 0 dX7_start_48 fa_X7_37 (kd_4 hZ) hT0 rfl ?_
      refine ev_gI 51 10 10 dX7_start_51 fa_X7_43 (kdT_0 hZ hT) rfl rfl rfl ?_
      try simp only [e10]
      refine ev_icmp_ge 54 96 dX7_start_54 rfl (fun h54 => ?_) (fun h54 => ?_)
      · refine ev_vret 96 dX7_start_96 ?_ rfl
        exact QV_of ⟨g1, g2, g3⟩
      · exfalso; omega
    | succ k ih =>
      intro t I1 h0 h1 g1 g2 g3
      have e10 : I1 T 10 = α 0 10 := by rw [g3 T (by omega) (by omega)]; exact hA.at 10
      have e8 : I1 (T + 8) t = α 8 t := by rw [g3 (T + 8) (by omega) (by omega)]; exact congrFun (hA 8 (by omega)) t
      have e9 : I1 (T + 9) t = α 9 t := by rw [g3 (T + 9) (by omega) (by omega)]; exact congrFun (hA 9 (by omega)) t
      have hm := hW.2.2.2.2.2.2.2.1 t h0 (by omega)
      refine ev_iload_1 43 dX7_start_43 ?_
      refine ev_aload_0 44 dX7_start_44 ?_
      refine ev_getA 45 0 dX7_start_45 fa_X7_26 (kd_101 hZ) (pr_101_0 hP) rfl ?_
      refine ev_getA 48 0 dX7_start_48 fa_X7_37 (kd_4 hZ) hT0 rfl ?_
      refine ev_gI 51 10 10 dX7_start_51 fa_X7_43 (kdT_0 hZ hT) rfl rfl rfl ?_
      try simp only [e10, e8, e9]
      refine ev_icmp_ge 54 96 dX7_start_54 rfl (fun h54 => ?_) (fun h54 => ?_)
      · exfalso; omega
      · refine ev_aload_0 57 dX7_start_57 ?_
        refine ev_getA 58 3 dX7_start_58 fa_X7_22 (kd_101 hZ) (pr_101_3 hP) rfl ?_
        refine ev_aload_0 61 dX7_start_61 ?_
        refine ev_getA 62 0 dX7_start_62 fa_X7_26 (kd_101 hZ) (pr_101_0 hP) rfl ?_
        refine ev_getA 65 0 dX7_start_65 fa_X7_37 (kd_4 hZ) hT0 rfl ?_
        refine ev_getA 68 11 dX7_start_68 fa_X7_49 (kdT_0 hZ hT) (prT_11 hP hT) rfl ?_
        refine ev_iload_1 71 dX7_start_71 ?_
        refine ev_iald 72 dX7_start_72 (kdT_8 hZ hT) ⟨by omega, by have := (lnT_8 hZ hT); omega⟩ ?_
        try simp only [e10, e8, e9]
        refine ev_aload_0 73 dX7_start_73 ?_
        refine ev_getA 74 0 dX7_start_74 fa_X7_26 (kd_101 hZ) (pr_101_0 hP) rfl ?_
        refine ev_getA 77 0 dX7_start_77 fa_X7_37 (kd_4 hZ) hT0 rfl ?_
        refine ev_getA 80 12 dX7_start_80 fa_X7_53 (kdT_0 hZ hT) (prT_12 hP hT) rfl ?_
        refine ev_iload_1 83 dX7_start_83 ?_
        refine ev_iald 84 dX7_start_84 (kdT_9 hZ hT) ⟨by omega, by have := (lnT_9 hZ hT); omega⟩ ?_
        try simp only [e10, e8, e9]
        refine ev_cSp_2 85 dX7_start_85 kmX11_spotOf lk_X7_56 (c_spotOf _ _ (by omega)) rfl rfl ?_
        try simp only [e10, e8, e9]
        refine ev_iconst 88 dX7_start_88 ⟨by decide, by decide⟩ ?_
        refine ev_zast 89 dX7_start_89 (kd_105 hZ) ⟨by omega, by have := (ln_105 hZ); omega⟩ (by omega) ?_
        refine ev_iinc_1 90 dX7_start_90 ⟨by omega, by omega⟩ rfl rfl ?_
        refine ev_goto 93 43 dX7_start_93 rfl ?_
        refine ih _ _ (by omega) (by omega) (fun v a b => ?_) (fun j R a b c => by rw [upI_A (by have := hRO.2 j R a b c; omega)]; exact g2 j R a b c) (fun a ha hb => by rw [upI_A hb]; exact g3 a ha hb)
        by_cases hv : v = 24 * α 8 t + α 9 t
        · subst hv; rw [upI_s]
          exact ⟨fun z => by omega, fun z => (z ⟨t, h0, by omega, rfl⟩).elim⟩
        · rw [upI_k hv, g1 v a b]
          exact not_congr ⟨fun ⟨q, q1, q2, q3⟩ => ⟨q, q1, by omega, q3⟩, fun ⟨q, q1, q2, q3⟩ => ⟨q, q1, by
            rcases Int.lt_or_le q t with z | z
            · exact z
            · have : q = t := by omega
              subst this; omega, q3⟩⟩
  have loop : ∀ (k : Nat) (t : Int) (I1 : It), 0 ≤ t → t + k = 192 → (∀ v, 0 ≤ v → v < t → I1 105 v = 0) → (∀ j R, 0 ≤ j → j < t → P 102 j = some R → I1 R 1 = 0) → (∀ a, a < 145 → a ≠ 105 → I1 a = I a) → Ev l g mX7_start (d + 1) 0 0 Z I1 P 2 [vA 101, vI t] [] (QV (fun I' => (∀ v, 0 ≤ v → v < 192 → (I' 105 v = 0 ↔ ¬ mkt α v)) ∧ (∀ j R, 0 ≤ j → j < 192 → P 102 j = some R → I' R 1 = 0) ∧ ∀ a, a < 145 → a ≠ 105 → I' a = I a) Z P) := by
    intro k
    induction k with
    | zero =>
      intro t I1 h0 h1 g1 g2 g3
      obtain rfl : t = 192 := by omega
      refine ev_iload_1 2 dX7_start_2 ?_
      refine ev_sipush 3 dX7_start_3 ⟨by decide, by decide⟩ ?_
      refine ev_icmp_ge 6 41 dX7_start_6 rfl (fun h6 => ?_) (fun h6 => ?_)
      · refine ev_iconst 41 dX7_start_41 ⟨by decide, by decide⟩ ?_
        refine ev_istore_1 42 dX7_start_42 rfl rfl ?_
        exact loop2 (α 0 10).toNat 0 I1 (by omega) (by omega) (fun v a b => ⟨fun _ ⟨q, q1, q2, _⟩ => by omega, fun _ => g1 v a b⟩) g2 g3
      · exfalso; omega
    | succ k ih =>
      intro t I1 h0 h1 g1 g2 g3
      refine ev_iload_1 2 dX7_start_2 ?_
      refine ev_sipush 3 dX7_start_3 ⟨by decide, by decide⟩ ?_
      refine ev_icmp_ge 6 41 dX7_start_6 rfl (fun h6 => ?_) (fun h6 => ?_)
      · exfalso; omega
      · refine ev_aload_0 9 dX7_start_9 ?_
        refine ev_getA 10 3 dX7_start_10 fa_X7_22 (kd_101 hZ) (pr_101_3 hP) rfl ?_
        refine ev_iload_1 13 dX7_start_13 ?_
        refine ev_iconst 14 dX7_start_14 ⟨by decide, by decide⟩ ?_
        refine ev_zast 15 dX7_start_15 (kd_105 hZ) ⟨by omega, by have := (ln_105 hZ); omega⟩ (by omega) ?_
        cases hc : P 102 t with
        | none =>
          refine ev_aload_0 16 dX7_start_16 ?_
          refine ev_getA 17 1 dX7_start_17 fa_X7_11 (kd_101 hZ) (pr_101_1 hP) rfl ?_
          refine ev_iload_1 20 dX7_start_20 ?_
          refine ev_aaldN 21 dX7_start_21 (kd_102 hZ) (by omega) ⟨by omega, by have := (ln_102 hZ); omega⟩ hc ?_
          refine ev_ifnullN 22 35 dX7_start_22 rfl ?_
          refine ev_iinc_1 35 dX7_start_35 ⟨by omega, by omega⟩ rfl rfl ?_
          refine ev_goto 38 2 dX7_start_38 rfl ?_
          exact ih _ _ (by omega) (by omega) (all_s (fun j a b => by rw [upI_k (by omega)]; exact g1 j a b) (upI_s _ _ _ _)) (fun j R a b c => by
            rcases Int.lt_or_le j t with z | z
            · rw [upI_A (by have := hRO.2 j R a (by omega) c; omega)]; exact g2 j R a z c
            · have : j = t := by omega
              subst this; rw [hc] at c; cases c) (fun a ha hb => by rw [upI_A hb]; exact g3 a ha hb)
        | some R =>
          have hr := hRO.2 t R h0 (by omega) hc
          refine ev_aload_0 16 dX7_start_16 ?_
          refine ev_getA 17 1 dX7_start_17 fa_X7_11 (kd_101 hZ) (pr_101_1 hP) rfl ?_
          refine ev_iload_1 20 dX7_start_20 ?_
          refine ev_aaldA 21 dX7_start_21 (kd_102 hZ) (by omega) ⟨by omega, by have := (ln_102 hZ); omega⟩ hc ?_
          refine ev_ifnullA 22 dX7_start_22 ?_
          refine ev_aload_0 25 dX7_start_25 ?_
          refine ev_getA 26 1 dX7_start_26 fa_X7_11 (kd_101 hZ) (pr_101_1 hP) rfl ?_
          refine ev_iload_1 29 dX7_start_29 ?_
          refine ev_aaldA 30 dX7_start_30 (kd_102 hZ) (by omega) ⟨by omega, by have := (ln_102 hZ); omega⟩ hc ?_
          refine ev_iconst 31 dX7_start_31 ⟨by decide, by decide⟩ ?_
          refine ev_pZ 32 1 1 dX7_start_32 fp_X7_33 hr.2.2.1.1 (by omega) rfl rfl ?_
          refine ev_iinc_1 35 dX7_start_35 ⟨by omega, by omega⟩ rfl rfl ?_
          refine ev_goto 38 2 dX7_start_38 rfl ?_
          exact ih _ _ (by omega) (by omega) (all_s (fun j a b => by rw [upI_A (by omega), upI_k (by omega)]; exact g1 j a b) (by rw [upI_A (by omega), upI_s])) (fun j R' a b c => by
            by_cases e : R' = R
            · subst e; exact upI_s _ _ _ _
            · rw [upI_A e]
              rcases Int.lt_or_le j t with z | z
              · rw [upI_A (by have := hRO.2 j R' a (by omega) c; omega)]; exact g2 j R' a z c
              · have : j = t := by omega
                subst this; rw [hc] at c; cases c; exact absurd rfl e) (fun a ha hb => by rw [upI_A (by omega), upI_A hb]; exact g3 a ha hb)
  refine ev_iconst 0 dX7_start_0 ⟨by decide, by decide⟩ ?_
  refine ev_istore_1 1 dX7_start_1 rfl rfl ?_
  exact loop 192 0 I (by omega) (by omega) (fun v a b => by omega) (fun j R a b => by omega) (fun _ _ _ => rfl)
theorem c_rowFrom {l : Launch} {g : Gt} {d : Nat} {Z : Zt} {I : It} {P : Pt'} {T : Nat} {α : Nat → Int → Int} (h : SN T α Z I P) {s : Int} (hs : gr α s) : Mt l g mX7_rowFrom (d + 2) (2 * nn P) (194 * nn P) [vA 101, vI s] Z I P (QA (RF T α s Z I P)) := by
  obtain ⟨hZ, hP, hT0, hT, hA, hW, hRO, hKN, hSH⟩ := id h
  have hs2 := gr_192 hW hs
  refine Mt.of kmX7_rowFrom (ls := [vA 101, vI s, vX]) (fun _ => rfl) (fun _ => rfl) (okf_k (okf_k (okf_n rfl))) (fun hok => ?_)
  have tail : ∀ (Z1 : Zt) (I1 : It) (P1 : Pt') (R : Nat), op α s → LayC Z1 → LayP P1 → RO Z1 P1 → KN I1 P1 α → SX Z I P Z1 I1 P1 → P1 102 s = some R → Ev l g mX7_rowFrom (d + 2) 0 0 Z1 I1 P1 39 [vA 101, vI s, vA R] [] (QA (RF T α s Z I P)) := by
    intro Z1 I1 P1 R hop hZ1 hP1 hRO1 hKN1 x1 hc
    have sn := h.ext x1 hRO1 hKN1
    have hr := hRO1.2 s R hs2.1 hs2.2 hc
    have hk := hKN1 s R hs2.1 hs2.2 hc
    refine ev_aload_2 39 dX7_rowFrom_39 ?_
    refine ev_gI 40 1 1 dX7_rowFrom_40 fa_X7_33 hr.2.2.1.1 rfl rfl rfl ?_
    refine ev_zne 43 52 dX7_rowFrom_43 rfl (fun h43 => ?_) (fun h43 => ?_)
    · refine ev_aload_2 52 dX7_rowFrom_52 ?_
      refine ev_aret 53 dX7_rowFrom_53 ?_ rfl
      exact QA_of ⟨sn, x1, hr.2.2.1, hr.2.1, Or.inr hr.1, Or.inr (by omega), by rcases hk with z | z; exact absurd z (by omega); exact z.2⟩
    · refine ev_aload_0 46 dX7_rowFrom_46 ?_
      refine ev_aload_2 47 dX7_rowFrom_47 ?_
      refine ev_iload_1 48 dX7_rowFrom_48 ?_
      refine ev_cVv_2 49 dX7_rowFrom_49 kmX7_fill lk_X7_64 (kd_101 hZ1) (c_fill sn.1 sn.2.1 sn.2.2.1 sn.2.2.2.1 hr.2.2.1 (Or.inr hr.1) sn.2.2.2.2.1 hW hop sn.2.2.2.2.2.2.2.2.2) rfl rfl (fun I49 f49 => ?_)
      obtain ⟨f1, f2, f3, f4⟩ := f49
      have key : ∀ R', RowAt Z1 P1 R' → R' ≠ R → I49 R' = I1 R' ∧ I49 (R' + 1) = I1 (R' + 1) := fun R' q hne => by
        have z1 : R' ≠ R + 1 := fun z => by have u1 := q.1; have u2 := hr.2.2.1.2.2.1; rw [← z, u1] at u2; cases u2
        have z2 : R' + 1 ≠ R := fun z => by have u1 := q.2.2.1; have u2 := hr.2.2.1.1; rw [← z, u1] at u2; cases u2
        exact ⟨f4 R' hne z1, f4 (R' + 1) z2 (by omega)⟩
      have sx : SX Z1 I1 P1 Z1 I49 P1 := by
        refine ⟨fun _ _ => ⟨rfl, rfl⟩, fun a ha => f4 a (by omega) (by omega), fun _ _ _ => rfl, fun R' q1 q2 q3 => ⟨q1, fun q4 => ?_⟩, Nat.le_refl _, rfl, rfl⟩
        have hne : R' ≠ R := fun z => by subst z; omega
        obtain ⟨u1, u2⟩ := key R' q1 hne
        exact ⟨by rw [u1], fun v => by rw [u2]⟩
      have kn : KN I49 P1 α := fun j R' a b c => by
        by_cases e : R' = R
        · subst e
          have := hr.2.2.2 j a b c
          subst this
          exact Or.inr ⟨f2, f1⟩
        · obtain ⟨u1, u2⟩ := key R' (hRO1.2 j R' a b c).2.2.1 e
          rw [u1, u2]; exact hKN1 j R' a b c
      refine ev_aload_2 52 dX7_rowFrom_52 ?_
      refine ev_aret 53 dX7_rowFrom_53 ?_ rfl
      exact QA_of ⟨sn.ext sx hRO1 kn, x1.tr sx, hr.2.2.1, hr.2.1, Or.inr hr.1, Or.inr f2, f1⟩
  refine ev_aload_0 0 dX7_rowFrom_0 ?_
  refine ev_iload_1 1 dX7_rowFrom_1 ?_
  refine ev_cVp_1 2 dX7_rowFrom_2 kmX7_isOpen lk_X7_60 (kd_101 hZ) (c_isOpen hZ hP _) rfl rfl ?_
  refine ev_ifb_ne 5 13 dX7_rowFrom_5 rfl (fun h5 => ?_) (fun h5 => ?_)
  · have hop : op α s := ⟨hs, (hSH.2 s hs).mp (by omega)⟩
    cases hc : P 102 s with
    | some R =>
      refine ev_aload_0 13 dX7_rowFrom_13 ?_
      refine ev_getA 14 1 dX7_rowFrom_14 fa_X7_11 (kd_101 hZ) (pr_101_1 hP) rfl ?_
      refine ev_iload_1 17 dX7_rowFrom_17 ?_
      refine ev_aaldA 18 dX7_rowFrom_18 (kd_102 hZ) (by omega) ⟨by omega, by have := (ln_102 hZ); omega⟩ hc ?_
      refine ev_astore_2 19 dX7_rowFrom_19 rfl rfl ?_
      refine ev_aload_2 20 dX7_rowFrom_20 ?_
      refine ev_ifnonnullA 21 39 dX7_rowFrom_21 rfl ?_
      exact Ev.mono (Nat.zero_le _) (Nat.zero_le _) (tail Z I P R hop hZ hP hRO hKN SX.rf hc)
    | none =>
      refine ev_aload_0 13 dX7_rowFrom_13 ?_
      refine ev_getA 14 1 dX7_rowFrom_14 fa_X7_11 (kd_101 hZ) (pr_101_1 hP) rfl ?_
      refine ev_iload_1 17 dX7_rowFrom_17 ?_
      refine ev_aaldN 18 dX7_rowFrom_18 (kd_102 hZ) (by omega) ⟨by omega, by have := (ln_102 hZ); omega⟩ hc ?_
      refine ev_astoreN_2 19 dX7_rowFrom_19 rfl rfl ?_
      refine ev_aloadN_2 20 dX7_rowFrom_20 ?_
      refine ev_ifnonnullN 21 dX7_rowFrom_21 ?_
      have hnn : 1 ≤ nn P := by
        have := nn_up (P' := upP P 102 s (some 0)) (R := 0) (s := s) (by omega) hc (upP_s _ _ _ _) (fun j hj => upP_k hj)
        omega
      refine Ev.mono (bc' := (0 + 1) + 1) (bs' := (0 + 192) + 2) (by omega) (by omega) ?_
      refine ev_new 24 dX7_rowFrom_24 ck_5 cl_X7_9 in_5 ii_5 ?_
      refine ev_dupA 27 dX7_rowFrom_27 ?_
      refine ev_cIw_0 28 dX7_rowFrom_28 kmX5_init lk_X7_17 (c_rowI (by show (if Z.2.2 = Z.2.2 then 5 else Z.1 Z.2.2) = 5; rw [if_pos rfl]) (by show Z.2.2 < Z.2.2 + 1; omega)) rfl rfl (fun Z1 I1 P1 f1 _ _ => ?_)
      refine Ev.mono (bc' := 0) (bs' := 0) (by omega) (by omega) ?_
      obtain ⟨e1, e2, e3⟩ := f1
      have n1 : Z1.2.2 = Z.2.2 + 2 := by rw [e1]; rfl
      have k1 : ∀ a, a < Z.2.2 → Z1.1 a = Z.1 a ∧ Z1.2.1 a = Z.2.1 a := fun a ha => by
        rw [e1]
        show (if a = Z.2.2 + 1 then _ else if a = Z.2.2 then _ else _) = _ ∧ (if a = Z.2.2 + 1 then _ else if a = Z.2.2 then _ else _) = _
        rw [if_neg (by omega), if_neg (by omega), if_neg (by omega), if_neg (by omega)]; exact ⟨rfl, rfl⟩
      have kR : Z1.1 Z.2.2 = 5 := by
        rw [e1]; show (if Z.2.2 = Z.2.2 + 1 then _ else if Z.2.2 = Z.2.2 then 5 else _) = _
        rw [if_neg (by omega), if_pos rfl]
      have kB : Z1.1 (Z.2.2 + 1) = 15 ∧ Z1.2.1 (Z.2.2 + 1) = 192 := by
        rw [e1]; show (if Z.2.2 + 1 = Z.2.2 + 1 then 15 else _) = _ ∧ (if Z.2.2 + 1 = Z.2.2 + 1 then 192 else _) = _
        rw [if_pos rfl, if_pos rfl]; exact ⟨rfl, rfl⟩
      have tz : TZ Z1 = TZ Z + 194 := by
        rw [e1]
        have a1 := TZ_nw (nwZ Z 5 0) 15 192
        have a2 := TZ_nw Z 5 0
        have a3 : csz 5 0 = 2 := by decide
        have a4 : csz 15 192 = 192 := by decide
        show TZ (nwZ0 (nwZ0 Z 5 0) 15 192) = _
        have a1' : TZ (nwZ0 (nwZ0 Z 5 0) 15 192) = TZ (nwZ0 Z 5 0) + csz 15 192 := a1
        omega
      have h145 := hRO.1
      obtain ⟨R, eR⟩ : ∃ R, R = Z.2.2 := ⟨_, rfl⟩
      have e3' : P1 = upP P R 0 (some (R + 1)) := by rw [e3, eR]; rfl
      rw [← eR] at kR kB e2 ⊢
      have hR1 : ∀ a, a < 145 → P1 a = P a := fun a ha => by rw [e3', upP_A (by omega)]
      have hZ1 : LayC Z1 := fun a ha => by rw [(k1 a (by omega)).1, (k1 a (by omega)).2]; exact hZ a ha
      have hP1 : LayP P1 := fun q hq => by have := rfC_lt q hq; rw [hR1 q.1 (by omega)]; exact hP q hq
      refine ev_astore_2 31 dX7_rowFrom_31 rfl rfl ?_
      refine ev_aload_0 32 dX7_rowFrom_32 ?_
      refine ev_getA 33 1 dX7_rowFrom_33 fa_X7_11 (kd_101 hZ1) (pr_101_1 hP1) rfl ?_
      refine ev_iload_1 36 dX7_rowFrom_36 ?_
      refine ev_aload_2 37 dX7_rowFrom_37 ?_
      refine ev_aast 38 dX7_rowFrom_38 (kd_102 hZ1) kR (by omega) ⟨by omega, by have := (ln_102 hZ1); omega⟩ ?_
      refine tail _ _ _ R hop hZ1 (fun q hq => ?_) ?_ ?_ ?_ (upP_s _ _ _ _)
      · have := rfC_lt q hq; rw [upP_A this.2]; exact hP1 q hq
      · refine ⟨by omega, fun j R' a b c => ?_⟩
        by_cases e : j = s
        · subst e; rw [upP_s] at c; cases c
          refine ⟨by omega, by omega, ⟨kR, ?_, kB.1, kB.2⟩, fun i i1 i2 i3 => ?_⟩
          · rw [upP_A (by omega), e3', upP_s]
          · by_cases e : i = j
            · exact e
            · rw [upP_k e, hR1 102 (by omega)] at i3
              have := (hRO.2 i R i1 i2 i3).2.1
              omega
        · rw [upP_k e, hR1 102 (by omega)] at c
          obtain ⟨c1, c2, c3, c4⟩ := hRO.2 j R' a b c
          refine ⟨c1, by omega, ⟨by rw [(k1 R' (by omega)).1]; exact c3.1, ?_, by rw [(k1 (R' + 1) (by omega)).1]; exact c3.2.2.1, by rw [(k1 (R' + 1) (by omega)).2]; exact c3.2.2.2⟩, fun i i1 i2 i3 => ?_⟩
          · rw [upP_A (by omega), e3', upP_A (by omega)]; exact c3.2.1
          · by_cases e2 : i = s
            · subst e2; rw [upP_s] at i3; cases i3; omega
            · rw [upP_k e2, hR1 102 (by omega)] at i3; exact c4 i i1 i2 i3
      · intro j R' a b c
        by_cases e : j = s
        · subst e; rw [upP_s] at c; cases c
          left; rw [e2, upI_s]
        · rw [upP_k e, hR1 102 (by omega)] at c
          have := (hRO.2 j R' a b c).2.1
          rw [e2, upI_A (by omega), upI_A (by omega)]; exact hKN j R' a b c
      · refine ⟨k1, fun a ha => by rw [e2, upI_A (by omega)], fun a ha hb => by rw [upP_A hb]; exact hR1 a ha, fun R' q1 q2 q3 => ⟨⟨by rw [(k1 R' (by omega)).1]; exact q1.1, ?_, by rw [(k1 (R' + 1) (by omega)).1]; exact q1.2.2.1, by rw [(k1 (R' + 1) (by omega)).2]; exact q1.2.2.2⟩, fun _ => ⟨by rw [e2, upI_A (by omega)], fun v => by rw [e2, upI_A (by omega)]⟩⟩, by omega, ?_, ?_⟩
        · rw [upP_A (by omega), e3', upP_A (by omega)]; exact q1.2.1
        · have := nn_up (P := P) (P' := upP P1 102 s (some R)) (s := s) (by omega) hc (upP_s _ _ _ _) (fun j hj => by rw [upP_k hj, hR1 102 (by omega)])
          omega
        · have := nn_up (P := P) (P' := upP P1 102 s (some R)) (s := s) (by omega) hc (upP_s _ _ _ _) (fun j hj => by rw [upP_k hj, hR1 102 (by omega)])
          omega
  · refine ev_aload_0 8 dX7_rowFrom_8 ?_
    have hcl : ¬ op α s := fun z => z.2 (Classical.byContradiction fun q => by have := (hSH.2 s hs).mpr q; omega)
    refine ev_getA 9 2 dX7_rowFrom_9 fa_X7_18 (kd_101 hZ) (pr_101_2 hP) rfl ?_
    refine ev_aret 12 dX7_rowFrom_12 ?_ rfl
    exact QA_of ⟨h, SX.rf, h.row0, by have := hRO.1; omega, Or.inl rfl, Or.inl rfl, fun v a b => by rw [hSH.1 v a b, dS_cl hW (Or.inl hcl)]⟩
