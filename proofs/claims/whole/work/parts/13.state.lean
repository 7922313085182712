/-! states, what drifts, the past -/
def VT (T : Nat) (I : It) (α : Nat → Int → Int) : Prop := ∀ c, c ≤ 12 → I (T + c) = α c
def VS (I : It) (σ : Nat → Int → Int) : Prop := ∀ c, c ≤ 6 → I (18 + c) = σ c
def OD (D : Nat) (I I' : It) : Prop := ∀ a, a ≠ D → I' a = I a
theorem OD.rf {D : Nat} {I : It} : OD D I I := fun _ _ => rfl
theorem OD.tr {D : Nat} {I I' I'' : It} (h : OD D I I') (h2 : OD D I' I'') : OD D I I'' := fun a ha => by rw [h2 a ha]; exact h a ha
theorem OD.up {D : Nat} {I I' : It} {i x : Int} (h : OD D I I') : OD D I (upI I' D i x) := fun a ha => by rw [upI_A ha]; exact h a ha
theorem VT.od {T D : Nat} {I I' : It} {α : Nat → Int → Int} (h : VT T I α) (hT : IsT T) (hD : D = 99 ∨ D = 100) (o : OD D I I') : VT T I' α := fun c hc => by
  rw [o (T + c) (by rcases hT with rfl | rfl <;> omega)]; exact h c hc
theorem VS.od {D : Nat} {I I' : It} {σ : Nat → Int → Int} (h : VS I σ) (hD : D = 99 ∨ D = 100) (o : OD D I I') : VS I' σ := fun c hc => by
  rw [o (18 + c) (by omega)]; exact h c hc
theorem VT.at {T : Nat} {I : It} {α : Nat → Int → Int} (h : VT T I α) (i : Int) : I T i = α 0 i := by rw [← h 0 (by omega)]; rfl
theorem VS.at {I : It} {σ : Nat → Int → Int} (h : VS I σ) (i : Int) : I 18 i = σ 0 i := by rw [← h 0 (by omega)]
/-- a laid sea's numbers are in range -/
def WF (α : Nat → Int → Int) : Prop := (4 ≤ α 0 0 ∧ α 0 0 ≤ 24) ∧ (1 ≤ α 0 1 ∧ α 0 1 ≤ 8) ∧ (0 ≤ α 0 5 ∧ α 0 5 ≤ 6) ∧ (0 ≤ α 0 10 ∧ α 0 10 ≤ 8) ∧ (0 ≤ α 0 13 ∧ α 0 13 ≤ 5) ∧
  (∀ l, 0 ≤ l → l < α 0 1 → (0 ≤ α 1 l ∧ α 1 l ≤ 6) ∧ (0 ≤ α 2 l ∧ α 2 l ≤ 9) ∧ (1 ≤ α 3 l ∧ α 3 l ≤ 9)) ∧
  (∀ t, 0 ≤ t → t < α 0 5 → (0 ≤ α 4 t ∧ α 4 t < α 0 1) ∧ (0 ≤ α 5 t ∧ α 5 t < α 0 0) ∧ (0 ≤ α 6 t ∧ α 6 t ≤ 20) ∧ (0 ≤ α 7 t ∧ α 7 t ≤ 20)) ∧
  (∀ t, 0 ≤ t → t < α 0 10 → (0 ≤ α 8 t ∧ α 8 t < α 0 1) ∧ (0 ≤ α 9 t ∧ α 9 t < α 0 0)) ∧
  (∀ t, 0 ≤ t → t < α 0 13 → (0 ≤ α 10 t ∧ α 10 t < α 0 1) ∧ (0 ≤ α 11 t ∧ α 11 t < α 0 0) ∧ (0 ≤ α 12 t ∧ α 12 t ≤ 9))
def fL (α : Nat → Int → Int) (l w : Int) : Int := if α 2 l < w ∧ l + 1 < α 0 1 then l + 1 else if w < α 2 l ∧ 0 < l then l - 1 else l
def fX (α : Nat → Int → Int) (l x : Int) : Int := (x + α 1 l - 3) % α 0 0
abbrev Dq : Type := Int × Int × Int × Int
def dq (D : Nat) (I : It) : Dq := (I D 1, I D 2, I D 3, I D 4)
/-- a step of a thing -/
def ps (α σ : Nat → Int → Int) (as : Int) (q : Dq) : Dq := if q.2.2.2 = -4 then (fL α q.1 q.2.2.1, fX α q.1 q.2.1, q.2.2.1, tAt (α 4) (σ 1) (σ 2) (fL α q.1 q.2.2.1) (fX α q.1 q.2.1) as (α 0 5).toNat 0) else q
def psn (α σ : Nat → Int → Int) (as : Int) : Nat → Dq → Dq
  | 0, q => q
  | n + 1, q => psn α σ as n (ps α σ as q)
def pu (α σ : Nat → Int → Int) (as : Int) : Nat → Int → Dq → Int × Dq
  | 0, _, q => (-4, q)
  | k + 1, n, q => if (ps α σ as q).2.2.2 = -4 then pu α σ as k (n + 1) (ps α σ as q) else (n, ps α σ as q)
def inD (α : Nat → Int → Int) (q : Dq) : Prop := (0 ≤ q.1 ∧ q.1 < α 0 1) ∧ (0 ≤ q.2.1 ∧ q.2.1 < α 0 0) ∧ (0 ≤ q.2.2.1 ∧ q.2.2.1 ≤ 9)
theorem fL_r {α : Nat → Int → Int} {l w : Int} (h : 0 ≤ l ∧ l < α 0 1) : 0 ≤ fL α l w ∧ fL α l w < α 0 1 := by
  unfold fL; split
  · omega
  · split <;> omega
theorem fX_r {α : Nat → Int → Int} {l x : Int} (h : 4 ≤ α 0 0) : 0 ≤ fX α l x ∧ fX α l x < α 0 0 := emod_r (by omega)
theorem ps_in {α σ : Nat → Int → Int} {as : Int} {q : Dq} (hW : WF α) (h : inD α q) : inD α (ps α σ as q) := by
  unfold ps; split
  · exact ⟨fL_r h.1, fX_r hW.1.1, h.2.2⟩
  · exact h
theorem psn_c {α σ : Nat → Int → Int} {as : Int} : ∀ (n : Nat) (q : Dq), q.2.2.2 ≠ -4 → psn α σ as n q = q
  | 0, q, _ => rfl
  | n + 1, q, h => by
    have e : ps α σ as q = q := if_neg h
    unfold psn; rw [e]; exact psn_c n q h
theorem tAt_r (tl tx tc : Int → Int) (l x as : Int) : ∀ (n : Nat) (t : Int), 0 ≤ t → tAt tl tx tc l x as n t = -4 ∨ (t ≤ tAt tl tx tc l x as n t ∧ tAt tl tx tc l x as n t < t + n)
  | 0, t, _ => Or.inl rfl
  | n + 1, t, h => by
    unfold tAt; split
    · right; omega
    · rcases tAt_r tl tx tc l x as n (t + 1) (by omega) with e | e
      · exact Or.inl e
      · right; omega
theorem tAt_b {α σ : Nat → Int → Int} (hW : WF α) (l x as : Int) : -4 ≤ tAt (α 4) (σ 1) (σ 2) l x as (α 0 5).toNat 0 ∧ tAt (α 4) (σ 1) (σ 2) l x as (α 0 5).toNat 0 ≤ 5 := by
  have h := hW.2.2.1
  rcases tAt_r (α 4) (σ 1) (σ 2) l x as (α 0 5).toNat 0 (by omega) with e | e <;> omega
def Cp (X Y : Nat) (I' I : It) : Prop := (I' X 0 = I Y 0 ∧ I' X 1 = I Y 1 ∧ (∀ t, 0 ≤ t → t < 6 → I' (X + 1) t = I (Y + 1) t ∧ I' (X + 2) t = I (Y + 2) t) ∧ (∀ t, 0 ≤ t → t < 7 → I' (X + 3) t = I (Y + 3) t ∧ I' (X + 4) t = I (Y + 4) t ∧ I' (X + 5) t = I (Y + 5) t ∧ I' (X + 6) t = I (Y + 6) t))
theorem c_addTh {l : Launch} {g : Gt} {d : Nat} {Z : Zt} {I : It} {P : Pt'} (hZ : LayC Z) (hP : LayP P) (h : 0 ≤ I 18 1 ∧ I 18 1 ≤ 7) (a b c : Int) : Mt l g mX8_addThing d 0 0 [vA 18, vI a, vI b, vI c] Z I P (QM (fun r I' => (I 18 1 < 7 ∧ r = I 18 1 ∧ I' = upI (upI (upI (upI (upI I 21 (I 18 1) a) 22 (I 18 1) b) 23 (I 18 1) c) 24 (I 18 1) (-4)) 18 1 (I 18 1 + 1)) ∨ (I 18 1 = 7 ∧ r = -3 ∧ I' = I)) Z P) := by
  refine Mt.of kmX8_addThing (ls := [vA 18, vI a, vI b, vI c]) (fun _ => rfl) (fun _ => rfl) (okf_k (okf_k (okf_k (okf_k (okf_n rfl))))) (fun hok => ?_)
  refine ev_aload_0 0 dX8_addThing_0 ?_
  refine ev_gI 1 1 1 dX8_addThing_1 fa_X8_15 (kd_18 hZ) rfl rfl rfl ?_
  refine ev_bipush 4 dX8_addThing_4 ⟨by decide, by decide⟩ ?_
  refine ev_icmp_lt 6 12 dX8_addThing_6 rfl (fun h6 => ?_) (fun h6 => ?_)
  · refine ev_aload_0 12 dX8_addThing_12 ?_
    refine ev_getA 13 4 dX8_addThing_13 fa_X8_26 (kd_18 hZ) (pr_18_4 hP) rfl ?_
    refine ev_aload_0 16 dX8_addThing_16 ?_
    refine ev_gI 17 1 1 dX8_addThing_17 fa_X8_15 (kd_18 hZ) rfl rfl rfl ?_
    refine ev_iload_1 20 dX8_addThing_20 ?_
    refine ev_iast 21 dX8_addThing_21 (kd_21 hZ) ⟨by omega, by have := (ln_21 hZ); omega⟩ ?_
    refine ev_aload_0 22 dX8_addThing_22 ?_
    refine ev_getA 23 5 dX8_addThing_23 fa_X8_29 (kd_18 hZ) (pr_18_5 hP) rfl ?_
    refine ev_aload_0 26 dX8_addThing_26 ?_
    refine ev_gI 27 1 1 dX8_addThing_27 fa_X8_15 (kd_18 hZ) rfl rfl rfl ?_
    try simp (disch := omega) only [upI_s, upI_a, upI_k]
    refine ev_iload_2 30 dX8_addThing_30 ?_
    refine ev_iast 31 dX8_addThing_31 (kd_22 hZ) ⟨by omega, by have := (ln_22 hZ); omega⟩ ?_
    refine ev_aload_0 32 dX8_addThing_32 ?_
    refine ev_getA 33 6 dX8_addThing_33 fa_X8_32 (kd_18 hZ) (pr_18_6 hP) rfl ?_
    refine ev_aload_0 36 dX8_addThing_36 ?_
    refine ev_gI 37 1 1 dX8_addThing_37 fa_X8_15 (kd_18 hZ) rfl rfl rfl ?_
    try simp (disch := omega) only [upI_s, upI_a, upI_k]
    refine ev_iload_3 40 dX8_addThing_40 ?_
    refine ev_iast 41 dX8_addThing_41 (kd_23 hZ) ⟨by omega, by have := (ln_23 hZ); omega⟩ ?_
    refine ev_aload_0 42 dX8_addThing_42 ?_
    refine ev_getA 43 7 dX8_addThing_43 fa_X8_35 (kd_18 hZ) (pr_18_7 hP) rfl ?_
    refine ev_aload_0 46 dX8_addThing_46 ?_
    refine ev_gI 47 1 1 dX8_addThing_47 fa_X8_15 (kd_18 hZ) rfl rfl rfl ?_
    try simp (disch := omega) only [upI_s, upI_a, upI_k]
    refine ev_bipush 50 dX8_addThing_50 ⟨by decide, by decide⟩ ?_
    refine ev_iast 52 dX8_addThing_52 (kd_24 hZ) ⟨by omega, by have := (ln_24 hZ); omega⟩ ?_
    refine ev_aload_0 53 dX8_addThing_53 ?_
    refine ev_dupA 54 dX8_addThing_54 ?_
    refine ev_gI 55 1 1 dX8_addThing_55 fa_X8_15 (kd_18 hZ) rfl rfl rfl ?_
    try simp (disch := omega) only [upI_s, upI_a, upI_k]
    refine ev_iconst 58 dX8_addThing_58 ⟨by decide, by decide⟩ ?_
    refine ev_iadd 59 dX8_addThing_59 ⟨by omega, by omega⟩ ?_
    refine ev_pI 60 1 1 dX8_addThing_60 fp_X8_15 (kd_18 hZ) rfl rfl ?_
    refine ev_aload_0 63 dX8_addThing_63 ?_
    refine ev_gI 64 1 1 dX8_addThing_64 fa_X8_15 (kd_18 hZ) rfl rfl rfl ?_
    try simp (disch := omega) only [upI_s, upI_a, upI_k]
    refine ev_iconst 67 dX8_addThing_67 ⟨by decide, by decide⟩ ?_
    refine ev_isub 68 dX8_addThing_68 ⟨by omega, by omega⟩ ?_
    refine ev_iret 69 dX8_addThing_69 ?_ rfl
    first | exact QM_of (Or.inr ⟨by omega, rfl, rfl⟩) | exact QM_of (Or.inl ⟨by omega, by omega, rfl⟩)
  · refine ev_bipush 9 dX8_addThing_9 ⟨by decide, by decide⟩ ?_
    refine ev_iret 11 dX8_addThing_11 ?_ rfl
    first | exact QM_of (Or.inr ⟨by omega, rfl, rfl⟩) | exact QM_of (Or.inl ⟨by omega, by omega, rfl⟩)
theorem c_sstart {l : Launch} {g : Gt} {d : Nat} {Z : Zt} {I : It} {P : Pt'} (hZ : LayC Z) (hP : LayP P) {T : Nat} (hT : IsT T) (h13 : 0 ≤ I T 13 ∧ I T 13 ≤ 5) : Mt l g mX8_start (d + 1) 0 0 [vA 18, vA T] Z I P (QV (fun I' => I' 18 0 = 0 ∧ I' 18 1 = I T 13 ∧ (∀ j, 0 ≤ j → j < 6 → I' 19 j = I (T + 5) j ∧ I' 20 j = 0) ∧ (∀ j, 0 ≤ j → j < I T 13 → I' 21 j = I (T + 10) j ∧ I' 22 j = I (T + 11) j ∧ I' 23 j = I (T + 12) j ∧ I' 24 j = -4) ∧ Fr 18 25 I I') Z P) := by
  have ht : T = 5 ∨ T = 118 := hT
  refine Mt.of kmX8_start (ls := [vA 18, vA T, vX]) (fun _ => rfl) (fun _ => rfl) (okf_k (okf_k (okf_n rfl))) (fun hok => ?_)
  have l2 : ∀ (k : Nat) (t : Int) (I1 : It), 0 ≤ t → t + k = I T 13 → Fr 18 25 I I1 → I1 18 0 = 0 → I1 18 1 = t → (∀ j, 0 ≤ j → j < 6 → I1 19 j = I (T + 5) j ∧ I1 20 j = 0) → (∀ j, 0 ≤ j → j < t → I1 21 j = I (T + 10) j ∧ I1 22 j = I (T + 11) j ∧ I1 23 j = I (T + 12) j ∧ I1 24 j = -4) →
      Ev l g mX8_start (d + 1) 0 0 Z I1 P 45 [vA 18, vA T, vI t] [] (QV (fun I' => I' 18 0 = 0 ∧ I' 18 1 = I T 13 ∧ (∀ j, 0 ≤ j → j < 6 → I' 19 j = I (T + 5) j ∧ I' 20 j = 0) ∧ (∀ j, 0 ≤ j → j < I T 13 → I' 21 j = I (T + 10) j ∧ I' 22 j = I (T + 11) j ∧ I' 23 j = I (T + 12) j ∧ I' 24 j = -4) ∧ Fr 18 25 I I') Z P) := by
    intro k
    induction k with
    | zero =>
      intro t I1 h0 h1 hf g0 g1 g2 g3
      have hT13 : I1 T 13 = I T 13 := by rw [hf T (by omega)]
      obtain rfl : t = I T 13 := by omega
      refine ev_iload_2 45 dX8_start_45 ?_
      refine ev_aload_1 46 dX8_start_46 ?_
      refine ev_gI 47 13 13 dX8_start_47 fa_X8_41 (kdT_0 hZ hT) rfl rfl rfl ?_
      refine ev_icmp_ge 50 82 dX8_start_50 rfl (fun h50 => ?_) (fun h50 => ?_)
      · refine ev_vret 82 dX8_start_82 ?_ rfl
        exact QV_of ⟨g0, g1, g2, g3, hf⟩
      · exfalso; omega
    | succ k ih =>
      intro t I1 h0 h1 hf g0 g1 g2 g3
      have hT13 : I1 T 13 = I T 13 := by rw [hf T (by omega)]
      have e1 : I1 (T + 10) = I (T + 10) := hf _ (by omega)
      have e2 : I1 (T + 11) = I (T + 11) := hf _ (by omega)
      have e3 : I1 (T + 12) = I (T + 12) := hf _ (by omega)
      refine ev_iload_2 45 dX8_start_45 ?_
      refine ev_aload_1 46 dX8_start_46 ?_
      refine ev_gI 47 13 13 dX8_start_47 fa_X8_41 (kdT_0 hZ hT) rfl rfl rfl ?_
      try simp only [e1, e2, e3]
      refine ev_icmp_ge 50 82 dX8_start_50 rfl (fun h50 => ?_) (fun h50 => ?_)
      · exfalso; omega
      · refine ev_aload_0 53 dX8_start_53 ?_
        refine ev_aload_1 54 dX8_start_54 ?_
        refine ev_getA 55 14 dX8_start_55 fa_X8_42 (kdT_0 hZ hT) (prT_14 hP hT) rfl ?_
        refine ev_iload_2 58 dX8_start_58 ?_
        refine ev_iald 59 dX8_start_59 (kdT_10 hZ hT) ⟨by omega, by have := (lnT_10 hZ hT); omega⟩ ?_
        try simp only [e1, e2, e3]
        refine ev_aload_1 60 dX8_start_60 ?_
        refine ev_getA 61 15 dX8_start_61 fa_X8_43 (kdT_0 hZ hT) (prT_15 hP hT) rfl ?_
        refine ev_iload_2 64 dX8_start_64 ?_
        refine ev_iald 65 dX8_start_65 (kdT_11 hZ hT) ⟨by omega, by have := (lnT_11 hZ hT); omega⟩ ?_
        try simp only [e1, e2, e3]
        refine ev_aload_1 66 dX8_start_66 ?_
        refine ev_getA 67 16 dX8_start_67 fa_X8_44 (kdT_0 hZ hT) (prT_16 hP hT) rfl ?_
        refine ev_iload_2 70 dX8_start_70 ?_
        refine ev_iald 71 dX8_start_71 (kdT_12 hZ hT) ⟨by omega, by have := (lnT_12 hZ hT); omega⟩ ?_
        try simp only [e1, e2, e3]
        refine ev_cVm_3 72 dX8_start_72 kmX8_addThing lk_X8_45 (kd_18 hZ) (c_addTh hZ hP (by omega) _ _ _) rfl rfl (fun x72 I72 f72 => ?_)
        refine ev_popI 75 dX8_start_75 ?_
        refine ev_iinc_2 76 dX8_start_76 ⟨by omega, by omega⟩ rfl rfl ?_
        refine ev_goto 79 45 dX8_start_79 rfl ?_
        rcases f72 with ⟨a1, a2, a3⟩ | ⟨a1, a2, a3⟩
        · subst a3
          refine ih _ _ (by omega) (by omega) ((((((hf.up (by omega) (by omega)).up (by omega) (by omega)).up (by omega) (by omega)).up (by omega) (by omega)).up (by omega) (by omega))) (by simp (disch := omega) only [upI_s, upI_a, upI_k]; exact g0) (by simp (disch := omega) only [upI_s, upI_a, upI_k]; omega) (fun j a b => by simp (disch := omega) only [upI_s, upI_a, upI_k]; exact g2 j a b) (fun j a b => ?_)
          by_cases e : j = t
          · subst e; rw [g1]; simp (disch := omega) only [upI_s, upI_a, upI_k]; exact ⟨trivial, trivial, trivial, trivial⟩
          · simp (disch := omega) only [upI_s, upI_a, upI_k]; exact g3 j a (by omega)
        · exfalso; omega
  have l1 : ∀ (k : Nat) (t : Int) (I1 : It), 0 ≤ t → t + k = 6 → Fr 18 25 I I1 → I1 18 0 = 0 → I1 18 1 = 0 → (∀ j, 0 ≤ j → j < t → I1 19 j = I (T + 5) j ∧ I1 20 j = 0) →
      Ev l g mX8_start (d + 1) 0 0 Z I1 P 12 [vA 18, vA T, vI t] [] (QV (fun I' => I' 18 0 = 0 ∧ I' 18 1 = I T 13 ∧ (∀ j, 0 ≤ j → j < 6 → I' 19 j = I (T + 5) j ∧ I' 20 j = 0) ∧ (∀ j, 0 ≤ j → j < I T 13 → I' 21 j = I (T + 10) j ∧ I' 22 j = I (T + 11) j ∧ I' 23 j = I (T + 12) j ∧ I' 24 j = -4) ∧ Fr 18 25 I I') Z P) := by
    intro k
    induction k with
    | zero =>
      intro t I1 h0 h1 hf g0 g1 g2
      obtain rfl : t = 6 := by omega
      refine ev_iload_2 12 dX8_start_12 ?_
      refine ev_bipush 13 dX8_start_13 ⟨by decide, by decide⟩ ?_
      refine ev_icmp_ge 15 43 dX8_start_15 rfl (fun h15 => ?_) (fun h15 => ?_)
      · refine ev_iconst 43 dX8_start_43 ⟨by decide, by decide⟩ ?_
        refine ev_istore_2 44 dX8_start_44 rfl rfl ?_
        exact l2 (I T 13).toNat 0 I1 (by omega) (by omega) hf g0 g1 g2 all_0
      · exfalso; omega
    | succ k ih =>
      intro t I1 h0 h1 hf g0 g1 g2
      have e1 : I1 (T + 5) = I (T + 5) := hf _ (by omega)
      refine ev_iload_2 12 dX8_start_12 ?_
      refine ev_bipush 13 dX8_start_13 ⟨by decide, by decide⟩ ?_
      refine ev_icmp_ge 15 43 dX8_start_15 rfl (fun h15 => ?_) (fun h15 => ?_)
      · exfalso; omega
      · refine ev_aload_0 18 dX8_start_18 ?_
        refine ev_getA 19 2 dX8_start_19 fa_X8_18 (kd_18 hZ) (pr_18_2 hP) rfl ?_
        refine ev_iload_2 22 dX8_start_22 ?_
        refine ev_aload_1 23 dX8_start_23 ?_
        refine ev_getA 24 7 dX8_start_24 fa_X8_38 (kdT_0 hZ hT) (prT_7 hP hT) rfl ?_
        refine ev_iload_2 27 dX8_start_27 ?_
        refine ev_iald 28 dX8_start_28 (kdT_5 hZ hT) ⟨by omega, by have := (lnT_5 hZ hT); omega⟩ ?_
        try simp only [e1]
        refine ev_iast 29 dX8_start_29 (kd_19 hZ) ⟨by omega, by have := (ln_19 hZ); omega⟩ ?_
        refine ev_aload_0 30 dX8_start_30 ?_
        refine ev_getA 31 3 dX8_start_31 fa_X8_22 (kd_18 hZ) (pr_18_3 hP) rfl ?_
        refine ev_iload_2 34 dX8_start_34 ?_
        refine ev_iconst 35 dX8_start_35 ⟨by decide, by decide⟩ ?_
        refine ev_zast 36 dX8_start_36 (kd_20 hZ) ⟨by omega, by have := (ln_20 hZ); omega⟩ (by omega) ?_
        refine ev_iinc_2 37 dX8_start_37 ⟨by omega, by omega⟩ rfl rfl ?_
        refine ev_goto 40 12 dX8_start_40 rfl ?_
        refine ih _ _ (by omega) (by omega) ((hf.up (by omega) (by omega)).up (by omega) (by omega)) (by simp (disch := omega) only [upI_s, upI_a, upI_k]; exact g0) (by simp (disch := omega) only [upI_s, upI_a, upI_k]; exact g1) (fun j a b => ?_)
        by_cases e : j = t
        · subst e; simp (disch := omega) only [upI_s, upI_a, upI_k]; exact ⟨trivial, trivial⟩
        · simp (disch := omega) only [upI_s, upI_a, upI_k]; exact g2 j a (by omega)
  refine ev_aload_0 0 dX8_start_0 ?_
  refine ev_iconst 1 dX8_start_1 ⟨by decide, by decide⟩ ?_
  refine ev_pI 2 0 0 dX8_start_2 fp_X8_9 (kd_18 hZ) rfl rfl ?_
  refine ev_aload_0 5 dX8_start_5 ?_
  refine ev_iconst 6 dX8_start_6 ⟨by decide, by decide⟩ ?_
  refine ev_pI 7 1 1 dX8_start_7 fp_X8_15 (kd_18 hZ) rfl rfl ?_
  refine ev_iconst 10 dX8_start_10 ⟨by decide, by decide⟩ ?_
  refine ev_istore_2 11 dX8_start_11 rfl rfl ?_
  exact l1 6 0 _ (by omega) (by omega) ((Fr.rf.up (by omega) (by omega)).up (by omega) (by omega)) (by simp (disch := omega) only [upI_s, upI_a, upI_k]) (by simp (disch := omega) only [upI_s, upI_a, upI_k]) all_0
theorem c_copy {l : Launch} {g : Gt} {d : Nat} {Z : Zt} {I : It} {P : Pt'} (hZ : LayC Z) (hP : LayP P) {S F : Nat} (hS : IsS S) (hF : IsS F) (hd : S + 7 ≤ F ∨ F + 7 ≤ S) (hB : ∀ t, 0 ≤ t → t < 6 → I (F + 2) t = 0 ∨ I (F + 2) t = 1) : Mt l g mX8_copyFrom d 0 0 [vA S, vA F] Z I P (QV (fun I' => Cp S F I' I ∧ Fr S (S + 7) I I') Z P) := by
  refine Mt.of kmX8_copyFrom (ls := [vA S, vA F, vX]) (fun _ => rfl) (fun _ => rfl) (okf_k (okf_k (okf_n rfl))) (fun hok => ?_)
  have l2 : ∀ (k : Nat) (t : Int) (I1 : It), 0 ≤ t → t + k = 7 → Fr S (S + 7) I I1 → I1 S 0 = I F 0 → I1 S 1 = I F 1 → (∀ j, 0 ≤ j → j < 6 → I1 (S + 1) j = I (F + 1) j ∧ I1 (S + 2) j = I (F + 2) j) → (∀ j, 0 ≤ j → j < t → I1 (S + 3) j = I (F + 3) j ∧ I1 (S + 4) j = I (F + 4) j ∧ I1 (S + 5) j = I (F + 5) j ∧ I1 (S + 6) j = I (F + 6) j) →
      Ev l g mX8_copyFrom d 0 0 Z I1 P 56 [vA S, vA F, vI t] [] (QV (fun I' => Cp S F I' I ∧ Fr S (S + 7) I I') Z P) := by
    intro k
    induction k with
    | zero =>
      intro t I1 h0 h1 hf g0 g1 g2 g3
      obtain rfl : t = 7 := by omega
      refine ev_iload_2 56 dX8_copyFrom_56 ?_
      refine ev_bipush 57 dX8_copyFrom_57 ⟨by decide, by decide⟩ ?_
      refine ev_icmp_ge 59 116 dX8_copyFrom_59 rfl (fun h59 => ?_) (fun h59 => ?_)
      · refine ev_vret 116 dX8_copyFrom_116 ?_ rfl
        exact QV_of ⟨⟨g0, g1, g2, g3⟩, hf⟩
      · exfalso; omega
    | succ k ih =>
      intro t I1 h0 h1 hf g0 g1 g2 g3
      have e3 : I1 (F + 3) = I (F + 3) := hf _ (by omega)
      have e4 : I1 (F + 4) = I (F + 4) := hf _ (by omega)
      have e5 : I1 (F + 5) = I (F + 5) := hf _ (by omega)
      have e6 : I1 (F + 6) = I (F + 6) := hf _ (by omega)
      refine ev_iload_2 56 dX8_copyFrom_56 ?_
      refine ev_bipush 57 dX8_copyFrom_57 ⟨by decide, by decide⟩ ?_
      refine ev_icmp_ge 59 116 dX8_copyFrom_59 rfl (fun h59 => ?_) (fun h59 => ?_)
      · exfalso; omega
      · refine ev_aload_0 62 dX8_copyFrom_62 ?_
        refine ev_getA 63 4 dX8_copyFrom_63 fa_X8_26 (kdS_0 hZ hS) (prS_4 hP hS) rfl ?_
        refine ev_iload_2 66 dX8_copyFrom_66 ?_
        refine ev_aload_1 67 dX8_copyFrom_67 ?_
        refine ev_getA 68 4 dX8_copyFrom_68 fa_X8_26 (kdS_0 hZ hF) (prS_4 hP hF) rfl ?_
        refine ev_iload_2 71 dX8_copyFrom_71 ?_
        refine ev_iald 72 dX8_copyFrom_72 (kdS_3 hZ hF) ⟨by omega, by have := (lnS_3 hZ hF); omega⟩ ?_
        try simp only [e3, e4, e5, e6]
        refine ev_iast 73 dX8_copyFrom_73 (kdS_3 hZ hS) ⟨by omega, by have := (lnS_3 hZ hS); omega⟩ ?_
        refine ev_aload_0 74 dX8_copyFrom_74 ?_
        refine ev_getA 75 5 dX8_copyFrom_75 fa_X8_29 (kdS_0 hZ hS) (prS_5 hP hS) rfl ?_
        refine ev_iload_2 78 dX8_copyFrom_78 ?_
        refine ev_aload_1 79 dX8_copyFrom_79 ?_
        refine ev_getA 80 5 dX8_copyFrom_80 fa_X8_29 (kdS_0 hZ hF) (prS_5 hP hF) rfl ?_
        refine ev_iload_2 83 dX8_copyFrom_83 ?_
        refine ev_iald 84 dX8_copyFrom_84 (kdS_4 hZ hF) ⟨by omega, by have := (lnS_4 hZ hF); omega⟩ ?_
        try simp (disch := omega) only [upI_s, upI_a, upI_k]
        try simp only [e3, e4, e5, e6]
        refine ev_iast 85 dX8_copyFrom_85 (kdS_4 hZ hS) ⟨by omega, by have := (lnS_4 hZ hS); omega⟩ ?_
        refine ev_aload_0 86 dX8_copyFrom_86 ?_
        refine ev_getA 87 6 dX8_copyFrom_87 fa_X8_32 (kdS_0 hZ hS) (prS_6 hP hS) rfl ?_
        refine ev_iload_2 90 dX8_copyFrom_90 ?_
        refine ev_aload_1 91 dX8_copyFrom_91 ?_
        refine ev_getA 92 6 dX8_copyFrom_92 fa_X8_32 (kdS_0 hZ hF) (prS_6 hP hF) rfl ?_
        refine ev_iload_2 95 dX8_copyFrom_95 ?_
        refine ev_iald 96 dX8_copyFrom_96 (kdS_5 hZ hF) ⟨by omega, by have := (lnS_5 hZ hF); omega⟩ ?_
        try simp (disch := omega) only [upI_s, upI_a, upI_k]
        try simp only [e3, e4, e5, e6]
        refine ev_iast 97 dX8_copyFrom_97 (kdS_5 hZ hS) ⟨by omega, by have := (lnS_5 hZ hS); omega⟩ ?_
        refine ev_aload_0 98 dX8_copyFrom_98 ?_
        refine ev_getA 99 7 dX8_copyFrom_99 fa_X8_35 (kdS_0 hZ hS) (prS_7 hP hS) rfl ?_
        refine ev_iload_2 102 dX8_copyFrom_102 ?_
        refine ev_aload_1 103 dX8_copyFrom_103 ?_
        refine ev_getA 104 7 dX8_copyFrom_104 fa_X8_35 (kdS_0 hZ hF) (prS_7 hP hF) rfl ?_
        refine ev_iload_2 107 dX8_copyFrom_107 ?_
        refine ev_iald 108 dX8_copyFrom_108 (kdS_6 hZ hF) ⟨by omega, by have := (lnS_6 hZ hF); omega⟩ ?_
        try simp (disch := omega) only [upI_s, upI_a, upI_k]
        try simp only [e3, e4, e5, e6]
        refine ev_iast 109 dX8_copyFrom_109 (kdS_6 hZ hS) ⟨by omega, by have := (lnS_6 hZ hS); omega⟩ ?_
        refine ev_iinc_2 110 dX8_copyFrom_110 ⟨by omega, by omega⟩ rfl rfl ?_
        refine ev_goto 113 56 dX8_copyFrom_113 rfl ?_
        refine ih _ _ (by omega) (by omega) ((((hf.up (by omega) (by omega)).up (by omega) (by omega)).up (by omega) (by omega)).up (by omega) (by omega)) (by simp (disch := omega) only [upI_s, upI_a, upI_k]; exact g0) (by simp (disch := omega) only [upI_s, upI_a, upI_k]; exact g1) (fun j a b => by simp (disch := omega) only [upI_s, upI_a, upI_k]; exact g2 j a b) (fun j a b => ?_)
        by_cases e : j = t
        · subst e; simp (disch := omega) only [upI_s, upI_a, upI_k]; exact ⟨trivial, trivial, trivial, trivial⟩
        · simp (disch := omega) only [upI_s, upI_a, upI_k]; exact g3 j a (by omega)
  have l1 : ∀ (k : Nat) (t : Int) (I1 : It), 0 ≤ t → t + k = 6 → Fr S (S + 7) I I1 → I1 S 0 = I F 0 → I1 S 1 = I F 1 → (∀ j, 0 ≤ j → j < t → I1 (S + 1) j = I (F + 1) j ∧ I1 (S + 2) j = I (F + 2) j) →
      Ev l g mX8_copyFrom d 0 0 Z I1 P 18 [vA S, vA F, vI t] [] (QV (fun I' => Cp S F I' I ∧ Fr S (S + 7) I I') Z P) := by
    intro k
    induction k with
    | zero =>
      intro t I1 h0 h1 hf g0 g1 g2
      obtain rfl : t = 6 := by omega
      refine ev_iload_2 18 dX8_copyFrom_18 ?_
      refine ev_bipush 19 dX8_copyFrom_19 ⟨by decide, by decide⟩ ?_
      refine ev_icmp_ge 21 54 dX8_copyFrom_21 rfl (fun h21 => ?_) (fun h21 => ?_)
      · refine ev_iconst 54 dX8_copyFrom_54 ⟨by decide, by decide⟩ ?_
        refine ev_istore_2 55 dX8_copyFrom_55 rfl rfl ?_
        exact l2 7 0 I1 (by omega) (by omega) hf g0 g1 g2 all_0
      · exfalso; omega
    | succ k ih =>
      intro t I1 h0 h1 hf g0 g1 g2
      have e1 : I1 (F + 1) = I (F + 1) := hf _ (by omega)
      have e2 : I1 (F + 2) = I (F + 2) := hf _ (by omega)
      refine ev_iload_2 18 dX8_copyFrom_18 ?_
      refine ev_bipush 19 dX8_copyFrom_19 ⟨by decide, by decide⟩ ?_
      refine ev_icmp_ge 21 54 dX8_copyFrom_21 rfl (fun h21 => ?_) (fun h21 => ?_)
      · exfalso; omega
      · refine ev_aload_0 24 dX8_copyFrom_24 ?_
        refine ev_getA 25 2 dX8_copyFrom_25 fa_X8_18 (kdS_0 hZ hS) (prS_2 hP hS) rfl ?_
        refine ev_iload_2 28 dX8_copyFrom_28 ?_
        refine ev_aload_1 29 dX8_copyFrom_29 ?_
        refine ev_getA 30 2 dX8_copyFrom_30 fa_X8_18 (kdS_0 hZ hF) (prS_2 hP hF) rfl ?_
        refine ev_iload_2 33 dX8_copyFrom_33 ?_
        refine ev_iald 34 dX8_copyFrom_34 (kdS_1 hZ hF) ⟨by omega, by have := (lnS_1 hZ hF); omega⟩ ?_
        try simp only [e1, e2]
        refine ev_iast 35 dX8_copyFrom_35 (kdS_1 hZ hS) ⟨by omega, by have := (lnS_1 hZ hS); omega⟩ ?_
        refine ev_aload_0 36 dX8_copyFrom_36 ?_
        refine ev_getA 37 3 dX8_copyFrom_37 fa_X8_22 (kdS_0 hZ hS) (prS_3 hP hS) rfl ?_
        refine ev_iload_2 40 dX8_copyFrom_40 ?_
        refine ev_aload_1 41 dX8_copyFrom_41 ?_
        refine ev_getA 42 3 dX8_copyFrom_42 fa_X8_22 (kdS_0 hZ hF) (prS_3 hP hF) rfl ?_
        refine ev_iload_2 45 dX8_copyFrom_45 ?_
        refine ev_zald 46 dX8_copyFrom_46 (kdS_2 hZ hF) ⟨by omega, by have := (lnS_2 hZ hF); omega⟩ ?_
        try simp (disch := omega) only [upI_s, upI_a, upI_k]
        try simp only [e1, e2]
        refine ev_zast 47 dX8_copyFrom_47 (kdS_2 hZ hS) ⟨by omega, by have := (lnS_2 hZ hS); omega⟩ (hB t (by omega) (by omega)) ?_
        refine ev_iinc_2 48 dX8_copyFrom_48 ⟨by omega, by omega⟩ rfl rfl ?_
        refine ev_goto 51 18 dX8_copyFrom_51 rfl ?_
        refine ih _ _ (by omega) (by omega) ((hf.up (by omega) (by omega)).up (by omega) (by omega)) (by simp (disch := omega) only [upI_s, upI_a, upI_k]; exact g0) (by simp (disch := omega) only [upI_s, upI_a, upI_k]; exact g1) (fun j a b => ?_)
        by_cases e : j = t
        · subst e; simp (disch := omega) only [upI_s, upI_a, upI_k]; exact ⟨trivial, trivial⟩
        · simp (disch := omega) only [upI_s, upI_a, upI_k]; exact g2 j a (by omega)
  refine ev_aload_0 0 dX8_copyFrom_0 ?_
  refine ev_aload_1 1 dX8_copyFrom_1 ?_
  refine ev_gI 2 0 0 dX8_copyFrom_2 fa_X8_9 (kdS_0 hZ hF) rfl rfl rfl ?_
  refine ev_pI 5 0 0 dX8_copyFrom_5 fp_X8_9 (kdS_0 hZ hS) rfl rfl ?_
  refine ev_aload_0 8 dX8_copyFrom_8 ?_
  refine ev_aload_1 9 dX8_copyFrom_9 ?_
  refine ev_gI 10 1 1 dX8_copyFrom_10 fa_X8_15 (kdS_0 hZ hF) rfl rfl rfl ?_
  try simp (disch := omega) only [upI_s, upI_a, upI_k]
  refine ev_pI 13 1 1 dX8_copyFrom_13 fp_X8_15 (kdS_0 hZ hS) rfl rfl ?_
  refine ev_iconst 16 dX8_copyFrom_16 ⟨by decide, by decide⟩ ?_
  refine ev_istore_2 17 dX8_copyFrom_17 rfl rfl ?_
  exact l1 6 0 _ (by omega) (by omega) ((Fr.rf.up (by omega) (by omega)).up (by omega) (by omega)) (by simp (disch := omega) only [upI_s, upI_a, upI_k]) (by simp (disch := omega) only [upI_s, upI_a, upI_k]) all_0
theorem c_hangT {l : Launch} {g : Gt} {d : Nat} {Z : Zt} {I : It} {P : Pt'} (hZ : LayC Z) (hP : LayP P) (h : 0 ≤ I 18 1 ∧ I 18 1 ≤ 7) {t : Int} (ht : 0 ≤ t ∧ t < 6) (x : Int) : Mt l g mX8_hangTown d 0 0 [vA 18, vI t, vI x] Z I P (QV (fun I' => I' 19 t = x ∧ (∀ j, j ≠ t → I' 19 j = I 19 j) ∧ (∀ j, 0 ≤ j → j < I 18 1 → I' 22 j = if I 24 j = t then x else I 22 j) ∧ (∀ a, a ≠ 19 → a ≠ 22 → I' a = I a)) Z P) := by
  refine Mt.of kmX8_hangTown (ls := [vA 18, vI t, vI x, vX]) (fun _ => rfl) (fun _ => rfl) (okf_k (okf_k (okf_k (okf_n rfl)))) (fun hok => ?_)
  have l1 : ∀ (k : Nat) (u : Int) (I1 : It), 0 ≤ u → u + k = I 18 1 → I1 19 t = x → (∀ j, j ≠ t → I1 19 j = I 19 j) → (∀ j, 0 ≤ j → j < u → I1 22 j = if I 24 j = t then x else I 22 j) → (∀ j, u ≤ j → I1 22 j = I 22 j) → (∀ a, a ≠ 19 → a ≠ 22 → I1 a = I a) →
      Ev l g mX8_hangTown d 0 0 Z I1 P 9 [vA 18, vI t, vI x, vI u] [] (QV (fun I' => I' 19 t = x ∧ (∀ j, j ≠ t → I' 19 j = I 19 j) ∧ (∀ j, 0 ≤ j → j < I 18 1 → I' 22 j = if I 24 j = t then x else I 22 j) ∧ (∀ a, a ≠ 19 → a ≠ 22 → I' a = I a)) Z P) := by
    intro k
    induction k with
    | zero =>
      intro u I1 h0 h1 g1 g2 g3 g4 g5
      have e1 : I1 18 = I 18 := g5 _ (by omega) (by omega)
      obtain rfl : u = I 18 1 := by omega
      refine ev_iload_3 9 dX8_hangTown_9 ?_
      refine ev_aload_0 10 dX8_hangTown_10 ?_
      refine ev_gI 11 1 1 dX8_hangTown_11 fa_X8_15 (kd_18 hZ) rfl rfl rfl ?_
      try simp only [e1]
      refine ev_icmp_ge 14 40 dX8_hangTown_14 rfl (fun h14 => ?_) (fun h14 => ?_)
      · refine ev_vret 40 dX8_hangTown_40 ?_ rfl
        exact QV_of ⟨g1, g2, g3, g5⟩
      · exfalso; omega
    | succ k ih =>
      intro u I1 h0 h1 g1 g2 g3 g4 g5
      have e1 : I1 18 = I 18 := g5 _ (by omega) (by omega)
      have e2 : I1 24 = I 24 := g5 _ (by omega) (by omega)
      refine ev_iload_3 9 dX8_hangTown_9 ?_
      refine ev_aload_0 10 dX8_hangTown_10 ?_
      refine ev_gI 11 1 1 dX8_hangTown_11 fa_X8_15 (kd_18 hZ) rfl rfl rfl ?_
      try simp only [e1, e2]
      refine ev_icmp_ge 14 40 dX8_hangTown_14 rfl (fun h14 => ?_) (fun h14 => ?_)
      · exfalso; omega
      · refine ev_aload_0 17 dX8_hangTown_17 ?_
        refine ev_getA 18 7 dX8_hangTown_18 fa_X8_35 (kd_18 hZ) (pr_18_7 hP) rfl ?_
        refine ev_iload_3 21 dX8_hangTown_21 ?_
        refine ev_iald 22 dX8_hangTown_22 (kd_24 hZ) ⟨by omega, by have := (ln_24 hZ); omega⟩ ?_
        try simp only [e1, e2]
        refine ev_iload_1 23 dX8_hangTown_23 ?_
        refine ev_jne 24 34 dX8_hangTown_24 rfl (fun h24 => ?_) (fun h24 => ?_)
        · refine ev_iinc_3 34 dX8_hangTown_34 ⟨by omega, by omega⟩ rfl rfl ?_
          refine ev_goto 37 9 dX8_hangTown_37 rfl ?_
          first
            | exact ih _ _ (by omega) (by omega) g1 g2 (all_s g3 (by rw [if_neg h24]; exact g4 u (by omega))) (fun j a => g4 j (by omega)) g5
            | (refine ih _ _ (by omega) (by omega) (by rw [upI_a (by omega)]; exact g1) (fun j a => by rw [upI_a (by omega)]; exact g2 j a) (all_s (fun j a b => by rw [upI_k (by omega)]; exact g3 j a b) (by rw [upI_s, if_pos h24])) (fun j a => by rw [upI_k (by omega)]; exact g4 j (by omega)) (fun a ha hb => by rw [upI_A hb]; exact g5 a ha hb))
        · refine ev_aload_0 27 dX8_hangTown_27 ?_
          refine ev_getA 28 5 dX8_hangTown_28 fa_X8_29 (kd_18 hZ) (pr_18_5 hP) rfl ?_
          refine ev_iload_3 31 dX8_hangTown_31 ?_
          refine ev_iload_2 32 dX8_hangTown_32 ?_
          refine ev_iast 33 dX8_hangTown_33 (kd_22 hZ) ⟨by omega, by have := (ln_22 hZ); omega⟩ ?_
          refine ev_iinc_3 34 dX8_hangTown_34 ⟨by omega, by omega⟩ rfl rfl ?_
          refine ev_goto 37 9 dX8_hangTown_37 rfl ?_
          first
            | exact ih _ _ (by omega) (by omega) g1 g2 (all_s g3 (by rw [if_neg h24]; exact g4 u (by omega))) (fun j a => g4 j (by omega)) g5
            | (refine ih _ _ (by omega) (by omega) (by rw [upI_a (by omega)]; exact g1) (fun j a => by rw [upI_a (by omega)]; exact g2 j a) (all_s (fun j a b => by rw [upI_k (by omega)]; exact g3 j a b) (by rw [upI_s, if_pos h24])) (fun j a => by rw [upI_k (by omega)]; exact g4 j (by omega)) (fun a ha hb => by rw [upI_A hb]; exact g5 a ha hb))
  refine ev_aload_0 0 dX8_hangTown_0 ?_
  refine ev_getA 1 2 dX8_hangTown_1 fa_X8_18 (kd_18 hZ) (pr_18_2 hP) rfl ?_
  refine ev_iload_1 4 dX8_hangTown_4 ?_
  refine ev_iload_2 5 dX8_hangTown_5 ?_
  refine ev_iast 6 dX8_hangTown_6 (kd_19 hZ) ⟨by omega, by have := (ln_19 hZ); omega⟩ ?_
  refine ev_iconst 7 dX8_hangTown_7 ⟨by decide, by decide⟩ ?_
  refine ev_istore_3 8 dX8_hangTown_8 rfl rfl ?_
  exact l1 (I 18 1).toNat 0 _ (by omega) (by omega) (upI_s _ _ _ _) (fun j a => upI_k a) all_0 (fun j a => by rw [upI_a (by omega)]) (fun a ha hb => upI_A ha)
theorem c_cutT {l : Launch} {g : Gt} {d : Nat} {Z : Zt} {I : It} {P : Pt'} (hZ : LayC Z) (hP : LayP P) (h : 0 ≤ I 18 1 ∧ I 18 1 ≤ 7) {t : Int} (ht : 0 ≤ t ∧ t < 6) : Mt l g mX8_cutTown d 0 0 [vA 18, vI t] Z I P (QV (fun I' => I' 20 t = 1 ∧ (∀ j, j ≠ t → I' 20 j = I 20 j) ∧ (∀ j, 0 ≤ j → j < I 18 1 → I' 24 j = if I 24 j = t then -4 else I 24 j) ∧ (∀ a, a ≠ 20 → a ≠ 24 → I' a = I a)) Z P) := by
  refine Mt.of kmX8_cutTown (ls := [vA 18, vI t, vX]) (fun _ => rfl) (fun _ => rfl) (okf_k (okf_k (okf_n rfl))) (fun hok => ?_)
  have l1 : ∀ (k : Nat) (u : Int) (I1 : It), 0 ≤ u → u + k = I 18 1 → I1 20 t = 1 → (∀ j, j ≠ t → I1 20 j = I 20 j) → (∀ j, 0 ≤ j → j < u → I1 24 j = if I 24 j = t then -4 else I 24 j) → (∀ j, u ≤ j → I1 24 j = I 24 j) → (∀ a, a ≠ 20 → a ≠ 24 → I1 a = I a) →
      Ev l g mX8_cutTown d 0 0 Z I1 P 9 [vA 18, vI t, vI u] [] (QV (fun I' => I' 20 t = 1 ∧ (∀ j, j ≠ t → I' 20 j = I 20 j) ∧ (∀ j, 0 ≤ j → j < I 18 1 → I' 24 j = if I 24 j = t then -4 else I 24 j) ∧ (∀ a, a ≠ 20 → a ≠ 24 → I' a = I a)) Z P) := by
    intro k
    induction k with
    | zero =>
      intro u I1 h0 h1 g1 g2 g3 g4 g5
      have e1 : I1 18 = I 18 := g5 _ (by omega) (by omega)
      obtain rfl : u = I 18 1 := by omega
      refine ev_iload_2 9 dX8_cutTown_9 ?_
      refine ev_aload_0 10 dX8_cutTown_10 ?_
      refine ev_gI 11 1 1 dX8_cutTown_11 fa_X8_15 (kd_18 hZ) rfl rfl rfl ?_
      try simp only [e1]
      refine ev_icmp_ge 14 41 dX8_cutTown_14 rfl (fun h14 => ?_) (fun h14 => ?_)
      · refine ev_vret 41 dX8_cutTown_41 ?_ rfl
        exact QV_of ⟨g1, g2, g3, g5⟩
      · exfalso; omega
    | succ k ih =>
      intro u I1 h0 h1 g1 g2 g3 g4 g5
      have e1 : I1 18 = I 18 := g5 _ (by omega) (by omega)
      have e2 : I1 24 u = I 24 u := g4 u (by omega)
      refine ev_iload_2 9 dX8_cutTown_9 ?_
      refine ev_aload_0 10 dX8_cutTown_10 ?_
      refine ev_gI 11 1 1 dX8_cutTown_11 fa_X8_15 (kd_18 hZ) rfl rfl rfl ?_
      try simp only [e1, e2]
      refine ev_icmp_ge 14 41 dX8_cutTown_14 rfl (fun h14 => ?_) (fun h14 => ?_)
      · exfalso; omega
      · refine ev_aload_0 17 dX8_cutTown_17 ?_
        refine ev_getA 18 7 dX8_cutTown_18 fa_X8_35 (kd_18 hZ) (pr_18_7 hP) rfl ?_
        refine ev_iload_2 21 dX8_cutTown_21 ?_
        refine ev_iald 22 dX8_cutTown_22 (kd_24 hZ) ⟨by omega, by have := (ln_24 hZ); omega⟩ ?_
        try simp only [e1, e2]
        refine ev_iload_1 23 dX8_cutTown_23 ?_
        refine ev_jne 24 35 dX8_cutTown_24 rfl (fun h24 => ?_) (fun h24 => ?_)
        · refine ev_iinc_2 35 dX8_cutTown_35 ⟨by omega, by omega⟩ rfl rfl ?_
          refine ev_goto 38 9 dX8_cutTown_38 rfl ?_
          first
            | exact ih _ _ (by omega) (by omega) g1 g2 (all_s g3 (by rw [if_neg h24]; exact g4 u (by omega))) (fun j a => g4 j (by omega)) g5
            | (refine ih _ _ (by omega) (by omega) (by rw [upI_a (by omega)]; exact g1) (fun j a => by rw [upI_a (by omega)]; exact g2 j a) (all_s (fun j a b => by rw [upI_k (by omega)]; exact g3 j a b) (by rw [upI_s, if_pos h24])) (fun j a => by rw [upI_k (by omega)]; exact g4 j (by omega)) (fun a ha hb => by rw [upI_A hb]; exact g5 a ha hb))
        · refine ev_aload_0 27 dX8_cutTown_27 ?_
          refine ev_getA 28 7 dX8_cutTown_28 fa_X8_35 (kd_18 hZ) (pr_18_7 hP) rfl ?_
          refine ev_iload_2 31 dX8_cutTown_31 ?_
          refine ev_bipush 32 dX8_cutTown_32 ⟨by decide, by decide⟩ ?_
          refine ev_iast 34 dX8_cutTown_34 (kd_24 hZ) ⟨by omega, by have := (ln_24 hZ); omega⟩ ?_
          refine ev_iinc_2 35 dX8_cutTown_35 ⟨by omega, by omega⟩ rfl rfl ?_
          refine ev_goto 38 9 dX8_cutTown_38 rfl ?_
          first
            | exact ih _ _ (by omega) (by omega) g1 g2 (all_s g3 (by rw [if_neg h24]; exact g4 u (by omega))) (fun j a => g4 j (by omega)) g5
            | (refine ih _ _ (by omega) (by omega) (by rw [upI_a (by omega)]; exact g1) (fun j a => by rw [upI_a (by omega)]; exact g2 j a) (all_s (fun j a b => by rw [upI_k (by omega)]; exact g3 j a b) (by rw [upI_s, if_pos h24])) (fun j a => by rw [upI_k (by omega)]; exact g4 j (by omega)) (fun a ha hb => by rw [upI_A hb]; exact g5 a ha hb))
  refine ev_aload_0 0 dX8_cutTown_0 ?_
  refine ev_getA 1 3 dX8_cutTown_1 fa_X8_22 (kd_18 hZ) (pr_18_3 hP) rfl ?_
  refine ev_iload_1 4 dX8_cutTown_4 ?_
  refine ev_iconst 5 dX8_cutTown_5 ⟨by decide, by decide⟩ ?_
  refine ev_zast 6 dX8_cutTown_6 (kd_20 hZ) ⟨by omega, by have := (ln_20 hZ); omega⟩ (by omega) ?_
  refine ev_iconst 7 dX8_cutTown_7 ⟨by decide, by decide⟩ ?_
  refine ev_istore_2 8 dX8_cutTown_8 rfl rfl ?_
  exact l1 (I 18 1).toNat 0 _ (by omega) (by omega) (upI_s _ _ _ _) (fun j a => upI_k a) all_0 (fun j a => by rw [upI_a (by omega)]) (fun a ha hb => upI_A ha)
theorem c_put {l : Launch} {g : Gt} {d : Nat} {Z : Zt} {I : It} {P : Pt'} (hZ : LayC Z) {D : Nat} (hD : IsD D) (a b c : Int) : Mt l g mX0_put d 0 0 [vA D, vI a, vI b, vI c] Z I P (QV (fun I' => dq D I' = (a, b, c, -4) ∧ OD D I I') Z P) := by
  have hd : D = 99 ∨ D = 100 := hD
  refine Mt.of kmX0_put (ls := [vA D, vI a, vI b, vI c]) (fun _ => rfl) (fun _ => rfl) (okf_k (okf_k (okf_k (okf_k (okf_n rfl))))) (fun hok => ?_)
  refine ev_aload_0 0 dX0_put_0 ?_
  refine ev_iload_1 1 dX0_put_1 ?_
  refine ev_pI 2 1 1 dX0_put_2 fp_X0_9 (kdD_0 hZ hD) rfl rfl ?_
  refine ev_aload_0 5 dX0_put_5 ?_
  refine ev_iload_2 6 dX0_put_6 ?_
  refine ev_pI 7 2 2 dX0_put_7 fp_X0_15 (kdD_0 hZ hD) rfl rfl ?_
  refine ev_aload_0 10 dX0_put_10 ?_
  refine ev_iload_3 11 dX0_put_11 ?_
  refine ev_pI 12 3 3 dX0_put_12 fp_X0_18 (kdD_0 hZ hD) rfl rfl ?_
  refine ev_aload_0 15 dX0_put_15 ?_
  refine ev_bipush 16 dX0_put_16 ⟨by decide, by decide⟩ ?_
  refine ev_pI 18 4 4 dX0_put_18 fp_X0_21 (kdD_0 hZ hD) rfl rfl ?_
  refine ev_vret 21 dX0_put_21 ?_ rfl
  exact QV_of ⟨by unfold dq; simp (disch := omega) only [upI_s, upI_k], OD.rf.up.up.up.up⟩
theorem c_take {l : Launch} {g : Gt} {d : Nat} {Z : Zt} {I : It} {P : Pt'} (hZ : LayC Z) (hP : LayP P) {D : Nat} (hD : IsD D) {j : Int} (hj : 0 ≤ j ∧ j < 7) : Mt l g mX0_take (d + 1) 0 0 [vA D, vI j] Z I P (QV (fun I' => dq D I' = (I 21 j, I 22 j, I 23 j, I 24 j) ∧ OD D I I') Z P) := by
  have hd : D = 99 ∨ D = 100 := hD
  refine Mt.of kmX0_take (ls := [vA D, vI j]) (fun _ => rfl) (fun _ => rfl) (okf_k (okf_k (okf_n rfl))) (fun hok => ?_)
  refine ev_aload_0 0 dX0_take_0 ?_
  refine ev_aload_0 1 dX0_take_1 ?_
  refine ev_getA 2 0 dX0_take_2 fa_X0_24 (kdD_0 hZ hD) (prD_0 hP hD) rfl ?_
  refine ev_getA 5 1 dX0_take_5 fa_X0_28 (kd_4 hZ) (pr_4_1 hP) rfl ?_
  refine ev_getA 8 4 dX0_take_8 fa_X0_34 (kd_18 hZ) (pr_18_4 hP) rfl ?_
  refine ev_iload_1 11 dX0_take_11 ?_
  refine ev_iald 12 dX0_take_12 (kd_21 hZ) ⟨by omega, by have := (ln_21 hZ); omega⟩ ?_
  refine ev_aload_0 13 dX0_take_13 ?_
  refine ev_getA 14 0 dX0_take_14 fa_X0_24 (kdD_0 hZ hD) (prD_0 hP hD) rfl ?_
  refine ev_getA 17 1 dX0_take_17 fa_X0_28 (kd_4 hZ) (pr_4_1 hP) rfl ?_
  refine ev_getA 20 5 dX0_take_20 fa_X0_40 (kd_18 hZ) (pr_18_5 hP) rfl ?_
  refine ev_iload_1 23 dX0_take_23 ?_
  refine ev_iald 24 dX0_take_24 (kd_22 hZ) ⟨by omega, by have := (ln_22 hZ); omega⟩ ?_
  refine ev_aload_0 25 dX0_take_25 ?_
  refine ev_getA 26 0 dX0_take_26 fa_X0_24 (kdD_0 hZ hD) (prD_0 hP hD) rfl ?_
  refine ev_getA 29 1 dX0_take_29 fa_X0_28 (kd_4 hZ) (pr_4_1 hP) rfl ?_
  refine ev_getA 32 6 dX0_take_32 fa_X0_43 (kd_18 hZ) (pr_18_6 hP) rfl ?_
  refine ev_iload_1 35 dX0_take_35 ?_
  refine ev_iald 36 dX0_take_36 (kd_23 hZ) ⟨by omega, by have := (ln_23 hZ); omega⟩ ?_
  refine ev_cVv_3 37 dX0_take_37 kmX0_put lk_X0_46 (kdD_0 hZ hD) (c_put hZ hD _ _ _) rfl rfl (fun I37 f37 => ?_)
  obtain ⟨q1, q2⟩ := f37
  have e1 : I37 24 = I 24 := q2 _ (by omega)
  refine ev_aload_0 40 dX0_take_40 ?_
  refine ev_aload_0 41 dX0_take_41 ?_
  refine ev_getA 42 0 dX0_take_42 fa_X0_24 (kdD_0 hZ hD) (prD_0 hP hD) rfl ?_
  refine ev_getA 45 1 dX0_take_45 fa_X0_28 (kd_4 hZ) (pr_4_1 hP) rfl ?_
  refine ev_getA 48 7 dX0_take_48 fa_X0_50 (kd_18 hZ) (pr_18_7 hP) rfl ?_
  refine ev_iload_1 51 dX0_take_51 ?_
  refine ev_iald 52 dX0_take_52 (kd_24 hZ) ⟨by omega, by have := (ln_24 hZ); omega⟩ ?_
  simp only [e1]
  refine ev_pI 53 4 4 dX0_take_53 fp_X0_21 (kdD_0 hZ hD) rfl rfl ?_
  refine ev_vret 56 dX0_take_56 ?_ rfl
  exact QV_of ⟨by
    unfold dq at q1 ⊢
    simp only [Prod.mk.injEq] at q1 ⊢
    simp (disch := omega) only [upI_s, upI_k]
    exact ⟨q1.1, q1.2.1, q1.2.2.1, trivial⟩, q2.up⟩
theorem c_give {l : Launch} {g : Gt} {d : Nat} {Z : Zt} {I : It} {P : Pt'} (hZ : LayC Z) (hP : LayP P) {D : Nat} (hD : IsD D) {j : Int} (hj : 0 ≤ j ∧ j < 7) : Mt l g mX0_give d 0 0 [vA D, vI j] Z I P (QV (fun I' => I' = upI (upI (upI I 21 j (I D 1)) 22 j (I D 2)) 24 j (I D 4)) Z P) := by
  have hd : D = 99 ∨ D = 100 := hD
  refine Mt.of kmX0_give (ls := [vA D, vI j]) (fun _ => rfl) (fun _ => rfl) (okf_k (okf_k (okf_n rfl))) (fun hok => ?_)
  refine ev_aload_0 0 dX0_give_0 ?_
  refine ev_getA 1 0 dX0_give_1 fa_X0_24 (kdD_0 hZ hD) (prD_0 hP hD) rfl ?_
  refine ev_getA 4 1 dX0_give_4 fa_X0_28 (kd_4 hZ) (pr_4_1 hP) rfl ?_
  refine ev_getA 7 4 dX0_give_7 fa_X0_34 (kd_18 hZ) (pr_18_4 hP) rfl ?_
  refine ev_iload_1 10 dX0_give_10 ?_
  refine ev_aload_0 11 dX0_give_11 ?_
  refine ev_gI 12 1 1 dX0_give_12 fa_X0_9 (kdD_0 hZ hD) rfl rfl rfl ?_
  refine ev_iast 15 dX0_give_15 (kd_21 hZ) ⟨by omega, by have := (ln_21 hZ); omega⟩ ?_
  refine ev_aload_0 16 dX0_give_16 ?_
  refine ev_getA 17 0 dX0_give_17 fa_X0_24 (kdD_0 hZ hD) (prD_0 hP hD) rfl ?_
  refine ev_getA 20 1 dX0_give_20 fa_X0_28 (kd_4 hZ) (pr_4_1 hP) rfl ?_
  refine ev_getA 23 5 dX0_give_23 fa_X0_40 (kd_18 hZ) (pr_18_5 hP) rfl ?_
  refine ev_iload_1 26 dX0_give_26 ?_
  refine ev_aload_0 27 dX0_give_27 ?_
  refine ev_gI 28 2 2 dX0_give_28 fa_X0_15 (kdD_0 hZ hD) rfl rfl rfl ?_
  try simp (disch := omega) only [upI_s, upI_a, upI_k]
  refine ev_iast 31 dX0_give_31 (kd_22 hZ) ⟨by omega, by have := (ln_22 hZ); omega⟩ ?_
  refine ev_aload_0 32 dX0_give_32 ?_
  refine ev_getA 33 0 dX0_give_33 fa_X0_24 (kdD_0 hZ hD) (prD_0 hP hD) rfl ?_
  refine ev_getA 36 1 dX0_give_36 fa_X0_28 (kd_4 hZ) (pr_4_1 hP) rfl ?_
  refine ev_getA 39 7 dX0_give_39 fa_X0_50 (kd_18 hZ) (pr_18_7 hP) rfl ?_
  refine ev_iload_1 42 dX0_give_42 ?_
  refine ev_aload_0 43 dX0_give_43 ?_
  refine ev_gI 44 4 4 dX0_give_44 fa_X0_21 (kdD_0 hZ hD) rfl rfl rfl ?_
  try simp (disch := omega) only [upI_s, upI_a, upI_k]
  refine ev_iast 47 dX0_give_47 (kd_24 hZ) ⟨by omega, by have := (ln_24 hZ); omega⟩ ?_
  refine ev_vret 48 dX0_give_48 ?_ rfl
  exact QV_of rfl
theorem c_isWhere {l : Launch} {g : Gt} {d : Nat} {Z : Zt} {I : It} {P : Pt'} (hZ : LayC Z) {D : Nat} (hD : IsD D) (a b : Int) : Mt l g mX0_isWhere d 0 0 [vA D, vI a, vI b] Z I P (QP (b2 (I D 1 = a ∧ I D 2 = b)) Z I P) := by
  have hd : D = 99 ∨ D = 100 := hD
  refine Mt.of kmX0_isWhere (ls := [vA D, vI a, vI b]) (fun _ => rfl) (fun _ => rfl) (okf_k (okf_k (okf_k (okf_n rfl)))) (fun hok => ?_)
  refine ev_aload_0 0 dX0_isWhere_0 ?_
  refine ev_gI 1 1 1 dX0_isWhere_1 fa_X0_9 (kdD_0 hZ hD) rfl rfl rfl ?_
  refine ev_iload_1 4 dX0_isWhere_4 ?_
  refine ev_jne 5 20 dX0_isWhere_5 rfl (fun h5 => ?_) (fun h5 => ?_)
  · refine ev_iconst 20 dX0_isWhere_20 ⟨by decide, by decide⟩ ?_
    refine ev_zret 21 dX0_isWhere_21 (by first | omega | exact b2_or _) ?_ rfl
    first | exact QP_of (b2_t (by omega)).symm | exact QP_of (b2_f (by omega)).symm
  · refine ev_aload_0 8 dX0_isWhere_8 ?_
    refine ev_gI 9 2 2 dX0_isWhere_9 fa_X0_15 (kdD_0 hZ hD) rfl rfl rfl ?_
    refine ev_iload_2 12 dX0_isWhere_12 ?_
    refine ev_jne 13 20 dX0_isWhere_13 rfl (fun h13 => ?_) (fun h13 => ?_)
    · refine ev_iconst 20 dX0_isWhere_20 ⟨by decide, by decide⟩ ?_
      refine ev_zret 21 dX0_isWhere_21 (by first | omega | exact b2_or _) ?_ rfl
      first | exact QP_of (b2_t (by omega)).symm | exact QP_of (b2_f (by omega)).symm
    · refine ev_iconst 16 dX0_isWhere_16 ⟨by decide, by decide⟩ ?_
      refine ev_goto 17 21 dX0_isWhere_17 rfl ?_
      refine ev_zret 21 dX0_isWhere_21 (by first | omega | exact b2_or _) ?_ rfl
      first | exact QP_of (b2_t (by omega)).symm | exact QP_of (b2_f (by omega)).symm
theorem c_flow {l : Launch} {g : Gt} {d : Nat} {Z : Zt} {I : It} {P : Pt'} (hZ : LayC Z) (hP : LayP P) {T : Nat} (hT0 : P 4 0 = some T) (hT : IsT T) {D : Nat} (hD : IsD D) {α : Nat → Int → Int} (hA : VT T I α) (hW : WF α) (hi : inD α (dq D I)) : Mt l g mX0_flow (d + 3) 0 0 [vA D] Z I P (QV (fun I' => dq D I' = (fL α (I D 1) (I D 3), fX α (I D 1) (I D 2), I D 3, I D 4) ∧ OD D I I') Z P) := by
  have hd : D = 99 ∨ D = 100 := hD
  have ht : T = 5 ∨ T = 118 := hT
  have a0 := hA.at 0
  have a1 := hA.at 1
  have a5 := hA.at 5
  have e1 : I (T + 1) = α 1 := hA 1 (by omega)
  have e2 : I (T + 2) = α 2 := hA 2 (by omega)
  have w0 := hW.1
  have w1 := hW.2.1
  obtain ⟨i1, i2, i3⟩ := id hi
  dsimp only [dq] at i1 i2 i3
  have wl := hW.2.2.2.2.2.1 (I D 1) i1.1 i1.2
  refine Mt.of kmX0_flow (ls := [vA D, vX]) (fun _ => rfl) (fun _ => rfl) (okf_k (okf_n rfl)) (fun hok => ?_)
  refine ev_aload_0 0 dX0_flow_0 ?_
  refine ev_getA 1 0 dX0_flow_1 fa_X0_24 (kdD_0 hZ hD) (prD_0 hP hD) rfl ?_
  refine ev_aload_0 4 dX0_flow_4 ?_
  refine ev_gI 5 1 1 dX0_flow_5 fa_X0_9 (kdD_0 hZ hD) rfl rfl rfl ?_
  try simp only [e1, e2]
  refine ev_cVp_1 8 dX0_flow_8 kmX6_isLevel lk_X0_53 (kd_4 hZ) (c_isLevel hZ hP hT0 hT _) rfl rfl ?_
  try simp only [e1, e2]
  refine ev_ifb_ne 11 15 dX0_flow_11 rfl (fun h11 => ?_) (fun h11 => ?_)
  · refine ev_aload_0 15 dX0_flow_15 ?_
    refine ev_getA 16 0 dX0_flow_16 fa_X0_24 (kdD_0 hZ hD) (prD_0 hP hD) rfl ?_
    refine ev_getA 19 0 dX0_flow_19 fa_X0_57 (kd_4 hZ) hT0 rfl ?_
    refine ev_getA 22 3 dX0_flow_22 fa_X0_61 (kdT_0 hZ hT) (prT_3 hP hT) rfl ?_
    refine ev_aload_0 25 dX0_flow_25 ?_
    refine ev_gI 26 1 1 dX0_flow_26 fa_X0_9 (kdD_0 hZ hD) rfl rfl rfl ?_
    try simp only [e1, e2]
    refine ev_iald 29 dX0_flow_29 (kdT_2 hZ hT) ⟨by omega, by have := (lnT_2 hZ hT); omega⟩ ?_
    try simp only [e1, e2]
    refine ev_istore_1 30 dX0_flow_30 rfl rfl ?_
    refine ev_aload_0 31 dX0_flow_31 ?_
    refine ev_aload_0 32 dX0_flow_32 ?_
    refine ev_getA 33 0 dX0_flow_33 fa_X0_24 (kdD_0 hZ hD) (prD_0 hP hD) rfl ?_
    refine ev_getA 36 0 dX0_flow_36 fa_X0_57 (kd_4 hZ) hT0 rfl ?_
    refine ev_aload_0 39 dX0_flow_39 ?_
    refine ev_gI 40 2 2 dX0_flow_40 fa_X0_15 (kdD_0 hZ hD) rfl rfl rfl ?_
    try simp only [e1, e2]
    refine ev_aload_0 43 dX0_flow_43 ?_
    refine ev_getA 44 0 dX0_flow_44 fa_X0_24 (kdD_0 hZ hD) (prD_0 hP hD) rfl ?_
    refine ev_getA 47 0 dX0_flow_47 fa_X0_57 (kd_4 hZ) hT0 rfl ?_
    refine ev_getA 50 2 dX0_flow_50 fa_X0_66 (kdT_0 hZ hT) (prT_2 hP hT) rfl ?_
    refine ev_aload_0 53 dX0_flow_53 ?_
    refine ev_gI 54 1 1 dX0_flow_54 fa_X0_9 (kdD_0 hZ hD) rfl rfl rfl ?_
    try simp only [e1, e2]
    refine ev_iald 57 dX0_flow_57 (kdT_1 hZ hT) ⟨by omega, by have := (lnT_1 hZ hT); omega⟩ ?_
    try simp only [e1, e2]
    refine ev_iadd 58 dX0_flow_58 ⟨by omega, by omega⟩ ?_
    refine ev_iconst 59 dX0_flow_59 ⟨by decide, by decide⟩ ?_
    refine ev_isub 60 dX0_flow_60 ⟨by omega, by omega⟩ ?_
    refine ev_cVp_1 61 dX0_flow_61 kmX10_wrap lk_X0_69 (kdT_0 hZ hT) (c_wrap hZ hT _ (by omega)) rfl rfl ?_
    try simp only [e1, e2]
    refine ev_pI 64 2 2 dX0_flow_64 fp_X0_15 (kdD_0 hZ hD) rfl rfl ?_
    refine ev_aload_0 67 dX0_flow_67 ?_
    refine ev_gI 68 3 3 dX0_flow_68 fa_X0_18 (kdD_0 hZ hD) rfl rfl rfl ?_
    try simp (disch := omega) only [upI_s, upI_a, upI_k]
    try simp only [e1, e2]
    refine ev_iload_1 71 dX0_flow_71 ?_
    refine ev_icmp_le 72 104 dX0_flow_72 rfl (fun h72 => ?_) (fun h72 => ?_)
    · refine ev_aload_0 104 dX0_flow_104 ?_
      refine ev_gI 105 3 3 dX0_flow_105 fa_X0_18 (kdD_0 hZ hD) rfl rfl rfl ?_
      try simp (disch := omega) only [upI_s, upI_a, upI_k]
      try simp only [e1, e2]
      refine ev_iload_1 108 dX0_flow_108 ?_
      refine ev_icmp_ge 109 129 dX0_flow_109 rfl (fun h109 => ?_) (fun h109 => ?_)
      · refine ev_vret 129 dX0_flow_129 ?_ rfl
        refine QV_of ⟨?_, by first | exact OD.rf.up.up | exact OD.rf.up⟩
        have eX : fX α (I D 1) (I D 2) = (I D 2 + α 1 (I D 1) - 3) % I T 0 := by unfold fX; rw [a0]
        rw [eX]
        first
          | (rw [show fL α (I D 1) (I D 3) = I D 1 + 1 from if_pos (by omega)]; unfold dq; simp (disch := omega) only [upI_s, upI_k]; done)
          | (rw [show fL α (I D 1) (I D 3) = I D 1 - 1 by unfold fL; rw [if_neg (by omega), if_pos (by omega)]]; unfold dq; simp (disch := omega) only [upI_s, upI_k]; done)
          | (rw [show fL α (I D 1) (I D 3) = I D 1 by unfold fL; rw [if_neg (by omega), if_neg (by omega)]]; unfold dq; simp (disch := omega) only [upI_s, upI_k]; done)
      · refine ev_aload_0 112 dX0_flow_112 ?_
        refine ev_gI 113 1 1 dX0_flow_113 fa_X0_9 (kdD_0 hZ hD) rfl rfl rfl ?_
        try simp (disch := omega) only [upI_s, upI_a, upI_k]
        try simp only [e1, e2]
        refine ev_if_le 116 129 dX0_flow_116 rfl (fun h116 => ?_) (fun h116 => ?_)
        · refine ev_vret 129 dX0_flow_129 ?_ rfl
          refine QV_of ⟨?_, by first | exact OD.rf.up.up | exact OD.rf.up⟩
          have eX : fX α (I D 1) (I D 2) = (I D 2 + α 1 (I D 1) - 3) % I T 0 := by unfold fX; rw [a0]
          rw [eX]
          first
            | (rw [show fL α (I D 1) (I D 3) = I D 1 + 1 from if_pos (by omega)]; unfold dq; simp (disch := omega) only [upI_s, upI_k]; done)
            | (rw [show fL α (I D 1) (I D 3) = I D 1 - 1 by unfold fL; rw [if_neg (by omega), if_pos (by omega)]]; unfold dq; simp (disch := omega) only [upI_s, upI_k]; done)
            | (rw [show fL α (I D 1) (I D 3) = I D 1 by unfold fL; rw [if_neg (by omega), if_neg (by omega)]]; unfold dq; simp (disch := omega) only [upI_s, upI_k]; done)
        · refine ev_aload_0 119 dX0_flow_119 ?_
          refine ev_dupA 120 dX0_flow_120 ?_
          refine ev_gI 121 1 1 dX0_flow_121 fa_X0_9 (kdD_0 hZ hD) rfl rfl rfl ?_
          try simp (disch := omega) only [upI_s, upI_a, upI_k]
          try simp only [e1, e2]
          refine ev_iconst 124 dX0_flow_124 ⟨by decide, by decide⟩ ?_
          refine ev_isub 125 dX0_flow_125 ⟨by omega, by omega⟩ ?_
          refine ev_pI 126 1 1 dX0_flow_126 fp_X0_9 (kdD_0 hZ hD) rfl rfl ?_
          refine ev_vret 129 dX0_flow_129 ?_ rfl
          refine QV_of ⟨?_, by first | exact OD.rf.up.up | exact OD.rf.up⟩
          have eX : fX α (I D 1) (I D 2) = (I D 2 + α 1 (I D 1) - 3) % I T 0 := by unfold fX; rw [a0]
          rw [eX]
          first
            | (rw [show fL α (I D 1) (I D 3) = I D 1 + 1 from if_pos (by omega)]; unfold dq; simp (disch := omega) only [upI_s, upI_k]; done)
            | (rw [show fL α (I D 1) (I D 3) = I D 1 - 1 by unfold fL; rw [if_neg (by omega), if_pos (by omega)]]; unfold dq; simp (disch := omega) only [upI_s, upI_k]; done)
            | (rw [show fL α (I D 1) (I D 3) = I D 1 by unfold fL; rw [if_neg (by omega), if_neg (by omega)]]; unfold dq; simp (disch := omega) only [upI_s, upI_k]; done)
    · refine ev_aload_0 75 dX0_flow_75 ?_
      refine ev_getA 76 0 dX0_flow_76 fa_X0_24 (kdD_0 hZ hD) (prD_0 hP hD) rfl ?_
      refine ev_aload_0 79 dX0_flow_79 ?_
      refine ev_gI 80 1 1 dX0_flow_80 fa_X0_9 (kdD_0 hZ hD) rfl rfl rfl ?_
      try simp (disch := omega) only [upI_s, upI_a, upI_k]
      try simp only [e1, e2]
      refine ev_iconst 83 dX0_flow_83 ⟨by decide, by decide⟩ ?_
      refine ev_iadd 84 dX0_flow_84 ⟨by omega, by omega⟩ ?_
      refine ev_cVp_1 85 dX0_flow_85 kmX6_isLevel lk_X0_53 (kd_4 hZ) (c_isLevel hZ hP hT0 hT _) rfl rfl ?_
      try simp (disch := omega) only [upI_s, upI_a, upI_k]
      try simp only [e1, e2]
      refine ev_ifb_eq 88 104 dX0_flow_88 rfl (fun h88 => ?_) (fun h88 => ?_)
      · refine ev_aload_0 104 dX0_flow_104 ?_
        refine ev_gI 105 3 3 dX0_flow_105 fa_X0_18 (kdD_0 hZ hD) rfl rfl rfl ?_
        try simp (disch := omega) only [upI_s, upI_a, upI_k]
        try simp only [e1, e2]
        refine ev_iload_1 108 dX0_flow_108 ?_
        refine ev_icmp_ge 109 129 dX0_flow_109 rfl (fun h109 => ?_) (fun h109 => ?_)
        · refine ev_vret 129 dX0_flow_129 ?_ rfl
          refine QV_of ⟨?_, by first | exact OD.rf.up.up | exact OD.rf.up⟩
          have eX : fX α (I D 1) (I D 2) = (I D 2 + α 1 (I D 1) - 3) % I T 0 := by unfold fX; rw [a0]
          rw [eX]
          first
            | (rw [show fL α (I D 1) (I D 3) = I D 1 + 1 from if_pos (by omega)]; unfold dq; simp (disch := omega) only [upI_s, upI_k]; done)
            | (rw [show fL α (I D 1) (I D 3) = I D 1 - 1 by unfold fL; rw [if_neg (by omega), if_pos (by omega)]]; unfold dq; simp (disch := omega) only [upI_s, upI_k]; done)
            | (rw [show fL α (I D 1) (I D 3) = I D 1 by unfold fL; rw [if_neg (by omega), if_neg (by omega)]]; unfold dq; simp (disch := omega) only [upI_s, upI_k]; done)
        · refine ev_aload_0 112 dX0_flow_112 ?_
          refine ev_gI 113 1 1 dX0_flow_113 fa_X0_9 (kdD_0 hZ hD) rfl rfl rfl ?_
          try simp (disch := omega) only [upI_s, upI_a, upI_k]
          try simp only [e1, e2]
          refine ev_if_le 116 129 dX0_flow_116 rfl (fun h116 => ?_) (fun h116 => ?_)
          · refine ev_vret 129 dX0_flow_129 ?_ rfl
            refine QV_of ⟨?_, by first | exact OD.rf.up.up | exact OD.rf.up⟩
            have eX : fX α (I D 1) (I D 2) = (I D 2 + α 1 (I D 1) - 3) % I T 0 := by unfold fX; rw [a0]
            rw [eX]
            first
              | (rw [show fL α (I D 1) (I D 3) = I D 1 + 1 from if_pos (by omega)]; unfold dq; simp (disch := omega) only [upI_s, upI_k]; done)
              | (rw [show fL α (I D 1) (I D 3) = I D 1 - 1 by unfold fL; rw [if_neg (by omega), if_pos (by omega)]]; unfold dq; simp (disch := omega) only [upI_s, upI_k]; done)
              | (rw [show fL α (I D 1) (I D 3) = I D 1 by unfold fL; rw [if_neg (by omega), if_neg (by omega)]]; unfold dq; simp (disch := omega) only [upI_s, upI_k]; done)
          · refine ev_aload_0 119 dX0_flow_119 ?_
            refine ev_dupA 120 dX0_flow_120 ?_
            refine ev_gI 121 1 1 dX0_flow_121 fa_X0_9 (kdD_0 hZ hD) rfl rfl rfl ?_
            try simp (disch := omega) only [upI_s, upI_a, upI_k]
            try simp only [e1, e2]
            refine ev_iconst 124 dX0_flow_124 ⟨by decide, by decide⟩ ?_
            refine ev_isub 125 dX0_flow_125 ⟨by omega, by omega⟩ ?_
            refine ev_pI 126 1 1 dX0_flow_126 fp_X0_9 (kdD_0 hZ hD) rfl rfl ?_
            refine ev_vret 129 dX0_flow_129 ?_ rfl
            refine QV_of ⟨?_, by first | exact OD.rf.up.up | exact OD.rf.up⟩
            have eX : fX α (I D 1) (I D 2) = (I D 2 + α 1 (I D 1) - 3) % I T 0 := by unfold fX; rw [a0]
            rw [eX]
            first
              | (rw [show fL α (I D 1) (I D 3) = I D 1 + 1 from if_pos (by omega)]; unfold dq; simp (disch := omega) only [upI_s, upI_k]; done)
              | (rw [show fL α (I D 1) (I D 3) = I D 1 - 1 by unfold fL; rw [if_neg (by omega), if_pos (by omega)]]; unfold dq; simp (disch := omega) only [upI_s, upI_k]; done)
              | (rw [show fL α (I D 1) (I D 3) = I D 1 by unfold fL; rw [if_neg (by omega), if_neg (by omega)]]; unfold dq; simp (disch := omega) only [upI_s, upI_k]; done)
      · refine ev_aload_0 91 dX0_flow_91 ?_
        refine ev_dupA 92 dX0_flow_92 ?_
        refine ev_gI 93 1 1 dX0_flow_93 fa_X0_9 (kdD_0 hZ hD) rfl rfl rfl ?_
        try simp (disch := omega) only [upI_s, upI_a, upI_k]
        try simp only [e1, e2]
        refine ev_iconst 96 dX0_flow_96 ⟨by decide, by decide⟩ ?_
        refine ev_iadd 97 dX0_flow_97 ⟨by omega, by omega⟩ ?_
        refine ev_pI 98 1 1 dX0_flow_98 fp_X0_9 (kdD_0 hZ hD) rfl rfl ?_
        refine ev_goto 101 129 dX0_flow_101 rfl ?_
        refine ev_vret 129 dX0_flow_129 ?_ rfl
        refine QV_of ⟨?_, by first | exact OD.rf.up.up | exact OD.rf.up⟩
        have eX : fX α (I D 1) (I D 2) = (I D 2 + α 1 (I D 1) - 3) % I T 0 := by unfold fX; rw [a0]
        rw [eX]
        first
          | (rw [show fL α (I D 1) (I D 3) = I D 1 + 1 from if_pos (by omega)]; unfold dq; simp (disch := omega) only [upI_s, upI_k]; done)
          | (rw [show fL α (I D 1) (I D 3) = I D 1 - 1 by unfold fL; rw [if_neg (by omega), if_pos (by omega)]]; unfold dq; simp (disch := omega) only [upI_s, upI_k]; done)
          | (rw [show fL α (I D 1) (I D 3) = I D 1 by unfold fL; rw [if_neg (by omega), if_neg (by omega)]]; unfold dq; simp (disch := omega) only [upI_s, upI_k]; done)
  · exfalso; omega
theorem c_pass {l : Launch} {g : Gt} {d : Nat} {Z : Zt} {I : It} {P : Pt'} (hZ : LayC Z) (hP : LayP P) {T : Nat} (hT0 : P 4 0 = some T) (hT : IsT T) {D : Nat} (hD : IsD D) {α σ : Nat → Int → Int} (hA : VT T I α) (hS0 : VS I σ) (hW : WF α) (hi : inD α (dq D I)) (as : Int) : Mt l g mX0_pass (d + 4) 0 0 [vA D, vI as] Z I P (QV (fun I' => dq D I' = ps α σ as (dq D I) ∧ OD D I I') Z P) := by
  have hd : D = 99 ∨ D = 100 := hD
  have ht : T = 5 ∨ T = 118 := hT
  have a0 := hA.at 0
  have a1 := hA.at 1
  have a5 := hA.at 5
  have e1 : I (T + 1) = α 1 := hA 1 (by omega)
  have e2 : I (T + 2) = α 2 := hA 2 (by omega)
  have w0 := hW.1
  have w1 := hW.2.1
  obtain ⟨i1, i2, i3⟩ := id hi
  dsimp only [dq] at i1 i2 i3
  have wl := hW.2.2.2.2.2.1 (I D 1) i1.1 i1.2
  have w5 := hW.2.2.1
  refine Mt.of kmX0_pass (ls := [vA D, vI as]) (fun _ => rfl) (fun _ => rfl) (okf_k (okf_k (okf_n rfl))) (fun hok => ?_)
  refine ev_aload_0 0 dX0_pass_0 ?_
  refine ev_gI 1 4 4 dX0_pass_1 fa_X0_21 (kdD_0 hZ hD) rfl rfl rfl ?_
  refine ev_bipush 4 dX0_pass_4 ⟨by decide, by decide⟩ ?_
  refine ev_icmp_eq 6 10 dX0_pass_6 rfl (fun h6 => ?_) (fun h6 => ?_)
  · refine ev_aload_0 10 dX0_pass_10 ?_
    refine ev_cVv_0 11 dX0_pass_11 kmX0_flow lk_X0_73 (kdD_0 hZ hD) (c_flow hZ hP hT0 hT hD hA hW hi) rfl rfl (fun I11 f11 => ?_)
    obtain ⟨q1, q2⟩ := f11
    have hA1 := hA.od hT hd q2
    have hS1 := hS0.od hd q2
    have b5 := hA1.at 5
    have b4 : I11 (T + 4) = α 4 := hA1 4 (by omega)
    have c1 : I11 19 = σ 1 := hS1 1 (by omega)
    have c2 : I11 20 = σ 2 := hS1 2 (by omega)
    unfold dq at q1
    simp only [Prod.mk.injEq] at q1
    refine ev_aload_0 14 dX0_pass_14 ?_
    refine ev_aload_0 15 dX0_pass_15 ?_
    refine ev_getA 16 0 dX0_pass_16 fa_X0_24 (kdD_0 hZ hD) (prD_0 hP hD) rfl ?_
    refine ev_aload_0 19 dX0_pass_19 ?_
    refine ev_gI 20 1 1 dX0_pass_20 fa_X0_9 (kdD_0 hZ hD) rfl rfl rfl ?_
    rw [q1.1]
    refine ev_aload_0 23 dX0_pass_23 ?_
    refine ev_gI 24 2 2 dX0_pass_24 fa_X0_15 (kdD_0 hZ hD) rfl rfl rfl ?_
    rw [q1.2.1]
    refine ev_iload_1 27 dX0_pass_27 ?_
    refine ev_cVp_3 28 dX0_pass_28 kmX6_townAt lk_X0_76 (kd_4 hZ) (c_townAt hZ hP hT0 hT (by omega) _ _ _) rfl rfl ?_
    simp only [b4, c1, c2, b5]
    refine ev_pI 31 4 4 dX0_pass_31 fp_X0_21 (kdD_0 hZ hD) rfl rfl ?_
    refine ev_vret 34 dX0_pass_34 ?_ rfl
    exact QV_of ⟨by unfold ps; rw [if_pos (by assumption)]; unfold dq; simp (disch := omega) only [upI_s, upI_k, q1.1, q1.2.1, q1.2.2.1], q2.up⟩
  · refine ev_vret 9 dX0_pass_9 ?_ rfl
    exact QV_of ⟨(if_neg (by assumption)).symm, OD.rf⟩
theorem c_passMany {l : Launch} {g : Gt} {d : Nat} {Z : Zt} {I : It} {P : Pt'} (hZ : LayC Z) (hP : LayP P) {T : Nat} (hT0 : P 4 0 = some T) (hT : IsT T) {D : Nat} (hD : IsD D) {α σ : Nat → Int → Int} (hA : VT T I α) (hS0 : VS I σ) (hW : WF α) (hi : inD α (dq D I)) {n : Int} (hn : 0 ≤ n ∧ n ≤ 1000) : Mt l g mX0_passMany (d + 5) 0 0 [vA D, vI n] Z I P (QV (fun I' => dq D I' = psn α σ (-1) n.toNat (dq D I) ∧ OD D I I') Z P) := by
  have hd : D = 99 ∨ D = 100 := hD
  refine Mt.of kmX0_passMany (ls := [vA D, vI n, vX]) (fun _ => rfl) (fun _ => rfl) (okf_k (okf_k (okf_n rfl))) (fun hok => ?_)
  have loop : ∀ (k : Nat) (i : Int) (I1 : It), 0 ≤ i → i + k = n → OD D I I1 → inD α (dq D I1) → psn α σ (-1) n.toNat (dq D I) = psn α σ (-1) k (dq D I1) → Ev l g mX0_passMany (d + 5) 0 0 Z I1 P 2 [vA D, vI n, vI i] [] (QV (fun I' => dq D I' = psn α σ (-1) n.toNat (dq D I) ∧ OD D I I') Z P) := by
    intro k
    induction k with
    | zero =>
      intro i I1 h0 h1 o hi h2
      refine ev_iload_2 2 dX0_passMany_2 ?_
      refine ev_iload_1 3 dX0_passMany_3 ?_
      refine ev_icmp_ge 4 27 dX0_passMany_4 rfl (fun h4 => ?_) (fun h4 => ?_)
      · refine ev_vret 27 dX0_passMany_27 ?_ rfl
        exact QV_of ⟨h2.symm, o⟩
      · exfalso; omega
    | succ k ih =>
      intro i I1 h0 h1 o hi h2
      have hA := hA.od hT hd o
      have hS0 := hS0.od hd o
      refine ev_iload_2 2 dX0_passMany_2 ?_
      refine ev_iload_1 3 dX0_passMany_3 ?_
      refine ev_icmp_ge 4 27 dX0_passMany_4 rfl (fun h4 => ?_) (fun h4 => ?_)
      · refine ev_vret 27 dX0_passMany_27 ?_ rfl
        first | (exfalso; omega) | exact QV_of ⟨by rw [h2, psn_c _ _ (by assumption)], o⟩
      · refine ev_aload_0 7 dX0_passMany_7 ?_
        refine ev_gI 8 4 4 dX0_passMany_8 fa_X0_21 (kdD_0 hZ hD) rfl rfl rfl ?_
        refine ev_bipush 11 dX0_passMany_11 ⟨by decide, by decide⟩ ?_
        refine ev_jne 13 27 dX0_passMany_13 rfl (fun h13 => ?_) (fun h13 => ?_)
        · refine ev_vret 27 dX0_passMany_27 ?_ rfl
          first | (exfalso; omega) | exact QV_of ⟨by rw [h2, psn_c _ _ (by assumption)], o⟩
        · refine ev_aload_0 16 dX0_passMany_16 ?_
          refine ev_iconst 17 dX0_passMany_17 ⟨by decide, by decide⟩ ?_
          refine ev_cVv_1 18 dX0_passMany_18 kmX0_pass lk_X0_80 (kdD_0 hZ hD) (c_pass hZ hP hT0 hT hD hA hS0 hW hi _) rfl rfl (fun I18 f18 => ?_)
          refine ev_iinc_2 21 dX0_passMany_21 ⟨by omega, by omega⟩ rfl rfl ?_
          refine ev_goto 24 2 dX0_passMany_24 rfl ?_
          obtain ⟨q1, q2⟩ := f18
          exact ih _ _ (by omega) (by omega) (o.tr q2) (by rw [q1]; exact ps_in hW hi) (by rw [h2, q1]; rfl)
  refine ev_iconst 0 dX0_passMany_0 ⟨by decide, by decide⟩ ?_
  refine ev_istore_2 1 dX0_passMany_1 rfl rfl ?_
  exact loop n.toNat 0 I (by omega) (by omega) OD.rf hi rfl
theorem c_pUC {l : Launch} {g : Gt} {d : Nat} {Z : Zt} {I : It} {P : Pt'} (hZ : LayC Z) (hP : LayP P) {T : Nat} (hT0 : P 4 0 = some T) (hT : IsT T) {D : Nat} (hD : IsD D) {α σ : Nat → Int → Int} (hA : VT T I α) (hS0 : VS I σ) (hW : WF α) (hi : inD α (dq D I)) (as : Int) : Mt l g mX0_passUntilCaught (d + 5) 0 0 [vA D, vI as] Z I P (QM (fun r I' => r = (pu α σ as 60 1 (dq D I)).1 ∧ dq D I' = (pu α σ as 60 1 (dq D I)).2 ∧ OD D I I') Z P) := by
  have hd : D = 99 ∨ D = 100 := hD
  refine Mt.of kmX0_passUntilCaught (ls := [vA D, vI as, vX]) (fun _ => rfl) (fun _ => rfl) (okf_k (okf_k (okf_n rfl))) (fun hok => ?_)
  generalize hR : pu α σ as 60 1 (dq D I) = R
  have loop : ∀ (k : Nat) (i : Int) (I1 : It), 1 ≤ i → i + k = 61 → OD D I I1 → inD α (dq D I1) → R = pu α σ as k i (dq D I1) → Ev l g mX0_passUntilCaught (d + 5) 0 0 Z I1 P 2 [vA D, vI as, vI i] [] (QM (fun r I' => r = R.1 ∧ dq D I' = R.2 ∧ OD D I I') Z P) := by
    intro k
    induction k with
    | zero =>
      intro i I1 h0 h1 o hi h2
      refine ev_iload_2 2 dX0_passUntilCaught_2 ?_
      refine ev_bipush 3 dX0_passUntilCaught_3 ⟨by decide, by decide⟩ ?_
      refine ev_icmp_gt 5 30 dX0_passUntilCaught_5 rfl (fun h5 => ?_) (fun h5 => ?_)
      · refine ev_bipush 30 dX0_passUntilCaught_30 ⟨by decide, by decide⟩ ?_
        refine ev_iret 32 dX0_passUntilCaught_32 ?_ rfl
        exact QM_of (by rw [h2]; exact ⟨rfl, rfl, o⟩)
      · exfalso; omega
    | succ k ih =>
      intro i I1 h0 h1 o hi h2
      have hA := hA.od hT hd o
      have hS0 := hS0.od hd o
      unfold pu at h2
      refine ev_iload_2 2 dX0_passUntilCaught_2 ?_
      refine ev_bipush 3 dX0_passUntilCaught_3 ⟨by decide, by decide⟩ ?_
      refine ev_icmp_gt 5 30 dX0_passUntilCaught_5 rfl (fun h5 => ?_) (fun h5 => ?_)
      · exfalso; omega
      · refine ev_aload_0 8 dX0_passUntilCaught_8 ?_
        refine ev_iload_1 9 dX0_passUntilCaught_9 ?_
        refine ev_cVv_1 10 dX0_passUntilCaught_10 kmX0_pass lk_X0_80 (kdD_0 hZ hD) (c_pass hZ hP hT0 hT hD hA hS0 hW hi _) rfl rfl (fun I10 f10 => ?_)
        obtain ⟨q1, q2⟩ := f10
        rw [← q1] at h2
        refine ev_aload_0 13 dX0_passUntilCaught_13 ?_
        refine ev_gI 14 4 4 dX0_passUntilCaught_14 fa_X0_21 (kdD_0 hZ hD) rfl rfl rfl ?_
        have e4 : I10 D 4 = (dq D I10).2.2.2 := rfl
        rw [e4]
        refine ev_bipush 17 dX0_passUntilCaught_17 ⟨by decide, by decide⟩ ?_
        refine ev_icmp_eq 19 24 dX0_passUntilCaught_19 rfl (fun h19 => ?_) (fun h19 => ?_)
        · refine ev_iinc_2 24 dX0_passUntilCaught_24 ⟨by omega, by omega⟩ rfl rfl ?_
          refine ev_goto 27 2 dX0_passUntilCaught_27 rfl ?_
          rw [if_pos (by assumption)] at h2
          exact ih _ _ (by omega) (by omega) (o.tr q2) (by rw [q1]; exact ps_in hW hi) h2
        · refine ev_iload_2 22 dX0_passUntilCaught_22 ?_
          refine ev_iret 23 dX0_passUntilCaught_23 ?_ rfl
          rw [if_neg (by assumption)] at h2
          exact QM_of (by rw [h2]; exact ⟨rfl, rfl, o.tr q2⟩)
  refine ev_iconst 0 dX0_passUntilCaught_0 ⟨by decide, by decide⟩ ?_
  refine ev_istore_2 1 dX0_passUntilCaught_1 rfl rfl ?_
  exact loop 60 1 I (by omega) (by omega) OD.rf hi hR.symm
