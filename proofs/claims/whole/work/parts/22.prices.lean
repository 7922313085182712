/-! what is read, and prices -/
def lvA (α : Nat → Int → Int) (l w : Int) : Int := if 0 ≤ l ∧ l < α 0 1 then (if w = 0 then α 1 l else if w = 1 then α 2 l else if w = 2 then α 3 l else -1) else -1
def twA (α σ : Nat → Int → Int) (t w : Int) : Int := if 0 ≤ t ∧ t < α 0 5 then (if w = 0 then α 4 t else if w = 1 then σ 1 t else if w = 2 then α 6 t else if w = 3 then α 7 t else if w = 4 then (if σ 2 t = 0 then 0 else 1) else -1) else -1
def thA (σ : Nat → Int → Int) (t w : Int) : Int := if 0 ≤ t ∧ t < σ 0 1 then (if w = 0 then σ 3 t else if w = 1 then σ 4 t else if w = 2 then σ 5 t else if w = 3 then σ 6 t else -1) else -1
def anyT (α σ : Nat → Int → Int) (a b : Int) : Prop := ∃ t, 0 ≤ t ∧ t < α 0 5 ∧ σ 2 t = 0 ∧ a ≤ α 4 t ∧ α 4 t ≤ b
def lkS (α σ : Nat → Int → Int) (p a b : Int) : Nat → Int
  | 0 => 0
  | n + 1 => if σ 2 (n : Int) = 0 ∧ a ≤ α 4 (n : Int) ∧ α 4 (n : Int) ≤ b then lkS α σ p a b n + (max 0 (α 7 (n : Int) - p) - α 6 (n : Int)) else lkS α σ p a b n
theorem lkS_r {α σ : Nat → Int → Int} (hW : WF α) {p a b : Int} (hp : 0 ≤ p ∧ p ≤ 20) : ∀ n : Nat, (n : Int) ≤ α 0 5 → -(20 * n) ≤ lkS α σ p a b n ∧ lkS α σ p a b n ≤ 20 * n
  | 0, _ => ⟨Int.le_refl _, Int.le_refl _⟩
  | n + 1, h => by
    have := lkS_r (σ := σ) (a := a) (b := b) hW hp n (by omega)
    have h2 := hW.2.2.2.2.2.2.1 (n : Int) (by omega) (by omega)
    unfold lkS; split <;> omega
def CP (α σ : Nat → Int → Int) (a b r : Int) : Prop := (¬ anyT α σ a b ∧ r = -4) ∨ (anyT α σ a b ∧ LW (fun p => lkS α σ p a b (α 0 5).toNat ≤ 0) 21 r)
theorem c_ms {l : Launch} {g : Gt} {d : Nat} {Z : Zt} {I : It} {P : Pt'} {T : Nat} {α σ : Nat → Int → Int} (hsn : SN T α Z I P) (hS : VS I σ) (hWS : WS α σ) {b : Int} (hb0 : 0 ≤ b ∧ b ≤ 99) : Mt l g mX3_seek (d + 6) (2 * nn P) (194 * nn P) [vA 109, vI b] Z I P (QW (fun Z' I' P' => SN T α Z' I' P' ∧ SY Z I P Z' I' P' ∧ I' 106 = I 106 ∧ MV 1000000 α σ b (I' 109 5) (I' 109 6) (I' 109 7))) := by
  have hZ := hsn.1
  have hP := hsn.2.1
  have hT0 := hsn.2.2.1
  have hT := hsn.2.2.2.1
  have hW := hsn.2.2.2.2.2.1
  have w0 := hW.1
  have w1 := hW.2.1
  have w5 := hW.2.2.1
  refine Mt.of kmX3_seek (ls := [vA 109, vI b, vX]) (fun _ => rfl) (fun _ => rfl) (okf_k (okf_k (okf_n rfl))) (fun hok => ?_)
  have fin58 : ∀ (Z1 : Zt) (I1 : It) (P1 : Pt') (vx : Vv), SN T α Z1 I1 P1 → SY Z I P Z1 I1 P1 → I1 109 4 = b → I1 109 5 = -4 → I1 106 = I 106 → I1 109 6 = -4 → I1 109 7 = -4 → HM α (σ 1) Z1 I1 P1 → Ev l g mX3_seek (d + 6) (2 * nn P1) (194 * nn P1) Z1 I1 P1 58 [vA 109, vI b, vx] [] (QW (fun Z' I' P' => SN T α Z' I' P' ∧ SY Z I P Z' I' P' ∧ I' 106 = I 106 ∧ MV 1000000 α σ b (I' 109 5) (I' 109 6) (I' 109 7))) := by
    intro Z1 I1 P1 vx hsn sy hb q5 q106 q6 q7 hM
    have hZ := hsn.1
    have hP := hsn.2.1
    have hT0 := hsn.2.2.1
    have hS := sy.vs hS
    refine ev_forget (ls' := [vA 109, vI b, vX]) (fg_k (fg_k (fg_x fg_n))) ?_
    refine ev_aload_0 58 dX3_seek_58 ?_
    refine ev_iconst 59 dX3_seek_59 ⟨by decide, by decide⟩ ?_
    refine ev_cVp_1 60 dX3_seek_60 kmX3_allHear lk_X3_61 (kd_109 hZ) (c_aH hsn hS hWS hM hb _) rfl rfl ?_
    refine ev_ifb_eq 63 74 dX3_seek_63 rfl (fun h63 => ?_) (fun h63 => ?_)
    · have hnal : ¬ AL 1000000 α σ (σ 1) b := fun z => h63 (fun t t0 t1 u u0 u1 _ _ c1 c2 => z t t0 t1 u u0 u1 c1 c2)
      refine ev_aload_0 74 dX3_seek_74 ?_
      refine ev_cVm_0 75 dX3_seek_75 kmX3_seekOne lk_X3_65 (kd_109 hZ) (c_s1 hsn hS hWS hM hb) rfl rfl (fun x75 I75 f75 => ?_)
      obtain ⟨q, lw, e75, e75b⟩ := f75
      rw [e75b]
      obtain ⟨hsn2, sy2⟩ := hsn.ch (I' := I75) (P' := P1) (fun a z1 z2 z3 => by rw [e75, upI_A (by omega)]) (fun _ _ => rfl)
      have hS2 := sy2.vs hS
      have hM2 := (HM_n.mpr hM).ch (I' := I75) (fun a ha => by rw [e75, upI_A ha])
      have c4 : I75 109 4 = b := by rw [e75, upI_k (by omega)]; exact hb
      have c5 : I75 109 5 = -4 := by rw [e75, upI_k (by omega)]; exact q5
      have c6 : I75 109 6 = q := by rw [e75, upI_s]
      have c7 : I75 109 7 = -4 := by rw [e75, upI_k (by omega)]; exact q7
      have c106 : I75 106 = I 106 := by rw [e75, upI_A (by omega)]; exact q106
      refine ev_ifb_eq 78 89 dX3_seek_78 rfl (fun h78 => ?_) (fun h78 => ?_)
      · have hq4 : q = -4 := by omega
        refine ev_aload_0 89 dX3_seek_89 ?_
        refine Ev.mono (bc' := 0 + 2 * nn P1) (bs' := 0 + 194 * nn P1) (by omega) (by omega) ?_
        refine ev_cVg_0 90 dX3_seek_90 kmX3_seekTwo lk_X3_69 (kd_109 hZ) (c_s2 hsn2 hS2 hWS hM2 c4 c7) rfl rfl (fun x90 Z90 I90 P90 f90 _ _ => ?_)
        obtain ⟨hsn3, sy3, v5, v106, vr⟩ := f90
        refine Ev.rows sy3.2.2.2.2.2.1 sy3.2.2.2.2.2.2 ?_
        have hZ := hsn3.1
        refine ev_if_eq 93 101 dX3_seek_93 rfl (fun h93 => ?_) (fun h93 => ?_)
        · refine ev_vret 101 dX3_seek_101 ?_ rfl
          rcases vr with ⟨v0, _⟩ | ⟨v0, v1, v2, v3⟩
          · exfalso; omega
          · exact QW_of ⟨hsn3, sy.tr (sy2.tr sy3), by rw [v106]; exact c106, Or.inr ⟨hnal, q, lw, Or.inr ⟨hq4, -4, v1, Or.inl ⟨rfl, v5.trans c5, (v2.trans c6).trans hq4, v3⟩⟩⟩⟩
        · refine ev_aload_0 96 dX3_seek_96 ?_
          refine ev_iconst 97 dX3_seek_97 ⟨by decide, by decide⟩ ?_
          refine ev_pI 98 5 5 dX3_seek_98 fp_X3_25 (kd_109 hZ) rfl rfl ?_
          refine ev_vret 101 dX3_seek_101 ?_ rfl
          rcases vr with ⟨v0, q', v1, v2, v3, v4⟩ | ⟨v0, _⟩
          · obtain ⟨hsn4, sy4⟩ := hsn3.ch (I' := upI I90 109 5 2) (P' := P90) (fun a z1 z2 z3 => by rw [upI_A (by omega)]) (fun _ _ => rfl)
            exact QW_of ⟨hsn4, sy.tr (sy2.tr (sy3.tr sy4)), by rw [upI_A (by omega), v106]; exact c106, Or.inr ⟨hnal, q, lw, Or.inr ⟨hq4, q', v2, Or.inr ⟨v1, upI_s _ _ _ _, by rw [upI_k (by omega)]; exact v3, by rw [upI_k (by omega)]; exact v4⟩⟩⟩⟩
          · exfalso; omega
      · refine ev_aload_0 81 dX3_seek_81 ?_
        refine ev_iconst 82 dX3_seek_82 ⟨by decide, by decide⟩ ?_
        refine ev_pI 83 5 5 dX3_seek_83 fp_X3_25 (kd_109 hZ) rfl rfl ?_
        refine ev_goto 86 101 dX3_seek_86 rfl ?_
        refine ev_vret 101 dX3_seek_101 ?_ rfl
        obtain ⟨hsn4, sy4⟩ := hsn2.ch (I' := upI I75 109 5 1) (P' := P1) (fun a z1 z2 z3 => by rw [upI_A (by omega)]) (fun _ _ => rfl)
        refine QW_of ⟨hsn4, sy.tr (sy2.tr sy4), by rw [upI_A (by omega)]; exact c106, Or.inr ⟨hnal, q, lw, Or.inl ⟨by omega, upI_s _ _ _ _, by rw [upI_k (by omega)]; exact c6, by rw [upI_k (by omega)]; exact c7⟩⟩⟩
    · refine ev_aload_0 66 dX3_seek_66 ?_
      refine ev_iconst 67 dX3_seek_67 ⟨by decide, by decide⟩ ?_
      refine ev_pI 68 5 5 dX3_seek_68 fp_X3_25 (kd_109 hZ) rfl rfl ?_
      refine ev_goto 71 101 dX3_seek_71 rfl ?_
      refine ev_vret 101 dX3_seek_101 ?_ rfl
      obtain ⟨hsn4, sy4⟩ := hsn.ch (I' := upI I1 109 5 0) (P' := P1) (fun a z1 z2 z3 => by rw [upI_A (by omega)]) (fun _ _ => rfl)
      refine QW_of ⟨hsn4, sy.tr sy4, by rw [upI_A (by omega)]; exact q106, Or.inl ⟨fun t t0 t1 u u0 u1 c1 c2 => h63 t t0 t1 u u0 u1 (by omega) (by omega) c1 c2, upI_s _ _ _ _, by rw [upI_k (by omega)]; exact q6, by rw [upI_k (by omega)]; exact q7⟩⟩
  have loop : ∀ (k : Nat) (t : Int) (Z1 : Zt) (I1 : It) (P1 : Pt'), 0 ≤ t → t + k = α 0 5 → SN T α Z1 I1 P1 → SY Z I P Z1 I1 P1 → I1 109 4 = b → I1 109 5 = -4 → I1 106 = I 106 → I1 109 6 = -4 → I1 109 7 = -4 → HMn α (σ 1) t Z1 I1 P1 → Ev l g mX3_seek (d + 6) (2 * nn P1) (194 * nn P1) Z1 I1 P1 25 [vA 109, vI b, vI t] [] (QW (fun Z' I' P' => SN T α Z' I' P' ∧ SY Z I P Z' I' P' ∧ I' 106 = I 106 ∧ MV 1000000 α σ b (I' 109 5) (I' 109 6) (I' 109 7))) := by
    intro k
    induction k with
    | zero =>
      intro t Z1 I1 P1 h0 h1 hsn sy hb q5 q106 q6 q7 hM
      obtain rfl : t = α 0 5 := by omega
      have hZ := hsn.1
      have hP := hsn.2.1
      have hT0 := hsn.2.2.1
      have hS := sy.vs hS
      have a0 : I1 T 0 = α 0 0 := hsn.2.2.2.2.1.at 0
      have a1 : I1 T 1 = α 0 1 := hsn.2.2.2.2.1.at 1
      have a5 : I1 T 5 = α 0 5 := hsn.2.2.2.2.1.at 5
      have a4 : I1 (T + 4) = α 4 := hsn.2.2.2.2.1 4 (by omega)
      have s1 : I1 19 = σ 1 := hS 1 (by omega)
      have s2 : I1 20 = σ 2 := hS 2 (by omega)
      refine ev_iload_2 25 dX3_seek_25 ?_
      refine ev_aload_0 26 dX3_seek_26 ?_
      refine ev_getA 27 0 dX3_seek_27 fa_X3_34 (kd_109 hZ) (pr_109_0 hP) rfl ?_
      refine ev_getA 30 0 dX3_seek_30 fa_X3_42 (kd_4 hZ) hT0 rfl ?_
      refine ev_gI 33 5 5 dX3_seek_33 fa_X3_48 (kdT_0 hZ hT) rfl rfl rfl ?_
      try simp only [a5]
      refine ev_icmp_ge 36 58 dX3_seek_36 rfl (fun h36 => ?_) (fun h36 => ?_)
      · exact fin58 _ _ _ _ hsn sy hb q5 q106 q6 q7 hM
      · exfalso; omega
    | succ k ih =>
      intro t Z1 I1 P1 h0 h1 hsn sy hb q5 q106 q6 q7 hM
      have hZ := hsn.1
      have hP := hsn.2.1
      have hT0 := hsn.2.2.1
      have hS := sy.vs hS
      have a0 : I1 T 0 = α 0 0 := hsn.2.2.2.2.1.at 0
      have a1 : I1 T 1 = α 0 1 := hsn.2.2.2.2.1.at 1
      have a5 : I1 T 5 = α 0 5 := hsn.2.2.2.2.1.at 5
      have a4 : I1 (T + 4) = α 4 := hsn.2.2.2.2.1 4 (by omega)
      have s1 : I1 19 = σ 1 := hS 1 (by omega)
      have s2 : I1 20 = σ 2 := hS 2 (by omega)
      have m1 := (hW.2.2.2.2.2.2.1 t h0 (by omega)).1
      have m2 := hWS.2.2.1 t h0 (by omega)
      refine ev_iload_2 25 dX3_seek_25 ?_
      refine ev_aload_0 26 dX3_seek_26 ?_
      refine ev_getA 27 0 dX3_seek_27 fa_X3_34 (kd_109 hZ) (pr_109_0 hP) rfl ?_
      refine ev_getA 30 0 dX3_seek_30 fa_X3_42 (kd_4 hZ) hT0 rfl ?_
      refine ev_gI 33 5 5 dX3_seek_33 fa_X3_48 (kdT_0 hZ hT) rfl rfl rfl ?_
      try simp only [a5, a4, s1]
      refine ev_icmp_ge 36 58 dX3_seek_36 rfl (fun h36 => ?_) (fun h36 => ?_)
      · exfalso; omega
      · refine ev_aload_0 39 dX3_seek_39 ?_
        refine ev_iload_2 40 dX3_seek_40 ?_
        refine ev_aload_0 41 dX3_seek_41 ?_
        refine ev_getA 42 0 dX3_seek_42 fa_X3_34 (kd_109 hZ) (pr_109_0 hP) rfl ?_
        refine ev_iload_2 45 dX3_seek_45 ?_
        refine ev_cVp_1 46 dX3_seek_46 kmX6_townSpot lk_X3_53 (kd_4 hZ) (c_townSpot hZ hP hT0 hT _ (by omega) (by rw [a4]; omega) (by rw [s1]; omega)) rfl rfl ?_
        try simp only [a5, a4, s1]
        refine Ev.mono (bc' := 0 + 2 * nn P1) (bs' := 0 + 194 * nn P1) (by omega) (by omega) ?_
        refine ev_cVw_2 49 dX3_seek_49 kmX3_hangAt lk_X3_57 (kd_109 hZ) (c_hA hsn (by omega) (tsp_gr hW hWS (by omega))) rfl rfl (fun Z49 I49 P49 f49 _ _ => ?_)
        have k49 := f49
        obtain ⟨hsn2, sy2, z110, zk, z109, z106, zr, zp⟩ := f49
        refine Ev.rows sy2.2.2.2.2.2.1 sy2.2.2.2.2.2.2 ?_
        have hM2 := hM.more (T := T) (by omega) k49
        refine ev_iinc_2 52 dX3_seek_52 ⟨by omega, by omega⟩ rfl rfl ?_
        refine ev_goto 55 25 dX3_seek_55 rfl ?_
        exact ih _ _ _ _ (by omega) (by omega) hsn2 (sy.tr sy2) (by rw [z109]; exact hb) (by rw [z109]; exact q5) (z106.trans q106) (by rw [z109]; exact q6) (by rw [z109]; exact q7) hM2
  refine ev_aload_0 0 dX3_seek_0 ?_
  refine ev_iload_1 1 dX3_seek_1 ?_
  refine ev_pI 2 4 4 dX3_seek_2 fp_X3_21 (kd_109 hZ) rfl rfl ?_
  refine ev_aload_0 5 dX3_seek_5 ?_
  refine ev_bipush 6 dX3_seek_6 ⟨by decide, by decide⟩ ?_
  refine ev_pI 8 5 5 dX3_seek_8 fp_X3_25 (kd_109 hZ) rfl rfl ?_
  refine ev_aload_0 11 dX3_seek_11 ?_
  refine ev_bipush 12 dX3_seek_12 ⟨by decide, by decide⟩ ?_
  refine ev_pI 14 6 6 dX3_seek_14 fp_X3_28 (kd_109 hZ) rfl rfl ?_
  refine ev_aload_0 17 dX3_seek_17 ?_
  refine ev_bipush 18 dX3_seek_18 ⟨by decide, by decide⟩ ?_
  refine ev_pI 20 7 7 dX3_seek_20 fp_X3_31 (kd_109 hZ) rfl rfl ?_
  refine ev_iconst 23 dX3_seek_23 ⟨by decide, by decide⟩ ?_
  refine ev_istore_2 24 dX3_seek_24 rfl rfl ?_
  obtain ⟨hsn3, sy3⟩ := hsn.ch (I' := upI (upI (upI (upI I 109 4 b) 109 5 (-4)) 109 6 (-4)) 109 7 (-4)) (P' := P) (fun a z1 z2 z3 => by simp (disch := omega) only [upI_A]) (fun _ _ => rfl)
  exact loop (α 0 5).toNat 0 Z _ P (by omega) (by omega) hsn3 sy3 (by simp (disch := omega) only [upI_s, upI_k]) (by simp (disch := omega) only [upI_s, upI_k]) (by simp (disch := omega) only [upI_A]) (by simp (disch := omega) only [upI_s, upI_k]) (by simp (disch := omega) only [upI_s, upI_k]) (fun t z1 z2 => by omega)
theorem c_level {l : Launch} {g : Gt} {d : Nat} {Z : Zt} {I : It} {P : Pt'} {T : Nat} {α σ : Nat → Int → Int} (hsn : SN T α Z I P) (hS : VS I σ) (hWS : WS α σ) (x w : Int) : Mt l g mX11_level (d + 1) 0 0 [vA 0, vI x, vI w] Z I P (QP (lvA α x w) Z I P) := by
  have hZ := hsn.1
  have hP := hsn.2.1
  have hT0 := hsn.2.2.1
  have hT := hsn.2.2.2.1
  have hW := hsn.2.2.2.2.2.1
  have w0 := hW.1
  have w1 := hW.2.1
  have w5 := hW.2.2.1
  have a0 : I T 0 = α 0 0 := hsn.2.2.2.2.1.at 0
  have a1 : I T 1 = α 0 1 := hsn.2.2.2.2.1.at 1
  have a5 : I T 5 = α 0 5 := hsn.2.2.2.2.1.at 5
  have a4 : I (T + 4) = α 4 := hsn.2.2.2.2.1 4 (by omega)
  have s1 : I 19 = σ 1 := hS 1 (by omega)
  have s2 : I 20 = σ 2 := hS 2 (by omega)
  clear s1 s2
  have aT : I T = α 0 := hsn.2.2.2.2.1 0 (by omega)
  have t1 : I (T + 1) = α 1 := hsn.2.2.2.2.1 1 (by omega)
  have t2 : I (T + 2) = α 2 := hsn.2.2.2.2.1 2 (by omega)
  have t3 : I (T + 3) = α 3 := hsn.2.2.2.2.1 3 (by omega)
  have t4 : I (T + 4) = α 4 := hsn.2.2.2.2.1 4 (by omega)
  have t5 : I (T + 5) = α 5 := hsn.2.2.2.2.1 5 (by omega)
  have t6 : I (T + 6) = α 6 := hsn.2.2.2.2.1 6 (by omega)
  have t7 : I (T + 7) = α 7 := hsn.2.2.2.2.1 7 (by omega)
  have t8 : I (T + 8) = α 8 := hsn.2.2.2.2.1 8 (by omega)
  have t9 : I (T + 9) = α 9 := hsn.2.2.2.2.1 9 (by omega)
  have t10 : I (T + 10) = α 10 := hsn.2.2.2.2.1 10 (by omega)
  have t11 : I (T + 11) = α 11 := hsn.2.2.2.2.1 11 (by omega)
  have t12 : I (T + 12) = α 12 := hsn.2.2.2.2.1 12 (by omega)
  have s0 : I 18 = σ 0 := hS 0 (by omega)
  have s1 : I 19 = σ 1 := hS 1 (by omega)
  have s2 : I 20 = σ 2 := hS 2 (by omega)
  have s3 : I 21 = σ 3 := hS 3 (by omega)
  have s4 : I 22 = σ 4 := hS 4 (by omega)
  have s5 : I 23 = σ 5 := hS 5 (by omega)
  have s6 : I 24 = σ 6 := hS 6 (by omega)
  have w18 := hWS.2.1
  refine Mt.of kmX11_level (ls := [vA 0, vI x, vI w]) (fun _ => rfl) (fun _ => rfl) (okf_k (okf_k (okf_k (okf_n rfl)))) (fun hok => ?_)
  refine ev_aload_0 0 dX11_level_0 ?_
  refine ev_getA 1 1 dX11_level_1 fa_X11_19 (kd_0 hZ) (pr_0_1 hP) rfl ?_
  refine ev_iload_1 4 dX11_level_4 ?_
  refine ev_cVp_1 5 dX11_level_5 kmX6_isLevel lk_X11_128 (kd_4 hZ) (c_isLevel hZ hP hT0 hT _) rfl rfl ?_
  try simp only [aT, t1, t2, t3, t4, t5, t6, t7, t8, t9, t10, t11, t12, s0, s1, s2, s3, s4, s5, s6]
  refine ev_ifb_ne 8 13 dX11_level_8 rfl (fun h8 => ?_) (fun h8 => ?_)
  · refine ev_iload_2 13 dX11_level_13 ?_
    refine ev_tsw 14 79 dX11_level_14 rfl (fun h14 => ?_) (fun c14 hc14 h1 h2 => ?_)
    · refine ev_iconst 79 dX11_level_79 ⟨by decide, by decide⟩ ?_
      refine ev_iret 80 dX11_level_80 ?_ rfl
      exact QP_of (by unfold lvA; repeat' split; all_goals first | rfl | omega)
    · rcases (show c14 = 0 ∨ c14 = 1 ∨ c14 = 2 by omega) with rfl | rfl | rfl
      · refine ev_tswIn 14 40 dX11_level_14 (by decide) (by decide) rfl rfl ?_
        refine ev_aload_0 40 dX11_level_40 ?_
        refine ev_getA 41 1 dX11_level_41 fa_X11_19 (kd_0 hZ) (pr_0_1 hP) rfl ?_
        refine ev_getA 44 0 dX11_level_44 fa_X11_122 (kd_4 hZ) hT0 rfl ?_
        refine ev_getA 47 2 dX11_level_47 fa_X11_131 (kdT_0 hZ hT) (prT_2 hP hT) rfl ?_
        refine ev_iload_1 50 dX11_level_50 ?_
        refine ev_iald 51 dX11_level_51 (kdT_1 hZ hT) ⟨by omega, by have := (lnT_1 hZ hT); omega⟩ ?_
        try simp only [aT, t1, t2, t3, t4, t5, t6, t7, t8, t9, t10, t11, t12, s0, s1, s2, s3, s4, s5, s6]
        refine ev_iret 52 dX11_level_52 ?_ rfl
        exact QP_of (by unfold lvA; repeat' split; all_goals first | rfl | omega)
      · refine ev_tswIn 14 53 dX11_level_14 (by decide) (by decide) rfl rfl ?_
        refine ev_aload_0 53 dX11_level_53 ?_
        refine ev_getA 54 1 dX11_level_54 fa_X11_19 (kd_0 hZ) (pr_0_1 hP) rfl ?_
        refine ev_getA 57 0 dX11_level_57 fa_X11_122 (kd_4 hZ) hT0 rfl ?_
        refine ev_getA 60 3 dX11_level_60 fa_X11_135 (kdT_0 hZ hT) (prT_3 hP hT) rfl ?_
        refine ev_iload_1 63 dX11_level_63 ?_
        refine ev_iald 64 dX11_level_64 (kdT_2 hZ hT) ⟨by omega, by have := (lnT_2 hZ hT); omega⟩ ?_
        try simp only [aT, t1, t2, t3, t4, t5, t6, t7, t8, t9, t10, t11, t12, s0, s1, s2, s3, s4, s5, s6]
        refine ev_iret 65 dX11_level_65 ?_ rfl
        exact QP_of (by unfold lvA; repeat' split; all_goals first | rfl | omega)
      · refine ev_tswIn 14 66 dX11_level_14 (by decide) (by decide) rfl rfl ?_
        refine ev_aload_0 66 dX11_level_66 ?_
        refine ev_getA 67 1 dX11_level_67 fa_X11_19 (kd_0 hZ) (pr_0_1 hP) rfl ?_
        refine ev_getA 70 0 dX11_level_70 fa_X11_122 (kd_4 hZ) hT0 rfl ?_
        refine ev_getA 73 4 dX11_level_73 fa_X11_138 (kdT_0 hZ hT) (prT_4 hP hT) rfl ?_
        refine ev_iload_1 76 dX11_level_76 ?_
        refine ev_iald 77 dX11_level_77 (kdT_3 hZ hT) ⟨by omega, by have := (lnT_3 hZ hT); omega⟩ ?_
        try simp only [aT, t1, t2, t3, t4, t5, t6, t7, t8, t9, t10, t11, t12, s0, s1, s2, s3, s4, s5, s6]
        refine ev_iret 78 dX11_level_78 ?_ rfl
        exact QP_of (by unfold lvA; repeat' split; all_goals first | rfl | omega)
  · refine ev_iconst 11 dX11_level_11 ⟨by decide, by decide⟩ ?_
    refine ev_iret 12 dX11_level_12 ?_ rfl
    exact QP_of (by unfold lvA; repeat' split; all_goals first | rfl | omega)
theorem c_town {l : Launch} {g : Gt} {d : Nat} {Z : Zt} {I : It} {P : Pt'} {T : Nat} {α σ : Nat → Int → Int} (hsn : SN T α Z I P) (hS : VS I σ) (hWS : WS α σ) (x w : Int) : Mt l g mX11_town (d + 1) 0 0 [vA 0, vI x, vI w] Z I P (QP (twA α σ x w) Z I P) := by
  have hZ := hsn.1
  have hP := hsn.2.1
  have hT0 := hsn.2.2.1
  have hT := hsn.2.2.2.1
  have hW := hsn.2.2.2.2.2.1
  have w0 := hW.1
  have w1 := hW.2.1
  have w5 := hW.2.2.1
  have a0 : I T 0 = α 0 0 := hsn.2.2.2.2.1.at 0
  have a1 : I T 1 = α 0 1 := hsn.2.2.2.2.1.at 1
  have a5 : I T 5 = α 0 5 := hsn.2.2.2.2.1.at 5
  have a4 : I (T + 4) = α 4 := hsn.2.2.2.2.1 4 (by omega)
  have s1 : I 19 = σ 1 := hS 1 (by omega)
  have s2 : I 20 = σ 2 := hS 2 (by omega)
  clear s1 s2
  have aT : I T = α 0 := hsn.2.2.2.2.1 0 (by omega)
  have t1 : I (T + 1) = α 1 := hsn.2.2.2.2.1 1 (by omega)
  have t2 : I (T + 2) = α 2 := hsn.2.2.2.2.1 2 (by omega)
  have t3 : I (T + 3) = α 3 := hsn.2.2.2.2.1 3 (by omega)
  have t4 : I (T + 4) = α 4 := hsn.2.2.2.2.1 4 (by omega)
  have t5 : I (T + 5) = α 5 := hsn.2.2.2.2.1 5 (by omega)
  have t6 : I (T + 6) = α 6 := hsn.2.2.2.2.1 6 (by omega)
  have t7 : I (T + 7) = α 7 := hsn.2.2.2.2.1 7 (by omega)
  have t8 : I (T + 8) = α 8 := hsn.2.2.2.2.1 8 (by omega)
  have t9 : I (T + 9) = α 9 := hsn.2.2.2.2.1 9 (by omega)
  have t10 : I (T + 10) = α 10 := hsn.2.2.2.2.1 10 (by omega)
  have t11 : I (T + 11) = α 11 := hsn.2.2.2.2.1 11 (by omega)
  have t12 : I (T + 12) = α 12 := hsn.2.2.2.2.1 12 (by omega)
  have s0 : I 18 = σ 0 := hS 0 (by omega)
  have s1 : I 19 = σ 1 := hS 1 (by omega)
  have s2 : I 20 = σ 2 := hS 2 (by omega)
  have s3 : I 21 = σ 3 := hS 3 (by omega)
  have s4 : I 22 = σ 4 := hS 4 (by omega)
  have s5 : I 23 = σ 5 := hS 5 (by omega)
  have s6 : I 24 = σ 6 := hS 6 (by omega)
  have w18 := hWS.2.1
  refine Mt.of kmX11_town (ls := [vA 0, vI x, vI w]) (fun _ => rfl) (fun _ => rfl) (okf_k (okf_k (okf_k (okf_n rfl)))) (fun hok => ?_)
  refine ev_aload_0 0 dX11_town_0 ?_
  refine ev_getA 1 1 dX11_town_1 fa_X11_19 (kd_0 hZ) (pr_0_1 hP) rfl ?_
  refine ev_iload_1 4 dX11_town_4 ?_
  refine ev_cVp_1 5 dX11_town_5 kmX6_isTown lk_X11_141 (kd_4 hZ) (c_isTown hZ hP hT0 hT _) rfl rfl ?_
  try simp only [aT, t1, t2, t3, t4, t5, t6, t7, t8, t9, t10, t11, t12, s0, s1, s2, s3, s4, s5, s6]
  refine ev_ifb_ne 8 13 dX11_town_8 rfl (fun h8 => ?_) (fun h8 => ?_)
  · refine ev_iload_2 13 dX11_town_13 ?_
    refine ev_tsw 14 121 dX11_town_14 rfl (fun h14 => ?_) (fun c14 hc14 h1 h2 => ?_)
    · refine ev_iconst 121 dX11_town_121 ⟨by decide, by decide⟩ ?_
      refine ev_iret 122 dX11_town_122 ?_ rfl
      exact QP_of (by unfold twA; repeat' split; all_goals first | rfl | omega)
    · rcases (show c14 = 0 ∨ c14 = 1 ∨ c14 = 2 ∨ c14 = 3 ∨ c14 = 4 by omega) with rfl | rfl | rfl | rfl | rfl
      · refine ev_tswIn 14 48 dX11_town_14 (by decide) (by decide) rfl rfl ?_
        refine ev_aload_0 48 dX11_town_48 ?_
        refine ev_getA 49 1 dX11_town_49 fa_X11_19 (kd_0 hZ) (pr_0_1 hP) rfl ?_
        refine ev_getA 52 0 dX11_town_52 fa_X11_122 (kd_4 hZ) hT0 rfl ?_
        refine ev_getA 55 6 dX11_town_55 fa_X11_144 (kdT_0 hZ hT) (prT_6 hP hT) rfl ?_
        refine ev_iload_1 58 dX11_town_58 ?_
        refine ev_iald 59 dX11_town_59 (kdT_4 hZ hT) ⟨by omega, by have := (lnT_4 hZ hT); omega⟩ ?_
        try simp only [aT, t1, t2, t3, t4, t5, t6, t7, t8, t9, t10, t11, t12, s0, s1, s2, s3, s4, s5, s6]
        refine ev_iret 60 dX11_town_60 ?_ rfl
        exact QP_of (by unfold twA; repeat' split; all_goals first | rfl | omega)
      · refine ev_tswIn 14 61 dX11_town_14 (by decide) (by decide) rfl rfl ?_
        refine ev_aload_0 61 dX11_town_61 ?_
        refine ev_getA 62 1 dX11_town_62 fa_X11_19 (kd_0 hZ) (pr_0_1 hP) rfl ?_
        refine ev_getA 65 1 dX11_town_65 fa_X11_147 (kd_4 hZ) (pr_4_1 hP) rfl ?_
        refine ev_getA 68 2 dX11_town_68 fa_X11_151 (kd_18 hZ) (pr_18_2 hP) rfl ?_
        refine ev_iload_1 71 dX11_town_71 ?_
        refine ev_iald 72 dX11_town_72 (kd_19 hZ) ⟨by omega, by have := (ln_19 hZ); omega⟩ ?_
        try simp only [aT, t1, t2, t3, t4, t5, t6, t7, t8, t9, t10, t11, t12, s0, s1, s2, s3, s4, s5, s6]
        refine ev_iret 73 dX11_town_73 ?_ rfl
        exact QP_of (by unfold twA; repeat' split; all_goals first | rfl | omega)
      · refine ev_tswIn 14 74 dX11_town_14 (by decide) (by decide) rfl rfl ?_
        refine ev_aload_0 74 dX11_town_74 ?_
        refine ev_getA 75 1 dX11_town_75 fa_X11_19 (kd_0 hZ) (pr_0_1 hP) rfl ?_
        refine ev_getA 78 0 dX11_town_78 fa_X11_122 (kd_4 hZ) hT0 rfl ?_
        refine ev_getA 81 8 dX11_town_81 fa_X11_156 (kdT_0 hZ hT) (prT_8 hP hT) rfl ?_
        refine ev_iload_1 84 dX11_town_84 ?_
        refine ev_iald 85 dX11_town_85 (kdT_6 hZ hT) ⟨by omega, by have := (lnT_6 hZ hT); omega⟩ ?_
        try simp only [aT, t1, t2, t3, t4, t5, t6, t7, t8, t9, t10, t11, t12, s0, s1, s2, s3, s4, s5, s6]
        refine ev_iret 86 dX11_town_86 ?_ rfl
        exact QP_of (by unfold twA; repeat' split; all_goals first | rfl | omega)
      · refine ev_tswIn 14 87 dX11_town_14 (by decide) (by decide) rfl rfl ?_
        refine ev_aload_0 87 dX11_town_87 ?_
        refine ev_getA 88 1 dX11_town_88 fa_X11_19 (kd_0 hZ) (pr_0_1 hP) rfl ?_
        refine ev_getA 91 0 dX11_town_91 fa_X11_122 (kd_4 hZ) hT0 rfl ?_
        refine ev_getA 94 9 dX11_town_94 fa_X11_159 (kdT_0 hZ hT) (prT_9 hP hT) rfl ?_
        refine ev_iload_1 97 dX11_town_97 ?_
        refine ev_iald 98 dX11_town_98 (kdT_7 hZ hT) ⟨by omega, by have := (lnT_7 hZ hT); omega⟩ ?_
        try simp only [aT, t1, t2, t3, t4, t5, t6, t7, t8, t9, t10, t11, t12, s0, s1, s2, s3, s4, s5, s6]
        refine ev_iret 99 dX11_town_99 ?_ rfl
        exact QP_of (by unfold twA; repeat' split; all_goals first | rfl | omega)
      · refine ev_tswIn 14 100 dX11_town_14 (by decide) (by decide) rfl rfl ?_
        refine ev_aload_0 100 dX11_town_100 ?_
        refine ev_getA 101 1 dX11_town_101 fa_X11_19 (kd_0 hZ) (pr_0_1 hP) rfl ?_
        refine ev_getA 104 1 dX11_town_104 fa_X11_147 (kd_4 hZ) (pr_4_1 hP) rfl ?_
        refine ev_getA 107 3 dX11_town_107 fa_X11_162 (kd_18 hZ) (pr_18_3 hP) rfl ?_
        refine ev_iload_1 110 dX11_town_110 ?_
        refine ev_zald 111 dX11_town_111 (kd_20 hZ) ⟨by omega, by have := (ln_20 hZ); omega⟩ ?_
        try simp only [aT, t1, t2, t3, t4, t5, t6, t7, t8, t9, t10, t11, t12, s0, s1, s2, s3, s4, s5, s6]
        refine ev_if_eq 112 119 dX11_town_112 rfl (fun h112 => ?_) (fun h112 => ?_)
        · refine ev_iconst 119 dX11_town_119 ⟨by decide, by decide⟩ ?_
          refine ev_iret 120 dX11_town_120 ?_ rfl
          exact QP_of (by unfold twA; repeat' split; all_goals first | rfl | omega)
        · refine ev_iconst 115 dX11_town_115 ⟨by decide, by decide⟩ ?_
          refine ev_goto 116 120 dX11_town_116 rfl ?_
          refine ev_iret 120 dX11_town_120 ?_ rfl
          exact QP_of (by unfold twA; repeat' split; all_goals first | rfl | omega)
  · refine ev_iconst 11 dX11_town_11 ⟨by decide, by decide⟩ ?_
    refine ev_iret 12 dX11_town_12 ?_ rfl
    exact QP_of (by unfold twA; repeat' split; all_goals first | rfl | omega)
theorem c_thing {l : Launch} {g : Gt} {d : Nat} {Z : Zt} {I : It} {P : Pt'} {T : Nat} {α σ : Nat → Int → Int} (hsn : SN T α Z I P) (hS : VS I σ) (hWS : WS α σ) (x w : Int) : Mt l g mX11_thing (d + 1) 0 0 [vA 0, vI x, vI w] Z I P (QP (thA σ x w) Z I P) := by
  have hZ := hsn.1
  have hP := hsn.2.1
  have hT0 := hsn.2.2.1
  have hT := hsn.2.2.2.1
  have hW := hsn.2.2.2.2.2.1
  have w0 := hW.1
  have w1 := hW.2.1
  have w5 := hW.2.2.1
  have a0 : I T 0 = α 0 0 := hsn.2.2.2.2.1.at 0
  have a1 : I T 1 = α 0 1 := hsn.2.2.2.2.1.at 1
  have a5 : I T 5 = α 0 5 := hsn.2.2.2.2.1.at 5
  have a4 : I (T + 4) = α 4 := hsn.2.2.2.2.1 4 (by omega)
  have s1 : I 19 = σ 1 := hS 1 (by omega)
  have s2 : I 20 = σ 2 := hS 2 (by omega)
  clear s1 s2
  have aT : I T = α 0 := hsn.2.2.2.2.1 0 (by omega)
  have t1 : I (T + 1) = α 1 := hsn.2.2.2.2.1 1 (by omega)
  have t2 : I (T + 2) = α 2 := hsn.2.2.2.2.1 2 (by omega)
  have t3 : I (T + 3) = α 3 := hsn.2.2.2.2.1 3 (by omega)
  have t4 : I (T + 4) = α 4 := hsn.2.2.2.2.1 4 (by omega)
  have t5 : I (T + 5) = α 5 := hsn.2.2.2.2.1 5 (by omega)
  have t6 : I (T + 6) = α 6 := hsn.2.2.2.2.1 6 (by omega)
  have t7 : I (T + 7) = α 7 := hsn.2.2.2.2.1 7 (by omega)
  have t8 : I (T + 8) = α 8 := hsn.2.2.2.2.1 8 (by omega)
  have t9 : I (T + 9) = α 9 := hsn.2.2.2.2.1 9 (by omega)
  have t10 : I (T + 10) = α 10 := hsn.2.2.2.2.1 10 (by omega)
  have t11 : I (T + 11) = α 11 := hsn.2.2.2.2.1 11 (by omega)
  have t12 : I (T + 12) = α 12 := hsn.2.2.2.2.1 12 (by omega)
  have s0 : I 18 = σ 0 := hS 0 (by omega)
  have s1 : I 19 = σ 1 := hS 1 (by omega)
  have s2 : I 20 = σ 2 := hS 2 (by omega)
  have s3 : I 21 = σ 3 := hS 3 (by omega)
  have s4 : I 22 = σ 4 := hS 4 (by omega)
  have s5 : I 23 = σ 5 := hS 5 (by omega)
  have s6 : I 24 = σ 6 := hS 6 (by omega)
  have w18 := hWS.2.1
  refine Mt.of kmX11_thing (ls := [vA 0, vI x, vI w]) (fun _ => rfl) (fun _ => rfl) (okf_k (okf_k (okf_k (okf_n rfl)))) (fun hok => ?_)
  refine ev_aload_0 0 dX11_thing_0 ?_
  refine ev_getA 1 1 dX11_thing_1 fa_X11_19 (kd_0 hZ) (pr_0_1 hP) rfl ?_
  refine ev_iload_1 4 dX11_thing_4 ?_
  refine ev_cVp_1 5 dX11_thing_5 kmX6_isThing lk_X11_166 (kd_4 hZ) (c_isThing hZ hP _) rfl rfl ?_
  try simp only [aT, t1, t2, t3, t4, t5, t6, t7, t8, t9, t10, t11, t12, s0, s1, s2, s3, s4, s5, s6]
  refine ev_ifb_ne 8 13 dX11_thing_8 rfl (fun h8 => ?_) (fun h8 => ?_)
  · refine ev_iload_2 13 dX11_thing_13 ?_
    refine ev_tsw 14 96 dX11_thing_14 rfl (fun h14 => ?_) (fun c14 hc14 h1 h2 => ?_)
    · refine ev_iconst 96 dX11_thing_96 ⟨by decide, by decide⟩ ?_
      refine ev_iret 97 dX11_thing_97 ?_ rfl
      exact QP_of (by unfold thA; repeat' split; all_goals first | rfl | omega)
    · rcases (show c14 = 0 ∨ c14 = 1 ∨ c14 = 2 ∨ c14 = 3 by omega) with rfl | rfl | rfl | rfl
      · refine ev_tswIn 14 44 dX11_thing_14 (by decide) (by decide) rfl rfl ?_
        refine ev_aload_0 44 dX11_thing_44 ?_
        refine ev_getA 45 1 dX11_thing_45 fa_X11_19 (kd_0 hZ) (pr_0_1 hP) rfl ?_
        refine ev_getA 48 1 dX11_thing_48 fa_X11_147 (kd_4 hZ) (pr_4_1 hP) rfl ?_
        refine ev_getA 51 4 dX11_thing_51 fa_X11_169 (kd_18 hZ) (pr_18_4 hP) rfl ?_
        refine ev_iload_1 54 dX11_thing_54 ?_
        refine ev_iald 55 dX11_thing_55 (kd_21 hZ) ⟨by omega, by have := (ln_21 hZ); omega⟩ ?_
        try simp only [aT, t1, t2, t3, t4, t5, t6, t7, t8, t9, t10, t11, t12, s0, s1, s2, s3, s4, s5, s6]
        refine ev_iret 56 dX11_thing_56 ?_ rfl
        exact QP_of (by unfold thA; repeat' split; all_goals first | rfl | omega)
      · refine ev_tswIn 14 57 dX11_thing_14 (by decide) (by decide) rfl rfl ?_
        refine ev_aload_0 57 dX11_thing_57 ?_
        refine ev_getA 58 1 dX11_thing_58 fa_X11_19 (kd_0 hZ) (pr_0_1 hP) rfl ?_
        refine ev_getA 61 1 dX11_thing_61 fa_X11_147 (kd_4 hZ) (pr_4_1 hP) rfl ?_
        refine ev_getA 64 5 dX11_thing_64 fa_X11_172 (kd_18 hZ) (pr_18_5 hP) rfl ?_
        refine ev_iload_1 67 dX11_thing_67 ?_
        refine ev_iald 68 dX11_thing_68 (kd_22 hZ) ⟨by omega, by have := (ln_22 hZ); omega⟩ ?_
        try simp only [aT, t1, t2, t3, t4, t5, t6, t7, t8, t9, t10, t11, t12, s0, s1, s2, s3, s4, s5, s6]
        refine ev_iret 69 dX11_thing_69 ?_ rfl
        exact QP_of (by unfold thA; repeat' split; all_goals first | rfl | omega)
      · refine ev_tswIn 14 70 dX11_thing_14 (by decide) (by decide) rfl rfl ?_
        refine ev_aload_0 70 dX11_thing_70 ?_
        refine ev_getA 71 1 dX11_thing_71 fa_X11_19 (kd_0 hZ) (pr_0_1 hP) rfl ?_
        refine ev_getA 74 1 dX11_thing_74 fa_X11_147 (kd_4 hZ) (pr_4_1 hP) rfl ?_
        refine ev_getA 77 6 dX11_thing_77 fa_X11_175 (kd_18 hZ) (pr_18_6 hP) rfl ?_
        refine ev_iload_1 80 dX11_thing_80 ?_
        refine ev_iald 81 dX11_thing_81 (kd_23 hZ) ⟨by omega, by have := (ln_23 hZ); omega⟩ ?_
        try simp only [aT, t1, t2, t3, t4, t5, t6, t7, t8, t9, t10, t11, t12, s0, s1, s2, s3, s4, s5, s6]
        refine ev_iret 82 dX11_thing_82 ?_ rfl
        exact QP_of (by unfold thA; repeat' split; all_goals first | rfl | omega)
      · refine ev_tswIn 14 83 dX11_thing_14 (by decide) (by decide) rfl rfl ?_
        refine ev_aload_0 83 dX11_thing_83 ?_
        refine ev_getA 84 1 dX11_thing_84 fa_X11_19 (kd_0 hZ) (pr_0_1 hP) rfl ?_
        refine ev_getA 87 1 dX11_thing_87 fa_X11_147 (kd_4 hZ) (pr_4_1 hP) rfl ?_
        refine ev_getA 90 7 dX11_thing_90 fa_X11_178 (kd_18 hZ) (pr_18_7 hP) rfl ?_
        refine ev_iload_1 93 dX11_thing_93 ?_
        refine ev_iald 94 dX11_thing_94 (kd_24 hZ) ⟨by omega, by have := (ln_24 hZ); omega⟩ ?_
        try simp only [aT, t1, t2, t3, t4, t5, t6, t7, t8, t9, t10, t11, t12, s0, s1, s2, s3, s4, s5, s6]
        refine ev_iret 95 dX11_thing_95 ?_ rfl
        exact QP_of (by unfold thA; repeat' split; all_goals first | rfl | omega)
  · refine ev_iconst 11 dX11_thing_11 ⟨by decide, by decide⟩ ?_
    refine ev_iret 12 dX11_thing_12 ?_ rfl
    exact QP_of (by unfold thA; repeat' split; all_goals first | rfl | omega)
theorem c_anyT {l : Launch} {g : Gt} {d : Nat} {Z : Zt} {I : It} {P : Pt'} {T : Nat} {α σ : Nat → Int → Int} (hsn : SN T α Z I P) (hS : VS I σ) (hWS : WS α σ) (a b : Int) : Mt l g mX11_anyTown (d + 1) 0 0 [vA 0, vI a, vI b] Z I P (QP (b2 (anyT α σ a b)) Z I P) := by
  have hZ := hsn.1
  have hP := hsn.2.1
  have hT0 := hsn.2.2.1
  have hT := hsn.2.2.2.1
  have hW := hsn.2.2.2.2.2.1
  have w0 := hW.1
  have w1 := hW.2.1
  have w5 := hW.2.2.1
  have a0 : I T 0 = α 0 0 := hsn.2.2.2.2.1.at 0
  have a1 : I T 1 = α 0 1 := hsn.2.2.2.2.1.at 1
  have a5 : I T 5 = α 0 5 := hsn.2.2.2.2.1.at 5
  have a4 : I (T + 4) = α 4 := hsn.2.2.2.2.1 4 (by omega)
  have s1 : I 19 = σ 1 := hS 1 (by omega)
  have s2 : I 20 = σ 2 := hS 2 (by omega)
  clear s1 s2
  have aT : I T = α 0 := hsn.2.2.2.2.1 0 (by omega)
  have t1 : I (T + 1) = α 1 := hsn.2.2.2.2.1 1 (by omega)
  have t2 : I (T + 2) = α 2 := hsn.2.2.2.2.1 2 (by omega)
  have t3 : I (T + 3) = α 3 := hsn.2.2.2.2.1 3 (by omega)
  have t4 : I (T + 4) = α 4 := hsn.2.2.2.2.1 4 (by omega)
  have t5 : I (T + 5) = α 5 := hsn.2.2.2.2.1 5 (by omega)
  have t6 : I (T + 6) = α 6 := hsn.2.2.2.2.1 6 (by omega)
  have t7 : I (T + 7) = α 7 := hsn.2.2.2.2.1 7 (by omega)
  have t8 : I (T + 8) = α 8 := hsn.2.2.2.2.1 8 (by omega)
  have t9 : I (T + 9) = α 9 := hsn.2.2.2.2.1 9 (by omega)
  have t10 : I (T + 10) = α 10 := hsn.2.2.2.2.1 10 (by omega)
  have t11 : I (T + 11) = α 11 := hsn.2.2.2.2.1 11 (by omega)
  have t12 : I (T + 12) = α 12 := hsn.2.2.2.2.1 12 (by omega)
  have s0 : I 18 = σ 0 := hS 0 (by omega)
  have s1 : I 19 = σ 1 := hS 1 (by omega)
  have s2 : I 20 = σ 2 := hS 2 (by omega)
  have s3 : I 21 = σ 3 := hS 3 (by omega)
  have s4 : I 22 = σ 4 := hS 4 (by omega)
  have s5 : I 23 = σ 5 := hS 5 (by omega)
  have s6 : I 24 = σ 6 := hS 6 (by omega)
  refine Mt.of kmX11_anyTown (ls := [vA 0, vI a, vI b, vX]) (fun _ => rfl) (fun _ => rfl) (okf_k (okf_k (okf_k (okf_n rfl)))) (fun hok => ?_)
  have loop : ∀ (k : Nat) (t : Int), 0 ≤ t → t + k = α 0 5 → (∀ u, 0 ≤ u → u < t → ¬ (σ 2 u = 0 ∧ a ≤ α 4 u ∧ α 4 u ≤ b)) → Ev l g mX11_anyTown (d + 1) 0 0 Z I P 2 [vA 0, vI a, vI b, vI t] [] (QP (b2 (anyT α σ a b)) Z I P) := by
    intro k
    induction k with
    | zero =>
      intro t h0 h1 g1
      refine ev_iload_3 2 dX11_anyTown_2 ?_
      refine ev_aload_0 3 dX11_anyTown_3 ?_
      refine ev_getA 4 1 dX11_anyTown_4 fa_X11_19 (kd_0 hZ) (pr_0_1 hP) rfl ?_
      refine ev_getA 7 0 dX11_anyTown_7 fa_X11_122 (kd_4 hZ) hT0 rfl ?_
      refine ev_gI 10 5 5 dX11_anyTown_10 fa_X11_264 (kdT_0 hZ hT) rfl rfl rfl ?_
      try simp only [aT, t1, t2, t3, t4, t5, t6, t7, t8, t9, t10, t11, t12, s0, s1, s2, s3, s4, s5, s6]
      refine ev_icmp_ge 13 59 dX11_anyTown_13 rfl (fun h13 => ?_) (fun h13 => ?_)
      · refine ev_iconst 59 dX11_anyTown_59 ⟨by decide, by decide⟩ ?_
        refine ev_zret 60 dX11_anyTown_60 (by first | omega | exact b2_or _) ?_ rfl
        exact QP_of (b2_f (fun ⟨u, z1, z2, z3⟩ => g1 u z1 (by omega) z3)).symm
      · exfalso; omega
    | succ k ih =>
      intro t h0 h1 g1
      have n53 : ¬ (σ 2 t = 0 ∧ a ≤ α 4 t ∧ α 4 t ≤ b) → Ev l g mX11_anyTown (d + 1) 0 0 Z I P 53 [vA 0, vI a, vI b, vI t] [] (QP (b2 (anyT α σ a b)) Z I P) := by
        intro g2
        refine ev_iinc_3 53 dX11_anyTown_53 ⟨by omega, by omega⟩ rfl rfl ?_
        refine ev_goto 56 2 dX11_anyTown_56 rfl ?_
        exact ih _ (by omega) (by omega) (fun u z1 z2 => by
          rcases Int.lt_or_le u t with z | z
          · exact g1 u z1 z
          · obtain rfl : u = t := by omega
            exact g2)
      refine ev_iload_3 2 dX11_anyTown_2 ?_
      refine ev_aload_0 3 dX11_anyTown_3 ?_
      refine ev_getA 4 1 dX11_anyTown_4 fa_X11_19 (kd_0 hZ) (pr_0_1 hP) rfl ?_
      refine ev_getA 7 0 dX11_anyTown_7 fa_X11_122 (kd_4 hZ) hT0 rfl ?_
      refine ev_gI 10 5 5 dX11_anyTown_10 fa_X11_264 (kdT_0 hZ hT) rfl rfl rfl ?_
      try simp only [aT, t1, t2, t3, t4, t5, t6, t7, t8, t9, t10, t11, t12, s0, s1, s2, s3, s4, s5, s6]
      refine ev_icmp_ge 13 59 dX11_anyTown_13 rfl (fun h13 => ?_) (fun h13 => ?_)
      · exfalso; omega
      · refine ev_aload_0 16 dX11_anyTown_16 ?_
        refine ev_getA 17 1 dX11_anyTown_17 fa_X11_19 (kd_0 hZ) (pr_0_1 hP) rfl ?_
        refine ev_getA 20 1 dX11_anyTown_20 fa_X11_147 (kd_4 hZ) (pr_4_1 hP) rfl ?_
        refine ev_getA 23 3 dX11_anyTown_23 fa_X11_162 (kd_18 hZ) (pr_18_3 hP) rfl ?_
        refine ev_iload_3 26 dX11_anyTown_26 ?_
        refine ev_zald 27 dX11_anyTown_27 (kd_20 hZ) ⟨by omega, by have := (ln_20 hZ); omega⟩ ?_
        try simp only [aT, t1, t2, t3, t4, t5, t6, t7, t8, t9, t10, t11, t12, s0, s1, s2, s3, s4, s5, s6]
        refine ev_zne 28 53 dX11_anyTown_28 rfl (fun h28 => ?_) (fun h28 => ?_)
        · exact n53 (fun z => by omega)
        · refine ev_aload_0 31 dX11_anyTown_31 ?_
          refine ev_getA 32 1 dX11_anyTown_32 fa_X11_19 (kd_0 hZ) (pr_0_1 hP) rfl ?_
          refine ev_getA 35 0 dX11_anyTown_35 fa_X11_122 (kd_4 hZ) hT0 rfl ?_
          refine ev_getA 38 6 dX11_anyTown_38 fa_X11_144 (kdT_0 hZ hT) (prT_6 hP hT) rfl ?_
          refine ev_iload_3 41 dX11_anyTown_41 ?_
          refine ev_iald 42 dX11_anyTown_42 (kdT_4 hZ hT) ⟨by omega, by have := (lnT_4 hZ hT); omega⟩ ?_
          try simp only [aT, t1, t2, t3, t4, t5, t6, t7, t8, t9, t10, t11, t12, s0, s1, s2, s3, s4, s5, s6]
          refine ev_iload_1 43 dX11_anyTown_43 ?_
          refine ev_iload_2 44 dX11_anyTown_44 ?_
          refine ev_cSp_3 45 dX11_anyTown_45 kmX11_within lk_X11_111 (c_within _ _ _) rfl rfl ?_
          try simp only [aT, t1, t2, t3, t4, t5, t6, t7, t8, t9, t10, t11, t12, s0, s1, s2, s3, s4, s5, s6]
          refine ev_ifb_eq 48 53 dX11_anyTown_48 rfl (fun h48 => ?_) (fun h48 => ?_)
          · exact n53 (fun z => by omega)
          · refine ev_iconst 51 dX11_anyTown_51 ⟨by decide, by decide⟩ ?_
            refine ev_zret 52 dX11_anyTown_52 (by first | omega | exact b2_or _) ?_ rfl
            exact QP_of (b2_t ⟨t, h0, by omega, by omega, by omega, by omega⟩).symm
  refine ev_iconst 0 dX11_anyTown_0 ⟨by decide, by decide⟩ ?_
  refine ev_istore_3 1 dX11_anyTown_1 rfl rfl ?_
  exact loop (α 0 5).toNat 0 (by omega) (by omega) (fun u z1 z2 => by omega)
theorem c_lack {l : Launch} {g : Gt} {d : Nat} {Z : Zt} {I : It} {P : Pt'} {T : Nat} {α σ : Nat → Int → Int} (hsn : SN T α Z I P) (hS : VS I σ) (hWS : WS α σ) {p : Int} (hp : 0 ≤ p ∧ p ≤ 20) (a b : Int) : Mt l g mX11_lackAt (d + 1) 0 0 [vA 0, vI p, vI a, vI b] Z I P (QP (lkS α σ p a b (α 0 5).toNat) Z I P) := by
  have hZ := hsn.1
  have hP := hsn.2.1
  have hT0 := hsn.2.2.1
  have hT := hsn.2.2.2.1
  have hW := hsn.2.2.2.2.2.1
  have w0 := hW.1
  have w1 := hW.2.1
  have w5 := hW.2.2.1
  have a0 : I T 0 = α 0 0 := hsn.2.2.2.2.1.at 0
  have a1 : I T 1 = α 0 1 := hsn.2.2.2.2.1.at 1
  have a5 : I T 5 = α 0 5 := hsn.2.2.2.2.1.at 5
  have a4 : I (T + 4) = α 4 := hsn.2.2.2.2.1 4 (by omega)
  have s1 : I 19 = σ 1 := hS 1 (by omega)
  have s2 : I 20 = σ 2 := hS 2 (by omega)
  clear s1 s2
  have aT : I T = α 0 := hsn.2.2.2.2.1 0 (by omega)
  have t1 : I (T + 1) = α 1 := hsn.2.2.2.2.1 1 (by omega)
  have t2 : I (T + 2) = α 2 := hsn.2.2.2.2.1 2 (by omega)
  have t3 : I (T + 3) = α 3 := hsn.2.2.2.2.1 3 (by omega)
  have t4 : I (T + 4) = α 4 := hsn.2.2.2.2.1 4 (by omega)
  have t5 : I (T + 5) = α 5 := hsn.2.2.2.2.1 5 (by omega)
  have t6 : I (T + 6) = α 6 := hsn.2.2.2.2.1 6 (by omega)
  have t7 : I (T + 7) = α 7 := hsn.2.2.2.2.1 7 (by omega)
  have t8 : I (T + 8) = α 8 := hsn.2.2.2.2.1 8 (by omega)
  have t9 : I (T + 9) = α 9 := hsn.2.2.2.2.1 9 (by omega)
  have t10 : I (T + 10) = α 10 := hsn.2.2.2.2.1 10 (by omega)
  have t11 : I (T + 11) = α 11 := hsn.2.2.2.2.1 11 (by omega)
  have t12 : I (T + 12) = α 12 := hsn.2.2.2.2.1 12 (by omega)
  have s0 : I 18 = σ 0 := hS 0 (by omega)
  have s1 : I 19 = σ 1 := hS 1 (by omega)
  have s2 : I 20 = σ 2 := hS 2 (by omega)
  have s3 : I 21 = σ 3 := hS 3 (by omega)
  have s4 : I 22 = σ 4 := hS 4 (by omega)
  have s5 : I 23 = σ 5 := hS 5 (by omega)
  have s6 : I 24 = σ 6 := hS 6 (by omega)
  refine Mt.of kmX11_lackAt (ls := [vA 0, vI p, vI a, vI b, vX, vX]) (fun _ => rfl) (fun _ => rfl) (okf_k (okf_k (okf_k (okf_k (okf_n rfl))))) (fun hok => ?_)
  have loop : ∀ (k n : Nat), (n : Int) + k = α 0 5 → Ev l g mX11_lackAt (d + 1) 0 0 Z I P 6 [vA 0, vI p, vI a, vI b, vI (lkS α σ p a b n), vI n] [] (QP (lkS α σ p a b (α 0 5).toNat) Z I P) := by
    intro k
    induction k with
    | zero =>
      intro n h1
      have e : (α 0 5).toNat = n := by omega
      rw [e]
      refine ev_iload_5 6 dX11_lackAt_6 ?_
      refine ev_aload_0 8 dX11_lackAt_8 ?_
      refine ev_getA 9 1 dX11_lackAt_9 fa_X11_19 (kd_0 hZ) (pr_0_1 hP) rfl ?_
      refine ev_getA 12 0 dX11_lackAt_12 fa_X11_122 (kd_4 hZ) hT0 rfl ?_
      refine ev_gI 15 5 5 dX11_lackAt_15 fa_X11_264 (kdT_0 hZ hT) rfl rfl rfl ?_
      try simp only [aT, t1, t2, t3, t4, t5, t6, t7, t8, t9, t10, t11, t12, s0, s1, s2, s3, s4, s5, s6]
      refine ev_icmp_ge 18 105 dX11_lackAt_18 rfl (fun h18 => ?_) (fun h18 => ?_)
      · refine ev_iload_4 105 dX11_lackAt_105 ?_
        refine ev_iret 107 dX11_lackAt_107 ?_ rfl
        exact QP_of rfl
      · exfalso; omega
    | succ k ih =>
      intro n h1
      have hr := lkS_r (σ := σ) (a := a) (b := b) hW hp n (by omega)
      have h2 := hW.2.2.2.2.2.2.1 (n : Int) (by omega) (by omega)
      have n99 : ∀ x, x = lkS α σ p a b (n + 1) → Ev l g mX11_lackAt (d + 1) 0 0 Z I P 99 [vA 0, vI p, vI a, vI b, vI x, vI n] [] (QP (lkS α σ p a b (α 0 5).toNat) Z I P) := by
        intro x e
        subst e
        refine ev_iinc_5 99 dX11_lackAt_99 ⟨by omega, by omega⟩ rfl rfl ?_
        refine ev_goto 102 6 dX11_lackAt_102 rfl ?_
        rw [show (n : Int) + 1 = ((n + 1 : Nat) : Int) by omega]
        exact ih (n + 1) (by omega)
      refine ev_iload_5 6 dX11_lackAt_6 ?_
      refine ev_aload_0 8 dX11_lackAt_8 ?_
      refine ev_getA 9 1 dX11_lackAt_9 fa_X11_19 (kd_0 hZ) (pr_0_1 hP) rfl ?_
      refine ev_getA 12 0 dX11_lackAt_12 fa_X11_122 (kd_4 hZ) hT0 rfl ?_
      refine ev_gI 15 5 5 dX11_lackAt_15 fa_X11_264 (kdT_0 hZ hT) rfl rfl rfl ?_
      try simp only [aT, t1, t2, t3, t4, t5, t6, t7, t8, t9, t10, t11, t12, s0, s1, s2, s3, s4, s5, s6]
      refine ev_icmp_ge 18 105 dX11_lackAt_18 rfl (fun h18 => ?_) (fun h18 => ?_)
      · exfalso; omega
      · refine ev_aload_0 21 dX11_lackAt_21 ?_
        refine ev_getA 22 1 dX11_lackAt_22 fa_X11_19 (kd_0 hZ) (pr_0_1 hP) rfl ?_
        refine ev_getA 25 1 dX11_lackAt_25 fa_X11_147 (kd_4 hZ) (pr_4_1 hP) rfl ?_
        refine ev_getA 28 3 dX11_lackAt_28 fa_X11_162 (kd_18 hZ) (pr_18_3 hP) rfl ?_
        refine ev_iload_5 31 dX11_lackAt_31 ?_
        refine ev_zald 33 dX11_lackAt_33 (kd_20 hZ) ⟨by omega, by have := (ln_20 hZ); omega⟩ ?_
        try simp only [aT, t1, t2, t3, t4, t5, t6, t7, t8, t9, t10, t11, t12, s0, s1, s2, s3, s4, s5, s6]
        refine ev_zne 34 99 dX11_lackAt_34 rfl (fun h34 => ?_) (fun h34 => ?_)
        · first
            | exact n99 _ (if_pos (by omega)).symm
            | exact n99 _ (if_neg (by omega)).symm
        · refine ev_aload_0 37 dX11_lackAt_37 ?_
          refine ev_getA 38 1 dX11_lackAt_38 fa_X11_19 (kd_0 hZ) (pr_0_1 hP) rfl ?_
          refine ev_getA 41 0 dX11_lackAt_41 fa_X11_122 (kd_4 hZ) hT0 rfl ?_
          refine ev_getA 44 6 dX11_lackAt_44 fa_X11_144 (kdT_0 hZ hT) (prT_6 hP hT) rfl ?_
          refine ev_iload_5 47 dX11_lackAt_47 ?_
          refine ev_iald 49 dX11_lackAt_49 (kdT_4 hZ hT) ⟨by omega, by have := (lnT_4 hZ hT); omega⟩ ?_
          try simp only [aT, t1, t2, t3, t4, t5, t6, t7, t8, t9, t10, t11, t12, s0, s1, s2, s3, s4, s5, s6]
          refine ev_iload_2 50 dX11_lackAt_50 ?_
          refine ev_iload_3 51 dX11_lackAt_51 ?_
          refine ev_cSp_3 52 dX11_lackAt_52 kmX11_within lk_X11_111 (c_within _ _ _) rfl rfl ?_
          try simp only [aT, t1, t2, t3, t4, t5, t6, t7, t8, t9, t10, t11, t12, s0, s1, s2, s3, s4, s5, s6]
          refine ev_ifb_ne 55 61 dX11_lackAt_55 rfl (fun h55 => ?_) (fun h55 => ?_)
          · refine ev_iload_4 61 dX11_lackAt_61 ?_
            refine ev_iconst 63 dX11_lackAt_63 ⟨by decide, by decide⟩ ?_
            refine ev_aload_0 64 dX11_lackAt_64 ?_
            refine ev_getA 65 1 dX11_lackAt_65 fa_X11_19 (kd_0 hZ) (pr_0_1 hP) rfl ?_
            refine ev_getA 68 0 dX11_lackAt_68 fa_X11_122 (kd_4 hZ) hT0 rfl ?_
            refine ev_getA 71 9 dX11_lackAt_71 fa_X11_159 (kdT_0 hZ hT) (prT_9 hP hT) rfl ?_
            refine ev_iload_5 74 dX11_lackAt_74 ?_
            refine ev_iald 76 dX11_lackAt_76 (kdT_7 hZ hT) ⟨by omega, by have := (lnT_7 hZ hT); omega⟩ ?_
            try simp only [aT, t1, t2, t3, t4, t5, t6, t7, t8, t9, t10, t11, t12, s0, s1, s2, s3, s4, s5, s6]
            refine ev_iload_1 77 dX11_lackAt_77 ?_
            refine ev_isub 78 dX11_lackAt_78 ⟨by omega, by omega⟩ ?_
            refine ev_cSp_2 79 dX11_lackAt_79 kmJ9_max_7cf53 lk_X11_304 (c_max _ _) rfl rfl ?_
            try simp only [aT, t1, t2, t3, t4, t5, t6, t7, t8, t9, t10, t11, t12, s0, s1, s2, s3, s4, s5, s6]
            refine ev_aload_0 82 dX11_lackAt_82 ?_
            refine ev_getA 83 1 dX11_lackAt_83 fa_X11_19 (kd_0 hZ) (pr_0_1 hP) rfl ?_
            refine ev_getA 86 0 dX11_lackAt_86 fa_X11_122 (kd_4 hZ) hT0 rfl ?_
            refine ev_getA 89 8 dX11_lackAt_89 fa_X11_156 (kdT_0 hZ hT) (prT_8 hP hT) rfl ?_
            refine ev_iload_5 92 dX11_lackAt_92 ?_
            refine ev_iald 94 dX11_lackAt_94 (kdT_6 hZ hT) ⟨by omega, by have := (lnT_6 hZ hT); omega⟩ ?_
            try simp only [aT, t1, t2, t3, t4, t5, t6, t7, t8, t9, t10, t11, t12, s0, s1, s2, s3, s4, s5, s6]
            refine ev_isub 95 dX11_lackAt_95 ⟨by omega, by omega⟩ ?_
            refine ev_iadd 96 dX11_lackAt_96 ⟨by omega, by omega⟩ ?_
            refine ev_istore_4 97 dX11_lackAt_97 rfl rfl ?_
            first
              | exact n99 _ (if_pos (by omega)).symm
              | exact n99 _ (if_neg (by omega)).symm
          · refine ev_goto 58 99 dX11_lackAt_58 rfl ?_
            first
              | exact n99 _ (if_pos (by omega)).symm
              | exact n99 _ (if_neg (by omega)).symm
  refine ev_iconst 0 dX11_lackAt_0 ⟨by decide, by decide⟩ ?_
  refine ev_istore_4 1 dX11_lackAt_1 rfl rfl ?_
  refine ev_iconst 3 dX11_lackAt_3 ⟨by decide, by decide⟩ ?_
  refine ev_istore_5 4 dX11_lackAt_4 rfl rfl ?_
  exact loop (α 0 5).toNat 0 (by omega)
theorem c_clp {l : Launch} {g : Gt} {d : Nat} {Z : Zt} {I : It} {P : Pt'} {T : Nat} {α σ : Nat → Int → Int} (hsn : SN T α Z I P) (hS : VS I σ) (hWS : WS α σ) (a b : Int) : Mt l g mX11_clearingPrice (d + 2) 0 0 [vA 0, vI a, vI b] Z I P (QB (CP α σ a b) Z I P) := by
  have hZ := hsn.1
  have hP := hsn.2.1
  have hT0 := hsn.2.2.1
  have hT := hsn.2.2.2.1
  have hW := hsn.2.2.2.2.2.1
  have w0 := hW.1
  have w1 := hW.2.1
  have w5 := hW.2.2.1
  refine Mt.of kmX11_clearingPrice (ls := [vA 0, vI a, vI b, vX]) (fun _ => rfl) (fun _ => rfl) (okf_k (okf_k (okf_k (okf_n rfl)))) (fun hok => ?_)
  have loop : anyT α σ a b → ∀ (k : Nat) (p : Int), 0 ≤ p → p + k = 21 → (∀ q, 0 ≤ q → q < p → ¬ (lkS α σ q a b (α 0 5).toNat ≤ 0)) → Ev l g mX11_clearingPrice (d + 2) 0 0 Z I P 14 [vA 0, vI a, vI b, vI p] [] (QB (CP α σ a b) Z I P) := by
    intro ha k
    induction k with
    | zero =>
      intro p h0 h1 g1
      obtain rfl : p = 21 := by omega
      refine ev_iload_3 14 dX11_clearingPrice_14 ?_
      refine ev_bipush 15 dX11_clearingPrice_15 ⟨by decide, by decide⟩ ?_
      refine ev_icmp_gt 17 38 dX11_clearingPrice_17 rfl (fun h17 => ?_) (fun h17 => ?_)
      · refine ev_bipush 38 dX11_clearingPrice_38 ⟨by decide, by decide⟩ ?_
        refine ev_iret 40 dX11_clearingPrice_40 ?_ rfl
        exact QB_of (Or.inr ⟨ha, Or.inl ⟨rfl, g1⟩⟩)
      · exfalso; omega
    | succ k ih =>
      intro p h0 h1 g1
      refine ev_iload_3 14 dX11_clearingPrice_14 ?_
      refine ev_bipush 15 dX11_clearingPrice_15 ⟨by decide, by decide⟩ ?_
      refine ev_icmp_gt 17 38 dX11_clearingPrice_17 rfl (fun h17 => ?_) (fun h17 => ?_)
      · exfalso; omega
      · refine ev_aload_0 20 dX11_clearingPrice_20 ?_
        refine ev_iload_3 21 dX11_clearingPrice_21 ?_
        refine ev_iload_1 22 dX11_clearingPrice_22 ?_
        refine ev_iload_2 23 dX11_clearingPrice_23 ?_
        refine ev_cVp_3 24 dX11_clearingPrice_24 kmX11_lackAt lk_X11_342 (kd_0 hZ) (c_lack hsn hS hWS (by omega) _ _) rfl rfl ?_
        refine ev_if_gt 27 32 dX11_clearingPrice_27 rfl (fun h27 => ?_) (fun h27 => ?_)
        · refine ev_iinc_3 32 dX11_clearingPrice_32 ⟨by omega, by omega⟩ rfl rfl ?_
          refine ev_goto 35 14 dX11_clearingPrice_35 rfl ?_
          exact ih _ (by omega) (by omega) (fun q z1 z2 => by
            rcases Int.lt_or_le q p with z | z
            · exact g1 q z1 z
            · obtain rfl : q = p := by omega
              omega)
        · refine ev_iload_3 30 dX11_clearingPrice_30 ?_
          refine ev_iret 31 dX11_clearingPrice_31 ?_ rfl
          exact QB_of (Or.inr ⟨ha, Or.inr ⟨h0, by omega, by omega, g1⟩⟩)
  refine ev_aload_0 0 dX11_clearingPrice_0 ?_
  refine ev_iload_1 1 dX11_clearingPrice_1 ?_
  refine ev_iload_2 2 dX11_clearingPrice_2 ?_
  refine ev_cVp_2 3 dX11_clearingPrice_3 kmX11_anyTown lk_X11_339 (kd_0 hZ) (c_anyT hsn hS hWS _ _) rfl rfl ?_
  refine ev_ifb_ne 6 12 dX11_clearingPrice_6 rfl (fun h6 => ?_) (fun h6 => ?_)
  · refine ev_iconst 12 dX11_clearingPrice_12 ⟨by decide, by decide⟩ ?_
    refine ev_istore_3 13 dX11_clearingPrice_13 rfl rfl ?_
    exact loop h6 21 0 (by omega) (by omega) (fun q z1 z2 => by omega)
  · refine ev_bipush 9 dX11_clearingPrice_9 ⟨by decide, by decide⟩ ?_
    refine ev_iret 11 dX11_clearingPrice_11 ?_ rfl
    exact QB_of (Or.inl ⟨h6, rfl⟩)
theorem c_clear {l : Launch} {g : Gt} {d : Nat} {Z : Zt} {I : It} {P : Pt'} {T : Nat} {α σ : Nat → Int → Int} (hsn : SN T α Z I P) (hS : VS I σ) (hWS : WS α σ) (a b : Int) : Mt l g mX11_clear (d + 3) 0 0 [vA 0, vI a, vI b] Z I P (QB (fun r => (((0 ≤ a ∧ a < α 0 1) ∧ (0 ≤ b ∧ b < α 0 1) ∧ a ≤ b) ∧ CP α σ a b r) ∨ (¬ ((0 ≤ a ∧ a < α 0 1) ∧ (0 ≤ b ∧ b < α 0 1) ∧ a ≤ b) ∧ r = -1)) Z I P) := by
  have hZ := hsn.1
  have hP := hsn.2.1
  have hT0 := hsn.2.2.1
  have hT := hsn.2.2.2.1
  have hW := hsn.2.2.2.2.2.1
  have w0 := hW.1
  have w1 := hW.2.1
  have w5 := hW.2.2.1
  have a0 : I T 0 = α 0 0 := hsn.2.2.2.2.1.at 0
  have a1 : I T 1 = α 0 1 := hsn.2.2.2.2.1.at 1
  have a5 : I T 5 = α 0 5 := hsn.2.2.2.2.1.at 5
  have a4 : I (T + 4) = α 4 := hsn.2.2.2.2.1 4 (by omega)
  have s1 : I 19 = σ 1 := hS 1 (by omega)
  have s2 : I 20 = σ 2 := hS 2 (by omega)
  clear s1 s2
  have aT : I T = α 0 := hsn.2.2.2.2.1 0 (by omega)
  have t1 : I (T + 1) = α 1 := hsn.2.2.2.2.1 1 (by omega)
  have t2 : I (T + 2) = α 2 := hsn.2.2.2.2.1 2 (by omega)
  have t3 : I (T + 3) = α 3 := hsn.2.2.2.2.1 3 (by omega)
  have t4 : I (T + 4) = α 4 := hsn.2.2.2.2.1 4 (by omega)
  have t5 : I (T + 5) = α 5 := hsn.2.2.2.2.1 5 (by omega)
  have t6 : I (T + 6) = α 6 := hsn.2.2.2.2.1 6 (by omega)
  have t7 : I (T + 7) = α 7 := hsn.2.2.2.2.1 7 (by omega)
  have t8 : I (T + 8) = α 8 := hsn.2.2.2.2.1 8 (by omega)
  have t9 : I (T + 9) = α 9 := hsn.2.2.2.2.1 9 (by omega)
  have t10 : I (T + 10) = α 10 := hsn.2.2.2.2.1 10 (by omega)
  have t11 : I (T + 11) = α 11 := hsn.2.2.2.2.1 11 (by omega)
  have t12 : I (T + 12) = α 12 := hsn.2.2.2.2.1 12 (by omega)
  have s0 : I 18 = σ 0 := hS 0 (by omega)
  have s1 : I 19 = σ 1 := hS 1 (by omega)
  have s2 : I 20 = σ 2 := hS 2 (by omega)
  have s3 : I 21 = σ 3 := hS 3 (by omega)
  have s4 : I 22 = σ 4 := hS 4 (by omega)
  have s5 : I 23 = σ 5 := hS 5 (by omega)
  have s6 : I 24 = σ 6 := hS 6 (by omega)
  refine Mt.of kmX11_clear (ls := [vA 0, vI a, vI b]) (fun _ => rfl) (fun _ => rfl) (okf_k (okf_k (okf_k (okf_n rfl)))) (fun hok => ?_)
  refine ev_aload_0 0 dX11_clear_0 ?_
  refine ev_getA 1 1 dX11_clear_1 fa_X11_19 (kd_0 hZ) (pr_0_1 hP) rfl ?_
  refine ev_iload_1 4 dX11_clear_4 ?_
  refine ev_cVp_1 5 dX11_clear_5 kmX6_isLevel lk_X11_128 (kd_4 hZ) (c_isLevel hZ hP hT0 hT _) rfl rfl ?_
  try simp only [aT, t1, t2, t3, t4, t5, t6, t7, t8, t9, t10, t11, t12, s0, s1, s2, s3, s4, s5, s6]
  refine ev_ifb_eq 8 27 dX11_clear_8 rfl (fun h8 => ?_) (fun h8 => ?_)
  · refine ev_iconst 27 dX11_clear_27 ⟨by decide, by decide⟩ ?_
    refine ev_iret 28 dX11_clear_28 ?_ rfl
    exact QB_of (Or.inr ⟨by omega, rfl⟩)
  · refine ev_aload_0 11 dX11_clear_11 ?_
    refine ev_getA 12 1 dX11_clear_12 fa_X11_19 (kd_0 hZ) (pr_0_1 hP) rfl ?_
    refine ev_iload_2 15 dX11_clear_15 ?_
    refine ev_cVp_1 16 dX11_clear_16 kmX6_isLevel lk_X11_128 (kd_4 hZ) (c_isLevel hZ hP hT0 hT _) rfl rfl ?_
    try simp only [aT, t1, t2, t3, t4, t5, t6, t7, t8, t9, t10, t11, t12, s0, s1, s2, s3, s4, s5, s6]
    refine ev_ifb_eq 19 27 dX11_clear_19 rfl (fun h19 => ?_) (fun h19 => ?_)
    · refine ev_iconst 27 dX11_clear_27 ⟨by decide, by decide⟩ ?_
      refine ev_iret 28 dX11_clear_28 ?_ rfl
      exact QB_of (Or.inr ⟨by omega, rfl⟩)
    · refine ev_iload_2 22 dX11_clear_22 ?_
      refine ev_iload_1 23 dX11_clear_23 ?_
      refine ev_icmp_ge 24 29 dX11_clear_24 rfl (fun h24 => ?_) (fun h24 => ?_)
      · refine ev_aload_0 29 dX11_clear_29 ?_
        refine ev_iload_1 30 dX11_clear_30 ?_
        refine ev_iload_2 31 dX11_clear_31 ?_
        refine ev_cVb_2 32 dX11_clear_32 kmX11_clearingPrice lk_X11_301 (kd_0 hZ) (c_clp hsn hS hWS _ _) rfl rfl (fun x32 f32 => ?_)
        try simp only [aT, t1, t2, t3, t4, t5, t6, t7, t8, t9, t10, t11, t12, s0, s1, s2, s3, s4, s5, s6]
        refine ev_iret 35 dX11_clear_35 ?_ rfl
        exact QB_of (Or.inl ⟨by omega, f32⟩)
      · refine ev_iconst 27 dX11_clear_27 ⟨by decide, by decide⟩ ?_
        refine ev_iret 28 dX11_clear_28 ?_ rfl
        exact QB_of (Or.inr ⟨by omega, rfl⟩)
theorem c_gain {l : Launch} {g : Gt} {d : Nat} {Z : Zt} {I : It} {P : Pt'} {T : Nat} {α σ : Nat → Int → Int} (hsn : SN T α Z I P) (hS : VS I σ) (hWS : WS α σ) (a : Int) : Mt l g mX11_gain (d + 3) 0 0 [vA 0, vI a] Z I P (QB (fun r => ((1 ≤ a ∧ a < α 0 1) ∧ ∃ p q, CP α σ a (α 0 1 - 1) p ∧ CP α σ 0 (a - 1) q ∧ r = if p = -4 ∨ q = -4 then -4 else max 0 (p - q)) ∨ (¬ (1 ≤ a ∧ a < α 0 1) ∧ r = -1)) Z I P) := by
  have hZ := hsn.1
  have hP := hsn.2.1
  have hT0 := hsn.2.2.1
  have hT := hsn.2.2.2.1
  have hW := hsn.2.2.2.2.2.1
  have w0 := hW.1
  have w1 := hW.2.1
  have w5 := hW.2.2.1
  have a0 : I T 0 = α 0 0 := hsn.2.2.2.2.1.at 0
  have a1 : I T 1 = α 0 1 := hsn.2.2.2.2.1.at 1
  have a5 : I T 5 = α 0 5 := hsn.2.2.2.2.1.at 5
  have a4 : I (T + 4) = α 4 := hsn.2.2.2.2.1 4 (by omega)
  have s1 : I 19 = σ 1 := hS 1 (by omega)
  have s2 : I 20 = σ 2 := hS 2 (by omega)
  clear s1 s2
  have aT : I T = α 0 := hsn.2.2.2.2.1 0 (by omega)
  have t1 : I (T + 1) = α 1 := hsn.2.2.2.2.1 1 (by omega)
  have t2 : I (T + 2) = α 2 := hsn.2.2.2.2.1 2 (by omega)
  have t3 : I (T + 3) = α 3 := hsn.2.2.2.2.1 3 (by omega)
  have t4 : I (T + 4) = α 4 := hsn.2.2.2.2.1 4 (by omega)
  have t5 : I (T + 5) = α 5 := hsn.2.2.2.2.1 5 (by omega)
  have t6 : I (T + 6) = α 6 := hsn.2.2.2.2.1 6 (by omega)
  have t7 : I (T + 7) = α 7 := hsn.2.2.2.2.1 7 (by omega)
  have t8 : I (T + 8) = α 8 := hsn.2.2.2.2.1 8 (by omega)
  have t9 : I (T + 9) = α 9 := hsn.2.2.2.2.1 9 (by omega)
  have t10 : I (T + 10) = α 10 := hsn.2.2.2.2.1 10 (by omega)
  have t11 : I (T + 11) = α 11 := hsn.2.2.2.2.1 11 (by omega)
  have t12 : I (T + 12) = α 12 := hsn.2.2.2.2.1 12 (by omega)
  have s0 : I 18 = σ 0 := hS 0 (by omega)
  have s1 : I 19 = σ 1 := hS 1 (by omega)
  have s2 : I 20 = σ 2 := hS 2 (by omega)
  have s3 : I 21 = σ 3 := hS 3 (by omega)
  have s4 : I 22 = σ 4 := hS 4 (by omega)
  have s5 : I 23 = σ 5 := hS 5 (by omega)
  have s6 : I 24 = σ 6 := hS 6 (by omega)
  have cpr : (∀ a b r, CP α σ a b r → r = -4 ∨ (0 ≤ r ∧ r ≤ 20)) := fun a b r h => by
    rcases h with ⟨_, h⟩ | ⟨_, ⟨h, _⟩ | ⟨h1, h2, _⟩⟩ <;> omega
  refine Mt.of kmX11_gain (ls := [vA 0, vI a, vX, vX]) (fun _ => rfl) (fun _ => rfl) (okf_k (okf_k (okf_n rfl))) (fun hok => ?_)
  refine ev_aload_0 0 dX11_gain_0 ?_
  refine ev_getA 1 1 dX11_gain_1 fa_X11_19 (kd_0 hZ) (pr_0_1 hP) rfl ?_
  refine ev_iload_1 4 dX11_gain_4 ?_
  refine ev_cVp_1 5 dX11_gain_5 kmX6_isLevel lk_X11_128 (kd_4 hZ) (c_isLevel hZ hP hT0 hT _) rfl rfl ?_
  try simp only [aT, t1, t2, t3, t4, t5, t6, t7, t8, t9, t10, t11, t12, s0, s1, s2, s3, s4, s5, s6]
  refine ev_ifb_eq 8 16 dX11_gain_8 rfl (fun h8 => ?_) (fun h8 => ?_)
  · refine ev_iconst 16 dX11_gain_16 ⟨by decide, by decide⟩ ?_
    refine ev_iret 17 dX11_gain_17 ?_ rfl
    exact QB_of (Or.inr ⟨by omega, rfl⟩)
  · refine ev_iload_1 11 dX11_gain_11 ?_
    refine ev_iconst 12 dX11_gain_12 ⟨by decide, by decide⟩ ?_
    refine ev_icmp_ge 13 18 dX11_gain_13 rfl (fun h13 => ?_) (fun h13 => ?_)
    · refine ev_aload_0 18 dX11_gain_18 ?_
      refine ev_iload_1 19 dX11_gain_19 ?_
      refine ev_aload_0 20 dX11_gain_20 ?_
      refine ev_getA 21 1 dX11_gain_21 fa_X11_19 (kd_0 hZ) (pr_0_1 hP) rfl ?_
      refine ev_getA 24 0 dX11_gain_24 fa_X11_122 (kd_4 hZ) hT0 rfl ?_
      refine ev_gI 27 1 1 dX11_gain_27 fa_X11_125 (kdT_0 hZ hT) rfl rfl rfl ?_
      try simp only [aT, t1, t2, t3, t4, t5, t6, t7, t8, t9, t10, t11, t12, s0, s1, s2, s3, s4, s5, s6]
      refine ev_iconst 30 dX11_gain_30 ⟨by decide, by decide⟩ ?_
      refine ev_isub 31 dX11_gain_31 ⟨by omega, by omega⟩ ?_
      refine ev_cVb_2 32 dX11_gain_32 kmX11_clearingPrice lk_X11_301 (kd_0 hZ) (c_clp hsn hS hWS _ _) rfl rfl (fun x32 f32 => ?_)
      try simp only [aT, t1, t2, t3, t4, t5, t6, t7, t8, t9, t10, t11, t12, s0, s1, s2, s3, s4, s5, s6]
      have r32 := cpr _ _ _ f32
      refine ev_istore_2 35 dX11_gain_35 rfl rfl ?_
      refine ev_aload_0 36 dX11_gain_36 ?_
      refine ev_iconst 37 dX11_gain_37 ⟨by decide, by decide⟩ ?_
      refine ev_iload_1 38 dX11_gain_38 ?_
      refine ev_iconst 39 dX11_gain_39 ⟨by decide, by decide⟩ ?_
      refine ev_isub 40 dX11_gain_40 ⟨by omega, by omega⟩ ?_
      refine ev_cVb_2 41 dX11_gain_41 kmX11_clearingPrice lk_X11_301 (kd_0 hZ) (c_clp hsn hS hWS _ _) rfl rfl (fun x41 f41 => ?_)
      try simp only [aT, t1, t2, t3, t4, t5, t6, t7, t8, t9, t10, t11, t12, s0, s1, s2, s3, s4, s5, s6]
      have r41 := cpr _ _ _ f41
      refine ev_istore_3 44 dX11_gain_44 rfl rfl ?_
      refine ev_iload_2 45 dX11_gain_45 ?_
      refine ev_bipush 46 dX11_gain_46 ⟨by decide, by decide⟩ ?_
      refine ev_icmp_eq 48 57 dX11_gain_48 rfl (fun h48 => ?_) (fun h48 => ?_)
      · refine ev_bipush 57 dX11_gain_57 ⟨by decide, by decide⟩ ?_
        refine ev_iret 59 dX11_gain_59 ?_ rfl
        exact QB_of (Or.inl ⟨by omega, x32, x41, f32, f41, (if_pos (by omega)).symm⟩)
      · refine ev_iload_3 51 dX11_gain_51 ?_
        refine ev_bipush 52 dX11_gain_52 ⟨by decide, by decide⟩ ?_
        refine ev_jne 54 60 dX11_gain_54 rfl (fun h54 => ?_) (fun h54 => ?_)
        · refine ev_iconst 60 dX11_gain_60 ⟨by decide, by decide⟩ ?_
          refine ev_iload_2 61 dX11_gain_61 ?_
          refine ev_iload_3 62 dX11_gain_62 ?_
          refine ev_isub 63 dX11_gain_63 ⟨by omega, by omega⟩ ?_
          refine ev_cSp_2 64 dX11_gain_64 kmJ9_max_7cf53 lk_X11_304 (c_max _ _) rfl rfl ?_
          try simp only [aT, t1, t2, t3, t4, t5, t6, t7, t8, t9, t10, t11, t12, s0, s1, s2, s3, s4, s5, s6]
          refine ev_iret 67 dX11_gain_67 ?_ rfl
          exact QB_of (Or.inl ⟨by omega, x32, x41, f32, f41, (if_neg (by omega)).symm⟩)
        · refine ev_bipush 57 dX11_gain_57 ⟨by decide, by decide⟩ ?_
          refine ev_iret 59 dX11_gain_59 ?_ rfl
          exact QB_of (Or.inl ⟨by omega, x32, x41, f32, f41, (if_pos (by omega)).symm⟩)
    · refine ev_iconst 16 dX11_gain_16 ⟨by decide, by decide⟩ ?_
      refine ev_iret 17 dX11_gain_17 ?_ rfl
      exact QB_of (Or.inr ⟨by omega, rfl⟩)
