/-! the reference: sound from everywhere to everywhere -/
theorem SO.rf {α : Nat → Int → Int} {I : It} (h : HF I α) : SO α I I := ⟨h, fun _ _ => rfl, fun _ _ _ => rfl⟩
theorem SO.rt {α σ : Nat → Int → Int} {I J : It} {b : Int} (h : SO α I J) (k : RT b I α σ) : RT b J α σ := fun t a c => by rw [h.2.2 138 (by omega) (by omega)]; exact k t a c
theorem m_sounds {l : Launch} {g : Gt} {d : Nat} {Z : Zt} {I : It} {P : Pt'} (hM : LayM Z) (hN : LayQ P) {α : Nat → Int → Int} (hV : VM I α) (hW : WF α) (hF : HF I α) : Mt l g mX12_sounds (d + 4) 0 0 [vA 131] Z I P (QV (fun I' => SO α I I' ∧ FO I' α ∧ I' 131 16 = 1) Z P) := by
  have v0 := hV.1.1
  have v1 := hV.1.2.1
  have v2 := hV.1.2.2.1
  have v3 := hV.1.2.2.2.1
  have v4 := hV.1.2.2.2.2
  have w0 := hW.1
  have w1 := hW.2.1
  have w5 := hW.2.2.1
  have w10 := hW.2.2.2.1
  refine Mt.of kmX12_sounds (ls := [vA 131, vX, vX]) (fun _ => rfl) (fun _ => rfl) (okf_k (okf_n rfl)) (fun hok => ?_)
  have fin93 : ∀ (J : It) (vx vy : Vv), (∀ a, a ≠ 141 → J a = I a) → FO J α → Ev l g mX12_sounds (d + 4) 0 0 Z J P 93 [vA 131, vx, vy] [] (QV (fun I' => SO α I I' ∧ FO I' α ∧ I' 131 16 = 1) Z P) := by
    intro J vx vy fr hd
    refine ev_aload_0 93 dX12_sounds_93 ?_
    refine ev_iconst 94 dX12_sounds_94 ⟨by decide, by decide⟩ ?_
    refine ev_pZ 95 16 16 dX12_sounds_95 fp_X12_101 (kd_131 hM) (by omega) rfl rfl ?_
    refine ev_vret 98 dX12_sounds_98 ?_ rfl
    exact QV_of ⟨⟨Or.inr ⟨upI_s _ _ _ _, fun s v a b c q => by rw [upI_A (by omega)]; exact hd s v a b c q⟩, fun j z => by rw [upI_k z, fr 131 (by omega)], fun a z1 z2 => by rw [upI_A z1]; exact fr a z2⟩, fun s v a b c q => by rw [upI_A (by omega)]; exact hd s v a b c q, upI_s _ _ _ _⟩
  rcases hF with h16 | ⟨h16, hfo⟩
  · have outer : ∀ (r : Nat) (e : Int) (J : It) (vx : Vv), 0 ≤ e → e + r = 24 * α 0 1 → (∀ s v, 0 ≤ s → s < e → 0 ≤ v → v < 192 → J 141 (192 * s + v) = dS 100000 α s v) → (∀ a, a ≠ 141 → J a = I a) → Ev l g mX12_sounds (d + 4) 0 0 Z J P 2 [vA 131, vI e, vx] [] (QV (fun I' => SO α I I' ∧ FO I' α ∧ I' 131 16 = 1) Z P) := by
      intro r
      induction r with
      | zero =>
        intro e J vx h0 h1 hd fr
        have hV : VM J α := hV.fr (fr 133 (by omega)) (fr 134 (by omega)) (fr 135 (by omega)) (fr 136 (by omega))
        have v1 : J 133 1 = α 0 1 := hV.1.2.1
        have j16 : J 131 16 = 0 := by rw [fr 131 (by omega)]; exact h16
        refine ev_iload_1 2 dX12_sounds_2 ?_
        refine ev_bipush 3 dX12_sounds_3 ⟨by decide, by decide⟩ ?_
        refine ev_aload_0 5 dX12_sounds_5 ?_
        refine ev_getA 6 3 dX12_sounds_6 fa_X12_13 (kd_131 hM) (pr_131_3 hN) rfl ?_
        refine ev_iconst 9 dX12_sounds_9 ⟨by decide, by decide⟩ ?_
        refine ev_iald 10 dX12_sounds_10 (kd_133 hM) ⟨by omega, by have := (ln_133 hM); omega⟩ ?_
        try simp only [v1, j16]
        refine ev_imul 11 dX12_sounds_11 ⟨by omega, by omega⟩ ?_
        refine ev_icmp_ge 12 93 dX12_sounds_12 rfl (fun h12 => ?_) (fun h12 => ?_)
        · exact fin93 J _ _ fr (fun s v a b c q => hd s v a (by omega) c q)
        · exfalso; omega
      | succ r ihO =>
        intro e J vx h0 h1 hd fr
        have wl : ∀ (N : Nat) (y : Int) (J : It), Uns 100000 α e (bt J e) + y < N → (∀ v, 0 ≤ v → v < 192 → bt J e v = 100000 ∨ Rch α e v (bt J e v)) → (∀ v, 0 ≤ v → v < 192 → bt J e v ≤ 100000) → (op α e → bt J e e = 0) → (y = 0 ∨ y = 1) → (y = 0 → ∀ v, 0 ≤ v → v < 192 → bt J e v = dS 100000 α e v) → (∀ s v, 0 ≤ s → s < e → 0 ≤ v → v < 192 → J 141 (192 * s + v) = dS 100000 α s v) → (∀ a, a ≠ 141 → J a = I a) → Ev l g mX12_sounds (d + 4) 0 0 Z J P 74 [vA 131, vI e, vI y] [] (QV (fun I' => SO α I I' ∧ FO I' α ∧ I' 131 16 = 1) Z P) := by
          intro N
          induction N with
          | zero =>
            intro y J hNu hsd hle hz hy hy0 hd fr
            have := Uns_r (cap := 100000) (α := α) (s := e) (β := bt J e)
            exfalso; omega
          | succ N ih =>
            intro y J hNu hsd hle hz hy hy0 hd fr
            have hV : VM J α := hV.fr (fr 133 (by omega)) (fr 134 (by omega)) (fr 135 (by omega)) (fr 136 (by omega))
            have v1 : J 133 1 = α 0 1 := hV.1.2.1
            have j16 : J 131 16 = 0 := by rw [fr 131 (by omega)]; exact h16
            refine ev_iload_2 74 dX12_sounds_74 ?_
            refine ev_if_eq 75 87 dX12_sounds_75 rfl (fun h75 => ?_) (fun h75 => ?_)
            · refine ev_iinc_1 87 dX12_sounds_87 ⟨by omega, by omega⟩ rfl rfl ?_
              refine ev_goto 90 2 dX12_sounds_90 rfl ?_
              refine ihO (e + 1) J _ (by omega) (by omega) (fun s v a b c q => ?_) fr
              by_cases z : s = e
              · subst z; exact hy0 (by omega) v c q
              · exact hd s v a (by omega) c q
            · refine ev_aload_0 78 dX12_sounds_78 ?_
              refine ev_iload_1 79 dX12_sounds_79 ?_
              refine ev_cVm_1 80 dX12_sounds_80 kmX12_isSpread lk_X12_190 (kd_131 hM) (m_isSpread hM hN hV hW (by omega) hsd hle) rfl rfl (fun x80 I80 f80 => ?_)
              obtain ⟨g1, g2, g3, g4⟩ := f80
              have nx0 : ∀ v, 0 ≤ v → v < 192 → bt I80 e v ≤ 100000 := fun v a b => Int.le_trans (g1.2.1 v a b) (hle v a b)
              have nz : op α e → bt I80 e e = 0 := fun z => by
                have z1 := g1.2.1 e (by omega) (by omega)
                rw [hz z] at z1
                rcases g1.1 e (by omega) (by omega) with q | ⟨n, q⟩
                · omega
                · have := Wk_nn hW n _ _ q; omega
              have nd : ∀ s v, 0 ≤ s → s < e → 0 ≤ v → v < 192 → I80 141 (192 * s + v) = dS 100000 α s v := fun s v a b c q => by rw [g4 _ (by omega)]; exact hd s v a b c q
              have nf : ∀ a, a ≠ 141 → I80 a = I a := fun a z => (g3 a z).trans (fr a z)
              have hw : Sw 100000 α e (bt J e) (bt I80 e) := ⟨g1.1, g1.2.1, g2⟩
              have hun := sweep_dn hW (by omega) hsd hle hz hw
              have h0y : x80 = 0 → ∀ v, 0 ≤ v → v < 192 → bt I80 e v = dS 100000 α e v := fun z => fix_d hW g1.1 nx0 nz (fun u v w ed => by
                have z1 := gr_192 hW ed.1
                have z2 := g1.2.2.2.1 z u z1.1 z1.2
                have z3 := g2 u v w ed
                omega)
              have h1y : x80 = 1 → Uns 100000 α e (bt I80 e) + 1 ≤ Uns 100000 α e (bt J e) := fun z => by
                rcases hun with q | q
                · exact q
                · exfalso
                  obtain ⟨v, z1, z2, z3⟩ := g1.2.2.2.2 z
                  have z4 := q v z1 z2
                  have z5 := le_of_sound (cap := 100000) hW (g1.1 v z1 z2)
                  omega
              refine ev_istore_2 83 dX12_sounds_83 rfl rfl ?_
              refine ev_goto 84 74 dX12_sounds_84 rfl ?_
              rcases g1.2.2.1 with z | z
              · subst z
                exact ih 0 I80 (by have := Uns_r (cap := 100000) (α := α) (s := e) (β := bt J e); have := Uns_n (h0y rfl); omega) g1.1 nx0 nz (Or.inl rfl) (fun _ => h0y rfl) nd nf
              · subst z
                exact ih 1 I80 (by have := h1y rfl; omega) g1.1 nx0 nz (Or.inr rfl) (fun z => by omega) nd nf
        have init : ∀ (k : Nat) (v : Int) (J : It), 0 ≤ v → v + k = 192 → (∀ u, 0 ≤ u → u < v → (u = e ∧ op α u → bt J e u = 0) ∧ (¬ (u = e ∧ op α u) → bt J e u = 100000)) → (∀ s v, 0 ≤ s → s < e → 0 ≤ v → v < 192 → J 141 (192 * s + v) = dS 100000 α s v) → (∀ a, a ≠ 141 → J a = I a) → Ev l g mX12_sounds (d + 4) 0 0 Z J P 24 [vA 131, vI e, vI v] [] (QV (fun I' => SO α I I' ∧ FO I' α ∧ I' 131 16 = 1) Z P) := by
          intro k
          induction k with
          | zero =>
            intro v J g0 g1 hq hd fr
            have hV : VM J α := hV.fr (fr 133 (by omega)) (fr 134 (by omega)) (fr 135 (by omega)) (fr 136 (by omega))
            have v1 : J 133 1 = α 0 1 := hV.1.2.1
            have j16 : J 131 16 = 0 := by rw [fr 131 (by omega)]; exact h16
            have hd2 : ¬ op α e → ∀ u, 0 ≤ u → u < 192 → bt J e u = dS 100000 α e u := fun z u a b => by
              rw [dS_cl hW (Or.inl z)]
              exact (hq u a (by omega)).2 (fun y => z (by have y1 := y.1; have y2 := y.2; rw [y1] at y2; exact y2))
            have hz : op α e → bt J e e = 0 := fun z => (hq e h0 (by omega)).1 ⟨rfl, z⟩
            have hsd : ∀ u, 0 ≤ u → u < 192 → bt J e u = 100000 ∨ Rch α e u (bt J e u) := fun u a b => by
              by_cases z : u = e ∧ op α u
              · right
                rw [(hq u a (by omega)).1 z, z.1]
                exact ⟨0, rfl, rfl, by rw [← z.1]; exact z.2⟩
              · exact Or.inl ((hq u a (by omega)).2 z)
            have hle : ∀ u, 0 ≤ u → u < 192 → bt J e u ≤ 100000 := fun u a b => by
              by_cases z : u = e ∧ op α u
              · rw [(hq u a (by omega)).1 z]; omega
              · rw [(hq u a (by omega)).2 z]; omega
            have ur := Uns_r (cap := 100000) (α := α) (s := e) (β := bt J e)
            refine ev_iload_2 24 dX12_sounds_24 ?_
            refine ev_sipush 25 dX12_sounds_25 ⟨by decide, by decide⟩ ?_
            refine ev_icmp_ge 28 68 dX12_sounds_28 rfl (fun h28 => ?_) (fun h28 => ?_)
            · refine ev_aload_0 68 dX12_sounds_68 ?_
              refine ev_iload_1 69 dX12_sounds_69 ?_
              refine ev_cVp_1 70 dX12_sounds_70 kmX12_isSpot lk_X12_182 (kd_131 hM) (m_isSpot hM hN hV hW (by omega)) rfl rfl ?_
              refine ev_istore_2 73 dX12_sounds_73 rfl rfl ?_
              exact wl 194 _ J (by have := b2_or (op α e); omega) hsd hle hz (b2_or _) (fun z => hd2 ((b2_0 _).mp z)) hd fr
            · exfalso; omega
          | succ k ih =>
            intro v J g0 g1 hq hd fr
            have hV : VM J α := hV.fr (fr 133 (by omega)) (fr 134 (by omega)) (fr 135 (by omega)) (fr 136 (by omega))
            have v1 : J 133 1 = α 0 1 := hV.1.2.1
            have j16 : J 131 16 = 0 := by rw [fr 131 (by omega)]; exact h16
            refine ev_iload_2 24 dX12_sounds_24 ?_
            refine ev_sipush 25 dX12_sounds_25 ⟨by decide, by decide⟩ ?_
            refine ev_icmp_ge 28 68 dX12_sounds_28 rfl (fun h28 => ?_) (fun h28 => ?_)
            · exfalso; omega
            · refine ev_aload_0 31 dX12_sounds_31 ?_
              refine ev_getA 32 15 dX12_sounds_32 fa_X12_39 (kd_131 hM) (pr_131_15 hN) rfl ?_
              refine ev_sipush 35 dX12_sounds_35 ⟨by decide, by decide⟩ ?_
              refine ev_iload_1 38 dX12_sounds_38 ?_
              refine ev_imul 39 dX12_sounds_39 ⟨by omega, by omega⟩ ?_
              refine ev_iload_2 40 dX12_sounds_40 ?_
              refine ev_iadd 41 dX12_sounds_41 ⟨by omega, by omega⟩ ?_
              refine Ev.join 61 (fun jv => (v = e ∧ op α v → jv = 0) ∧ (¬ (v = e ∧ op α v) → jv = 100000)) (fun x61 q61 => ?_) (fun j61 => ?_)
              · try dsimp only at q61
                refine ev_iast 61 dX12_sounds_61 (kd_141 hM) ⟨by omega, by have := (ln_141 hM); omega⟩ ?_
                refine ev_iinc_2 62 dX12_sounds_62 ⟨by omega, by omega⟩ rfl rfl ?_
                refine ev_goto 65 24 dX12_sounds_65 rfl ?_
                refine ih (v + 1) _ (by omega) (by omega) (fun u a b => ?_) (fun s u a b c q => by rw [upI_k (by omega)]; exact hd s u a b c q) (fun a z => by rw [upI_A z]; exact fr a z)
                by_cases z : u = v
                · subst z
                  have e9 : bt (upI J 141 (192 * e + u) x61) e u = x61 := by unfold bt; exact upI_s _ _ _ _
                  rw [e9]; exact q61
                · have e9 : bt (upI J 141 (192 * e + v) x61) e u = bt J e u := by unfold bt; exact upI_k (by omega)
                  rw [e9]; exact hq u a (by omega)
              · refine ev_iload_2 42 dX12_sounds_42 ?_
                refine ev_iload_1 43 dX12_sounds_43 ?_
                refine ev_jne 44 59 dX12_sounds_44 rfl (fun h44 => ?_) (fun h44 => ?_)
                · refine ev_ldc 59 dX12_sounds_59 kc_X12_185 ⟨by decide, by decide⟩ ?_
                  first
                    | exact j61 _ ⟨fun _ => rfl, fun z => absurd ⟨by omega, by assumption⟩ z⟩
                    | exact j61 _ ⟨fun z => by have := z.1; omega, fun _ => rfl⟩
                    | exact j61 _ ⟨fun z => absurd z.2 (by assumption), fun _ => rfl⟩
                · refine ev_aload_0 47 dX12_sounds_47 ?_
                  refine ev_iload_2 48 dX12_sounds_48 ?_
                  refine ev_cVp_1 49 dX12_sounds_49 kmX12_isSpot lk_X12_182 (kd_131 hM) (m_isSpot hM hN hV hW (by omega)) rfl rfl ?_
                  try simp (disch := omega) only [upI_s, upI_a, upI_k]
                  refine ev_ifb_eq 52 59 dX12_sounds_52 rfl (fun h52 => ?_) (fun h52 => ?_)
                  · refine ev_ldc 59 dX12_sounds_59 kc_X12_185 ⟨by decide, by decide⟩ ?_
                    first
                      | exact j61 _ ⟨fun _ => rfl, fun z => absurd ⟨by omega, by assumption⟩ z⟩
                      | exact j61 _ ⟨fun z => by have := z.1; omega, fun _ => rfl⟩
                      | exact j61 _ ⟨fun z => absurd z.2 (by assumption), fun _ => rfl⟩
                  · refine ev_iconst 55 dX12_sounds_55 ⟨by decide, by decide⟩ ?_
                    refine ev_goto 56 61 dX12_sounds_56 rfl ?_
                    first
                      | exact j61 _ ⟨fun _ => rfl, fun z => absurd ⟨by omega, by assumption⟩ z⟩
                      | exact j61 _ ⟨fun z => by have := z.1; omega, fun _ => rfl⟩
                      | exact j61 _ ⟨fun z => absurd z.2 (by assumption), fun _ => rfl⟩
        have hV : VM J α := hV.fr (fr 133 (by omega)) (fr 134 (by omega)) (fr 135 (by omega)) (fr 136 (by omega))
        have v1 : J 133 1 = α 0 1 := hV.1.2.1
        have j16 : J 131 16 = 0 := by rw [fr 131 (by omega)]; exact h16
        refine ev_iload_1 2 dX12_sounds_2 ?_
        refine ev_bipush 3 dX12_sounds_3 ⟨by decide, by decide⟩ ?_
        refine ev_aload_0 5 dX12_sounds_5 ?_
        refine ev_getA 6 3 dX12_sounds_6 fa_X12_13 (kd_131 hM) (pr_131_3 hN) rfl ?_
        refine ev_iconst 9 dX12_sounds_9 ⟨by decide, by decide⟩ ?_
        refine ev_iald 10 dX12_sounds_10 (kd_133 hM) ⟨by omega, by have := (ln_133 hM); omega⟩ ?_
        try simp only [v1, j16]
        refine ev_imul 11 dX12_sounds_11 ⟨by omega, by omega⟩ ?_
        refine ev_icmp_ge 12 93 dX12_sounds_12 rfl (fun h12 => ?_) (fun h12 => ?_)
        · exfalso; omega
        · refine ev_aload_0 15 dX12_sounds_15 ?_
          refine ev_gI 16 16 16 dX12_sounds_16 fa_X12_101 (kd_131 hM) rfl rfl rfl ?_
          try simp only [v1, j16]
          refine ev_zne 19 93 dX12_sounds_19 rfl (fun h19 => ?_) (fun h19 => ?_)
          · exfalso; omega
          · refine ev_iconst 22 dX12_sounds_22 ⟨by decide, by decide⟩ ?_
            refine ev_istore_2 23 dX12_sounds_23 rfl rfl ?_
            exact init 192 0 J (by omega) (by omega) (fun u a b => by omega) hd fr
    refine ev_iconst 0 dX12_sounds_0 ⟨by decide, by decide⟩ ?_
    refine ev_istore_1 1 dX12_sounds_1 rfl rfl ?_
    exact outer (24 * α 0 1).toNat 0 I _ (by omega) (by omega) (fun s v a b => by omega) (fun _ _ => rfl)
  · have v1 := hV.1.2.1
    refine ev_iconst 0 dX12_sounds_0 ⟨by decide, by decide⟩ ?_
    refine ev_istore_1 1 dX12_sounds_1 rfl rfl ?_
    refine ev_iload_1 2 dX12_sounds_2 ?_
    refine ev_bipush 3 dX12_sounds_3 ⟨by decide, by decide⟩ ?_
    refine ev_aload_0 5 dX12_sounds_5 ?_
    refine ev_getA 6 3 dX12_sounds_6 fa_X12_13 (kd_131 hM) (pr_131_3 hN) rfl ?_
    refine ev_iconst 9 dX12_sounds_9 ⟨by decide, by decide⟩ ?_
    refine ev_iald 10 dX12_sounds_10 (kd_133 hM) ⟨by omega, by have := (ln_133 hM); omega⟩ ?_
    try simp only [v1, h16]
    refine ev_imul 11 dX12_sounds_11 ⟨by omega, by omega⟩ ?_
    refine ev_icmp_ge 12 93 dX12_sounds_12 rfl (fun h12 => ?_) (fun h12 => ?_)
    · first | exact fin93 I _ _ (fun _ _ => rfl) hfo | (exfalso; omega)
    · refine ev_aload_0 15 dX12_sounds_15 ?_
      refine ev_gI 16 16 16 dX12_sounds_16 fa_X12_101 (kd_131 hM) rfl rfl rfl ?_
      try simp only [v1, h16]
      refine ev_zne 19 93 dX12_sounds_19 rfl (fun h19 => ?_) (fun h19 => ?_)
      · first | exact fin93 I _ _ (fun _ _ => rfl) hfo | (exfalso; omega)
      · refine ev_iconst 22 dX12_sounds_22 ⟨by decide, by decide⟩ ?_
        refine ev_istore_2 23 dX12_sounds_23 rfl rfl ?_
        exfalso; omega

theorem m_time {l : Launch} {g : Gt} {d : Nat} {Z : Zt} {I : It} {P : Pt'} (hM : LayM Z) (hN : LayQ P) {α : Nat → Int → Int} (hV : VM I α) (hW : WF α) (hF : HF I α) (x y z w : Int) : Mt l g mX12_time (d + 5) 0 0 [vA 131, vI x, vI y, vI z, vI w] Z I P (QM (fun r I' => r = tmA 100000 α x y z w ∧ SO α I I') Z P) := by
  have v0 := hV.1.1
  have v1 := hV.1.2.1
  have v2 := hV.1.2.2.1
  have v3 := hV.1.2.2.2.1
  have v4 := hV.1.2.2.2.2
  have w0 := hW.1
  have w1 := hW.2.1
  have w5 := hW.2.2.1
  have w10 := hW.2.2.2.1
  refine Mt.of kmX12_time (ls := [vA 131, vI x, vI y, vI z, vI w, vX]) (fun _ => rfl) (fun _ => rfl) (okf_k (okf_k (okf_k (okf_k (okf_k (okf_n rfl)))))) (fun hok => ?_)
  refine ev_aload_0 0 dX12_time_0 ?_
  refine ev_iload_1 1 dX12_time_1 ?_
  refine ev_cVp_1 2 dX12_time_2 kmX12_isLevel lk_X12_130 (kd_131 hM) (m_isLevel hM hN hV hW _) rfl rfl ?_
  refine ev_ifb_eq 5 33 dX12_time_5 rfl (fun h5 => ?_) (fun h5 => ?_)
  · refine ev_iconst 33 dX12_time_33 ⟨by decide, by decide⟩ ?_
    refine ev_iret 34 dX12_time_34 ?_ rfl
    exact QM_of ⟨(if_neg (by omega)).symm, SO.rf hF⟩
  · refine ev_aload_0 8 dX12_time_8 ?_
    refine ev_iload_2 9 dX12_time_9 ?_
    refine ev_cVp_1 10 dX12_time_10 kmX12_isPlace lk_X12_172 (kd_131 hM) (m_isPlace hM hN hV hW _) rfl rfl ?_
    refine ev_ifb_eq 13 33 dX12_time_13 rfl (fun h13 => ?_) (fun h13 => ?_)
    · refine ev_iconst 33 dX12_time_33 ⟨by decide, by decide⟩ ?_
      refine ev_iret 34 dX12_time_34 ?_ rfl
      exact QM_of ⟨(if_neg (by omega)).symm, SO.rf hF⟩
    · refine ev_aload_0 16 dX12_time_16 ?_
      refine ev_iload_3 17 dX12_time_17 ?_
      refine ev_cVp_1 18 dX12_time_18 kmX12_isLevel lk_X12_130 (kd_131 hM) (m_isLevel hM hN hV hW _) rfl rfl ?_
      refine ev_ifb_eq 21 33 dX12_time_21 rfl (fun h21 => ?_) (fun h21 => ?_)
      · refine ev_iconst 33 dX12_time_33 ⟨by decide, by decide⟩ ?_
        refine ev_iret 34 dX12_time_34 ?_ rfl
        exact QM_of ⟨(if_neg (by omega)).symm, SO.rf hF⟩
      · refine ev_aload_0 24 dX12_time_24 ?_
        refine ev_iload_4 25 dX12_time_25 ?_
        refine ev_cVp_1 27 dX12_time_27 kmX12_isPlace lk_X12_172 (kd_131 hM) (m_isPlace hM hN hV hW _) rfl rfl ?_
        refine ev_ifb_ne 30 35 dX12_time_30 rfl (fun h30 => ?_) (fun h30 => ?_)
        · refine ev_aload_0 35 dX12_time_35 ?_
          refine ev_cVv_0 36 dX12_time_36 kmX12_sounds lk_X12_193 (kd_131 hM) (m_sounds hM hN hV hW hF) rfl rfl (fun I36 f36 => ?_)
          obtain ⟨so, hfo, -⟩ := f36
          have hV : VM I36 α := so.vm hV
          have v0 := hV.1.1
          have v1 := hV.1.2.1
          have v2 := hV.1.2.2.1
          refine ev_aload_0 39 dX12_time_39 ?_
          refine ev_bipush 40 dX12_time_40 ⟨by decide, by decide⟩ ?_
          refine ev_iload_1 42 dX12_time_42 ?_
          refine ev_imul 43 dX12_time_43 ⟨by omega, by omega⟩ ?_
          refine ev_iload_2 44 dX12_time_44 ?_
          refine ev_iadd 45 dX12_time_45 ⟨by omega, by omega⟩ ?_
          refine ev_bipush 46 dX12_time_46 ⟨by decide, by decide⟩ ?_
          refine ev_iload_3 48 dX12_time_48 ?_
          refine ev_imul 49 dX12_time_49 ⟨by omega, by omega⟩ ?_
          refine ev_iload_4 50 dX12_time_50 ?_
          refine ev_iadd 52 dX12_time_52 ⟨by omega, by omega⟩ ?_
          refine ev_cVp_2 53 dX12_time_53 kmX12_timeOf lk_X12_196 (kd_131 hM) (m_timeOf hM hN (by omega) (by omega)) rfl rfl ?_
          rw [hfo (24 * x + y) (24 * z + w) (by omega) (by omega) (by omega) (by omega)]
          refine ev_istore_5 56 dX12_time_56 rfl rfl ?_
          refine ev_iload_5 58 dX12_time_58 ?_
          refine ev_ldc 60 dX12_time_60 kc_X12_185 ⟨by decide, by decide⟩ ?_
          refine ev_icmp_ge 62 70 dX12_time_62 rfl (fun h62 => ?_) (fun h62 => ?_)
          · refine ev_bipush 70 dX12_time_70 ⟨by decide, by decide⟩ ?_
            refine ev_iret 72 dX12_time_72 ?_ rfl
            first
              | exact QM_of ⟨((if_pos (by omega)).trans (if_pos (by omega))).symm, so⟩
              | exact QM_of ⟨((if_pos (by omega)).trans (if_neg (by omega))).symm, so⟩
          · refine ev_iload_5 65 dX12_time_65 ?_
            refine ev_goto 67 72 dX12_time_67 rfl ?_
            refine ev_iret 72 dX12_time_72 ?_ rfl
            first
              | exact QM_of ⟨((if_pos (by omega)).trans (if_pos (by omega))).symm, so⟩
              | exact QM_of ⟨((if_pos (by omega)).trans (if_neg (by omega))).symm, so⟩
        · refine ev_iconst 33 dX12_time_33 ⟨by decide, by decide⟩ ?_
          refine ev_iret 34 dX12_time_34 ?_ rfl
          exact QM_of ⟨(if_neg (by omega)).symm, SO.rf hF⟩
theorem m_hears {l : Launch} {g : Gt} {d : Nat} {Z : Zt} {I : It} {P : Pt'} (hM : LayM Z) (hN : LayQ P) {α : Nat → Int → Int} (hV : VM I α) (hW : WF α) {σ : Nat → Int → Int} (hR : RT 0 I α σ) (hWS : WS α σ) (hF : HF I α) (t b : Int) : Mt l g mX12_hears (d + 5) 0 0 [vA 131, vI t, vI b] Z I P (QM (fun r I' => r = hrA 100000 α σ t b ∧ SO α I I') Z P) := by
  have v0 := hV.1.1
  have v1 := hV.1.2.1
  have v2 := hV.1.2.2.1
  have v3 := hV.1.2.2.2.1
  have v4 := hV.1.2.2.2.2
  have w0 := hW.1
  have w1 := hW.2.1
  have w5 := hW.2.2.1
  have w10 := hW.2.2.2.1
  refine Mt.of kmX12_hears (ls := [vA 131, vI t, vI b, vX, vX]) (fun _ => rfl) (fun _ => rfl) (okf_k (okf_k (okf_k (okf_n rfl)))) (fun hok => ?_)
  have loop : ((0 ≤ t ∧ t < α 0 5) ∧ (0 ≤ b ∧ b ≤ 99)) → σ 2 t = 0 → ∀ (J : It), SO α I J → FO J α → ∀ (k n : Nat), (n : Int) + k = α 0 5 → Ev l g mX12_hears (d + 5) 0 0 Z J P 42 [vA 131, vI t, vI b, vI ((bF (fun u => u ≠ t ∧ σ 2 u = 0 ∧ dS 100000 α (24 * α 4 t + σ 1 t) (24 * α 4 u + σ 1 u) ≤ b) n : Nat) : Int), vI n] [] (QM (fun r I' => r = hrA 100000 α σ t b ∧ SO α I I') Z P) := by
    intro hg hc J so hfo k
    have hV := so.vm hV
    have hRT := so.rt hR
    have v2 := hV.1.2.2.1
    have c1 := hWS.2.2.2.1 t hg.1.1 (by omega)
    have m1 := (hW.2.2.2.2.2.2.1 t hg.1.1 hg.1.2).1
    have x1 := hWS.2.2.1 t hg.1.1 hg.1.2
    induction k with
    | zero =>
      intro n h1
      refine ev_iload_4 42 dX12_hears_42 ?_
      refine ev_aload_0 44 dX12_hears_44 ?_
      refine ev_getA 45 3 dX12_hears_45 fa_X12_13 (kd_131 hM) (pr_131_3 hN) rfl ?_
      refine ev_iconst 48 dX12_hears_48 ⟨by decide, by decide⟩ ?_
      refine ev_iald 49 dX12_hears_49 (kd_133 hM) ⟨by omega, by have := (ln_133 hM); omega⟩ ?_
      try simp only [v2]
      refine ev_icmp_ge 50 104 dX12_hears_50 rfl (fun h50 => ?_) (fun h50 => ?_)
      · refine ev_iload_3 104 dX12_hears_104 ?_
        refine ev_iret 105 dX12_hears_105 ?_ rfl
        refine QM_of ⟨?_, so⟩
        unfold hrA
        rw [if_pos hg, if_pos hc, show (α 0 5).toNat = n by omega]
      · exfalso; omega
    | succ k ih =>
      intro n h1
      have hb31 := bF_31 (p := (fun u => u ≠ t ∧ σ 2 u = 0 ∧ dS 100000 α (24 * α 4 t + σ 1 t) (24 * α 4 u + σ 1 u) ≤ b)) (n := n) (by omega)
      have c2 := hWS.2.2.2.1 (n : Int) (by omega) (by omega)
      have m2 := (hW.2.2.2.2.2.2.1 (n : Int) (by omega) (by omega)).1
      have x2 := hWS.2.2.1 (n : Int) (by omega) (by omega)
      have df := hfo (24 * α 4 t + σ 1 t) (24 * α 4 (n : Int) + σ 1 (n : Int)) (by omega) (by omega) (by omega) (by omega)
      refine ev_iload_4 42 dX12_hears_42 ?_
      refine ev_aload_0 44 dX12_hears_44 ?_
      refine ev_getA 45 3 dX12_hears_45 fa_X12_13 (kd_131 hM) (pr_131_3 hN) rfl ?_
      refine ev_iconst 48 dX12_hears_48 ⟨by decide, by decide⟩ ?_
      refine ev_iald 49 dX12_hears_49 (kd_133 hM) ⟨by omega, by have := (ln_133 hM); omega⟩ ?_
      try simp only [v2]
      try simp only [df]
      refine ev_icmp_ge 50 104 dX12_hears_50 rfl (fun h50 => ?_) (fun h50 => ?_)
      · exfalso; omega
      · refine ev_iload_3 53 dX12_hears_53 ?_
        refine Ev.join 96 (fun jv => ∃ m : Nat, jv = (m : Int) ∧ m < 2 ^ 31 ∧ bF (fun u => u ≠ t ∧ σ 2 u = 0 ∧ dS 100000 α (24 * α 4 t + σ 1 t) (24 * α 4 u + σ 1 u) ≤ b) n ||| m = bF (fun u => u ≠ t ∧ σ 2 u = 0 ∧ dS 100000 α (24 * α 4 t + σ 1 t) (24 * α 4 u + σ 1 u) ≤ b) (n + 1)) (fun x96 q96 => ?_) (fun j96 => ?_)
        · try dsimp only at q96
          obtain ⟨m, rfl, hm1, hm2⟩ := q96
          refine ev_ior 96 dX12_hears_96 hb31.1 hm1 ?_
          rw [hm2]
          refine ev_istore_3 97 dX12_hears_97 rfl rfl ?_
          refine ev_iinc_4 98 dX12_hears_98 ⟨by omega, by omega⟩ rfl rfl ?_
          refine ev_goto 101 42 dX12_hears_101 rfl ?_
          rw [show (n : Int) + 1 = ((n + 1 : Nat) : Int) by omega]
          exact ih (n + 1) (by omega)
        · refine ev_iload_4 54 dX12_hears_54 ?_
          refine ev_iload_1 56 dX12_hears_56 ?_
          refine ev_icmp_eq 57 95 dX12_hears_57 rfl (fun h57 => ?_) (fun h57 => ?_)
          · refine ev_iconst 95 dX12_hears_95 ⟨by decide, by decide⟩ ?_
            first
              | exact j96 _ ⟨2 ^ n, by rw [show (n : Int).toNat = n by omega], hb31.2, (bF_t ⟨by omega, by omega, by omega⟩).symm⟩
              | exact j96 _ ⟨0, rfl, by decide, by rw [bF_f (fun z => by have z1 := z.1; have z2 := z.2.1; have z3 := z.2.2; omega), Nat.or_zero]⟩
          · refine ev_aload_0 60 dX12_hears_60 ?_
            refine ev_iload_4 61 dX12_hears_61 ?_
            refine ev_cVp_1 63 dX12_hears_63 kmX12_isCut lk_X12_165 (kd_131 hM) (m_isCut hM hN hV hW hRT (by omega) (by omega)) rfl rfl ?_
            try simp only [v2]
            try simp only [df]
            refine ev_ifb_ne 66 95 dX12_hears_66 rfl (fun h66 => ?_) (fun h66 => ?_)
            · refine ev_iconst 95 dX12_hears_95 ⟨by decide, by decide⟩ ?_
              first
                | exact j96 _ ⟨2 ^ n, by rw [show (n : Int).toNat = n by omega], hb31.2, (bF_t ⟨by omega, by omega, by omega⟩).symm⟩
                | exact j96 _ ⟨0, rfl, by decide, by rw [bF_f (fun z => by have z1 := z.1; have z2 := z.2.1; have z3 := z.2.2; omega), Nat.or_zero]⟩
            · refine ev_aload_0 69 dX12_hears_69 ?_
              refine ev_aload_0 70 dX12_hears_70 ?_
              refine ev_iload_1 71 dX12_hears_71 ?_
              refine ev_cVp_1 72 dX12_hears_72 kmX12_spot lk_X12_202 (kd_131 hM) (m_spot hM hN hV hW hRT (by omega) (by omega)) rfl rfl ?_
              try simp only [v2]
              try simp only [df]
              refine ev_aload_0 75 dX12_hears_75 ?_
              refine ev_iload_4 76 dX12_hears_76 ?_
              refine ev_cVp_1 78 dX12_hears_78 kmX12_spot lk_X12_202 (kd_131 hM) (m_spot hM hN hV hW hRT (by omega) (by omega)) rfl rfl ?_
              try simp only [v2]
              try simp only [df]
              refine ev_cVp_2 81 dX12_hears_81 kmX12_timeOf lk_X12_196 (kd_131 hM) (m_timeOf hM hN (by omega) (by omega)) rfl rfl ?_
              try simp only [v2]
              try simp only [df]
              refine ev_iload_2 84 dX12_hears_84 ?_
              refine ev_icmp_gt 85 95 dX12_hears_85 rfl (fun h85 => ?_) (fun h85 => ?_)
              · refine ev_iconst 95 dX12_hears_95 ⟨by decide, by decide⟩ ?_
                first
                  | exact j96 _ ⟨2 ^ n, by rw [show (n : Int).toNat = n by omega], hb31.2, (bF_t ⟨by omega, by omega, by omega⟩).symm⟩
                  | exact j96 _ ⟨0, rfl, by decide, by rw [bF_f (fun z => by have z1 := z.1; have z2 := z.2.1; have z3 := z.2.2; omega), Nat.or_zero]⟩
              · refine ev_iconst 88 dX12_hears_88 ⟨by decide, by decide⟩ ?_
                refine ev_iload_4 89 dX12_hears_89 ?_
                refine ev_ishl 91 dX12_hears_91 ⟨by omega, by omega⟩ ?_
                refine ev_goto 92 96 dX12_hears_92 rfl ?_
                first
                  | exact j96 _ ⟨2 ^ n, by rw [show (n : Int).toNat = n by omega], hb31.2, (bF_t ⟨by omega, by omega, by omega⟩).symm⟩
                  | exact j96 _ ⟨0, rfl, by decide, by rw [bF_f (fun z => by have z1 := z.1; have z2 := z.2.1; have z3 := z.2.2; omega), Nat.or_zero]⟩
  refine ev_aload_0 0 dX12_hears_0 ?_
  refine ev_iload_1 1 dX12_hears_1 ?_
  refine ev_cVp_1 2 dX12_hears_2 kmX12_isTown lk_X12_133 (kd_131 hM) (m_isTown hM hN hV hW _) rfl rfl ?_
  refine ev_ifb_eq 5 20 dX12_hears_5 rfl (fun h5 => ?_) (fun h5 => ?_)
  · refine ev_iconst 20 dX12_hears_20 ⟨by decide, by decide⟩ ?_
    refine ev_iret 21 dX12_hears_21 ?_ rfl
    exact QM_of ⟨(if_neg (by omega)).symm, SO.rf hF⟩
  · refine ev_iload_2 8 dX12_hears_8 ?_
    refine ev_i2l 9 dX12_hears_9 ?_
    refine ev_lconst0 10 dX12_hears_10 ?_
    refine ev_ldc2 11 dX12_hears_11 kl_X12_200 ⟨by decide, by decide⟩ ?_
    refine ev_cSp_3 14 dX12_hears_14 kmX12_in lk_X12_62 (m_in _ _ _) rfl rfl ?_
    refine ev_ifb_ne 17 22 dX12_hears_17 rfl (fun h17 => ?_) (fun h17 => ?_)
    · have c1 := hWS.2.2.2.1 t (by omega) (by omega)
      have hRT := hR
      refine ev_aload_0 22 dX12_hears_22 ?_
      refine ev_iload_1 23 dX12_hears_23 ?_
      refine ev_cVp_1 24 dX12_hears_24 kmX12_isCut lk_X12_165 (kd_131 hM) (m_isCut hM hN hV hW hRT (by omega) (by omega)) rfl rfl ?_
      refine ev_ifb_eq 27 33 dX12_hears_27 rfl (fun h27 => ?_) (fun h27 => ?_)
      · refine ev_aload_0 33 dX12_hears_33 ?_
        refine ev_cVv_0 34 dX12_hears_34 kmX12_sounds lk_X12_193 (kd_131 hM) (m_sounds hM hN hV hW hF) rfl rfl (fun I34 f34 => ?_)
        refine ev_iconst 37 dX12_hears_37 ⟨by decide, by decide⟩ ?_
        refine ev_istore_3 38 dX12_hears_38 rfl rfl ?_
        refine ev_iconst 39 dX12_hears_39 ⟨by decide, by decide⟩ ?_
        refine ev_istore_4 40 dX12_hears_40 rfl rfl ?_
        exact loop (by omega) (by omega) _ f34.1 f34.2.1 (α 0 5).toNat 0 (by omega)
      · refine ev_bipush 30 dX12_hears_30 ⟨by decide, by decide⟩ ?_
        refine ev_iret 32 dX12_hears_32 ?_ rfl
        exact QM_of ⟨((if_pos (by omega)).trans (if_neg (by omega))).symm, SO.rf hF⟩
    · refine ev_iconst 20 dX12_hears_20 ⟨by decide, by decide⟩ ?_
      refine ev_iret 21 dX12_hears_21 ?_ rfl
      exact QM_of ⟨(if_neg (by omega)).symm, SO.rf hF⟩
theorem m_shadow {l : Launch} {g : Gt} {d : Nat} {Z : Zt} {I : It} {P : Pt'} (hM : LayM Z) (hN : LayQ P) {α : Nat → Int → Int} (hV : VM I α) (hW : WF α) {σ : Nat → Int → Int} (hR : RT 0 I α σ) (hWS : WS α σ) (hF : HF I α) (t : Int) : Mt l g mX12_shadow (d + 5) 0 0 [vA 131, vI t] Z I P (QM (fun r I' => r = shA 100000 α σ t ∧ SO α I I') Z P) := by
  have v0 := hV.1.1
  have v1 := hV.1.2.1
  have v2 := hV.1.2.2.1
  have v3 := hV.1.2.2.2.1
  have v4 := hV.1.2.2.2.2
  have w0 := hW.1
  have w1 := hW.2.1
  have w5 := hW.2.2.1
  have w10 := hW.2.2.2.1
  refine Mt.of kmX12_shadow (ls := [vA 131, vI t, vX, vX]) (fun _ => rfl) (fun _ => rfl) (okf_k (okf_k (okf_n rfl))) (fun hok => ?_)
  have loop : (0 ≤ t ∧ t < α 0 5) → σ 2 t = 0 → ∀ (J : It), SO α I J → FO J α → ∀ (k : Nat) (v s : Int), 0 ≤ v → v + k = 24 * α 0 1 → s = cnt (fun v => op α v ∧ 100000 ≤ dS 100000 α (24 * α 4 t + σ 1 t) v) v.toNat → Ev l g mX12_shadow (d + 5) 0 0 Z J P 29 [vA 131, vI t, vI s, vI v] [] (QM (fun r I' => r = shA 100000 α σ t ∧ SO α I I') Z P) := by
    intro hg hc J so hfo k
    have hV := so.vm hV
    have hRT := so.rt hR
    have v1 := hV.1.2.1
    have m1 := (hW.2.2.2.2.2.2.1 t hg.1 hg.2).1
    have x1 := hWS.2.2.1 t hg.1 hg.2
    induction k with
    | zero =>
      intro v s h0 h1 hs
      refine ev_iload_3 29 dX12_shadow_29 ?_
      refine ev_bipush 30 dX12_shadow_30 ⟨by decide, by decide⟩ ?_
      refine ev_aload_0 32 dX12_shadow_32 ?_
      refine ev_getA 33 3 dX12_shadow_33 fa_X12_13 (kd_131 hM) (pr_131_3 hN) rfl ?_
      refine ev_iconst 36 dX12_shadow_36 ⟨by decide, by decide⟩ ?_
      refine ev_iald 37 dX12_shadow_37 (kd_133 hM) ⟨by omega, by have := (ln_133 hM); omega⟩ ?_
      try simp only [v1]
      refine ev_imul 38 dX12_shadow_38 ⟨by omega, by omega⟩ ?_
      refine ev_icmp_ge 39 79 dX12_shadow_39 rfl (fun h39 => ?_) (fun h39 => ?_)
      · refine ev_iload_2 79 dX12_shadow_79 ?_
        refine ev_iret 80 dX12_shadow_80 ?_ rfl
        refine QM_of ⟨?_, so⟩
        unfold shA
        rw [if_pos hg, if_pos hc, hs]
        have e9 := cnt_to (p := (fun v => op α v ∧ 100000 ≤ dS 100000 α (24 * α 4 t + σ 1 t) v)) (v := v) (w := 192) (by omega) (by omega) (fun u z1 z2 z3 => by have := z3.1.1.2.1; omega)
        rw [show (192 : Int).toNat = 192 from rfl] at e9
        exact e9
      · exfalso; omega
    | succ k ih =>
      intro v s h0 h1 hs
      have hcr := cnt_r (fun v => op α v ∧ 100000 ≤ dS 100000 α (24 * α 4 t + σ 1 t) v) v.toNat
      rw [← hs] at hcr
      have df := hfo (24 * α 4 t + σ 1 t) v (by omega) (by omega) (by omega) (by omega)
      have dl := (dS_r hW (cap := 100000) (by omega) (24 * α 4 t + σ 1 t) v).2
      refine ev_iload_3 29 dX12_shadow_29 ?_
      refine ev_bipush 30 dX12_shadow_30 ⟨by decide, by decide⟩ ?_
      refine ev_aload_0 32 dX12_shadow_32 ?_
      refine ev_getA 33 3 dX12_shadow_33 fa_X12_13 (kd_131 hM) (pr_131_3 hN) rfl ?_
      refine ev_iconst 36 dX12_shadow_36 ⟨by decide, by decide⟩ ?_
      refine ev_iald 37 dX12_shadow_37 (kd_133 hM) ⟨by omega, by have := (ln_133 hM); omega⟩ ?_
      try simp only [v1]
      try simp only [df]
      refine ev_imul 38 dX12_shadow_38 ⟨by omega, by omega⟩ ?_
      refine ev_icmp_ge 39 79 dX12_shadow_39 rfl (fun h39 => ?_) (fun h39 => ?_)
      · exfalso; omega
      · refine ev_iload_2 42 dX12_shadow_42 ?_
        refine Ev.join 71 (fun jv => (jv = 0 ∨ jv = 1) ∧ (jv = 1 ↔ (op α v ∧ 100000 ≤ dS 100000 α (24 * α 4 t + σ 1 t) v))) (fun x71 q71 => ?_) (fun j71 => ?_)
        · try dsimp only at q71
          refine ev_iadd 71 dX12_shadow_71 ⟨by omega, by omega⟩ ?_
          refine ev_istore_2 72 dX12_shadow_72 rfl rfl ?_
          refine ev_iinc_3 73 dX12_shadow_73 ⟨by omega, by omega⟩ rfl rfl ?_
          refine ev_goto 76 29 dX12_shadow_76 rfl ?_
          exact ih (v + 1) _ (by omega) (by omega) (by rw [cnt_st h0, ← hs, b2_i q71.1 q71.2])
        · refine ev_aload_0 43 dX12_shadow_43 ?_
          refine ev_iload_3 44 dX12_shadow_44 ?_
          refine ev_cVp_1 45 dX12_shadow_45 kmX12_isSpot lk_X12_182 (kd_131 hM) (m_isSpot hM hN hV hW (by omega)) rfl rfl ?_
          try simp only [v1]
          try simp only [df]
          refine ev_ifb_eq 48 70 dX12_shadow_48 rfl (fun h48 => ?_) (fun h48 => ?_)
          · refine ev_iconst 70 dX12_shadow_70 ⟨by decide, by decide⟩ ?_
            first
              | exact j71 _ ⟨Or.inr rfl, fun _ => ⟨by assumption, by omega⟩, fun _ => rfl⟩
              | exact j71 _ ⟨Or.inl rfl, fun z => by omega, fun z => absurd z.1 (by assumption)⟩
              | exact j71 _ ⟨Or.inl rfl, fun z => by omega, fun z => by have := z.2; omega⟩
          · refine ev_aload_0 51 dX12_shadow_51 ?_
            refine ev_aload_0 52 dX12_shadow_52 ?_
            refine ev_iload_1 53 dX12_shadow_53 ?_
            refine ev_cVp_1 54 dX12_shadow_54 kmX12_spot lk_X12_202 (kd_131 hM) (m_spot hM hN hV hW hRT (by omega) (by omega)) rfl rfl ?_
            try simp only [v1]
            try simp only [df]
            refine ev_iload_3 57 dX12_shadow_57 ?_
            refine ev_cVp_2 58 dX12_shadow_58 kmX12_timeOf lk_X12_196 (kd_131 hM) (m_timeOf hM hN (by omega) (by omega)) rfl rfl ?_
            try simp only [v1]
            try simp only [df]
            refine ev_ldc 61 dX12_shadow_61 kc_X12_185 ⟨by decide, by decide⟩ ?_
            refine ev_jne 63 70 dX12_shadow_63 rfl (fun h63 => ?_) (fun h63 => ?_)
            · refine ev_iconst 70 dX12_shadow_70 ⟨by decide, by decide⟩ ?_
              first
                | exact j71 _ ⟨Or.inr rfl, fun _ => ⟨by assumption, by omega⟩, fun _ => rfl⟩
                | exact j71 _ ⟨Or.inl rfl, fun z => by omega, fun z => absurd z.1 (by assumption)⟩
                | exact j71 _ ⟨Or.inl rfl, fun z => by omega, fun z => by have := z.2; omega⟩
            · refine ev_iconst 66 dX12_shadow_66 ⟨by decide, by decide⟩ ?_
              refine ev_goto 67 71 dX12_shadow_67 rfl ?_
              first
                | exact j71 _ ⟨Or.inr rfl, fun _ => ⟨by assumption, by omega⟩, fun _ => rfl⟩
                | exact j71 _ ⟨Or.inl rfl, fun z => by omega, fun z => absurd z.1 (by assumption)⟩
                | exact j71 _ ⟨Or.inl rfl, fun z => by omega, fun z => by have := z.2; omega⟩
  refine ev_aload_0 0 dX12_shadow_0 ?_
  refine ev_iload_1 1 dX12_shadow_1 ?_
  refine ev_cVp_1 2 dX12_shadow_2 kmX12_isTown lk_X12_133 (kd_131 hM) (m_isTown hM hN hV hW _) rfl rfl ?_
  refine ev_ifb_ne 5 10 dX12_shadow_5 rfl (fun h5 => ?_) (fun h5 => ?_)
  · have c1 := hWS.2.2.2.1 t (by omega) (by omega)
    have hRT := hR
    refine ev_aload_0 10 dX12_shadow_10 ?_
    refine ev_iload_1 11 dX12_shadow_11 ?_
    refine ev_cVp_1 12 dX12_shadow_12 kmX12_isCut lk_X12_165 (kd_131 hM) (m_isCut hM hN hV hW hRT (by omega) (by omega)) rfl rfl ?_
    refine ev_ifb_eq 15 21 dX12_shadow_15 rfl (fun h15 => ?_) (fun h15 => ?_)
    · refine ev_aload_0 21 dX12_shadow_21 ?_
      refine ev_cVv_0 22 dX12_shadow_22 kmX12_sounds lk_X12_193 (kd_131 hM) (m_sounds hM hN hV hW hF) rfl rfl (fun I22 f22 => ?_)
      refine ev_iconst 25 dX12_shadow_25 ⟨by decide, by decide⟩ ?_
      refine ev_istore_2 26 dX12_shadow_26 rfl rfl ?_
      refine ev_iconst 27 dX12_shadow_27 ⟨by decide, by decide⟩ ?_
      refine ev_istore_3 28 dX12_shadow_28 rfl rfl ?_
      exact loop (by omega) (by omega) _ f22.1 f22.2.1 (24 * α 0 1).toNat 0 0 (by omega) (by omega) rfl
    · refine ev_bipush 18 dX12_shadow_18 ⟨by decide, by decide⟩ ?_
      refine ev_iret 20 dX12_shadow_20 ?_ rfl
      exact QM_of ⟨((if_pos (by omega)).trans (if_neg (by omega))).symm, SO.rf hF⟩
  · refine ev_iconst 8 dX12_shadow_8 ⟨by decide, by decide⟩ ?_
    refine ev_iret 9 dX12_shadow_9 ?_ rfl
    exact QM_of ⟨(if_neg (by omega)).symm, SO.rf hF⟩
