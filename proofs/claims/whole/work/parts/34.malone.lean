/-! the reference: what is let go alone -/
theorem tAt_no {tl tx tc : Int → Int} {l x as : Int} : ∀ (n : Nat) (t : Int), 0 ≤ t → tAt tl tx tc l x as n t = -4 → ∀ u, t ≤ u → u < t + n → ¬ (u ≠ as ∧ tc u = 0 ∧ tl u = l ∧ tx u = x)
  | 0, t, h, k, u, a, b => by omega
  | n + 1, t, h, k, u, a, b => by
    by_cases c : t ≠ as ∧ tc t = 0 ∧ tl t = l ∧ tx t = x
    · have e : tAt tl tx tc l x as (n + 1) t = t := if_pos c
      omega
    · have e : tAt tl tx tc l x as (n + 1) t = tAt tl tx tc l x as n (t + 1) := if_neg c
      rw [e] at k
      by_cases z : u = t
      · subst z; exact c
      · exact tAt_no n (t + 1) (by omega) k u (by omega) (by omega)
/-- the first town there, one aside: as uncut towns lie apart -/
theorem tAt_nv {α σ : Nat → Int → Int} (hW : WF α) {v : Int} (hA : AP α σ ∨ v < 0) (l x : Int) : tAt (α 4) (σ 1) (σ 2) l x v (α 0 5).toNat 0 = if tAt (α 4) (σ 1) (σ 2) l x (-4) (α 0 5).toNat 0 < 0 ∨ tAt (α 4) (σ 1) (σ 2) l x (-4) (α 0 5).toNat 0 = v then -4 else tAt (α 4) (σ 1) (σ 2) l x (-4) (α 0 5).toNat 0 := by
  have w5 := hW.2.2.1
  have r4 := tAt_r (α 4) (σ 1) (σ 2) l x (-4) (α 0 5).toNat 0 (by omega)
  by_cases hv : v < 0
  · rw [tAt_n (a := v) (b := -4) hv (by omega) _ _ (by omega)]
    split
    · omega
    · rfl
  · have hA := hA.resolve_right hv
    by_cases c : tAt (α 4) (σ 1) (σ 2) l x v (α 0 5).toNat 0 = -4
    · rw [c]
      split
      · rfl
      · rename_i h
        obtain ⟨e1, e2, e3, e4⟩ := tAt_ex (l := l) (x := x) (as := -4) (tl := α 4) (tx := σ 1) (tc := σ 2) (α 0 5).toNat 0 (by omega) (by omega)
        exact absurd ⟨fun z => h (Or.inr z), e4⟩ (tAt_no _ _ (by omega) c _ e1 e2)
    · obtain ⟨e1, e2, e3, e4, e5, e6⟩ := tAt_ex (l := l) (x := x) (as := v) (tl := α 4) (tx := σ 1) (tc := σ 2) (α 0 5).toNat 0 (by omega) c
      have n4 : tAt (α 4) (σ 1) (σ 2) l x (-4) (α 0 5).toNat 0 ≠ -4 := fun z => tAt_no _ _ (by omega) z _ e1 e2 ⟨by omega, e4, e5, e6⟩
      obtain ⟨f1, f2, f3, f4, f5, f6⟩ := tAt_ex (l := l) (x := x) (as := -4) (tl := α 4) (tx := σ 1) (tc := σ 2) (α 0 5).toNat 0 (by omega) n4
      have := hA _ _ e1 (by omega) f1 (by omega) e4 f4 (e5.trans f5.symm) (e6.trans f6.symm)
      rw [← this, if_neg (by omega)]
theorem pu_r {α σ : Nat → Int → Int} {as : Int} : ∀ (k : Nat) (n : Int) (q : Dq), q.2.2.2 = -4 → ((pu α σ as k n q).1 = -4 ∧ (pu α σ as k n q).2.2.2.2 = -4) ∨ (n ≤ (pu α σ as k n q).1 ∧ (pu α σ as k n q).1 < n + k ∧ (pu α σ as k n q).2.2.2.2 ≠ -4)
  | 0, n, q, h => Or.inl ⟨rfl, h⟩
  | k + 1, n, q, h => by
    unfold pu; split
    · rename_i e
      rcases pu_r k (n + 1) _ e with r | r
      · exact Or.inl r
      · exact Or.inr ⟨by omega, by omega, r.2.2⟩
    · rename_i e
      exact Or.inr ⟨by dsimp only; omega, by dsimp only; omega, e⟩
theorem tAt_cut {α σ : Nat → Int → Int} {v l x : Int} : ∀ (n : Nat) (t : Int), 0 ≤ t → tAt (α 4) (cutS σ v 1) (cutS σ v 2) l x (-4) n t = tAt (α 4) (σ 1) (σ 2) l x v n t
  | 0, _, _ => rfl
  | n + 1, t, h => by
    unfold tAt
    rw [tAt_cut n (t + 1) (by omega)]
    have c1 : cutS σ v 1 t = σ 1 t := by simp [cutS]
    have c2 : cutS σ v 2 t = if t = v then 1 else σ 2 t := by simp [cutS]
    rw [c1, c2]
    by_cases z : t = v
    · rw [if_pos z, if_neg (by omega), if_neg (by omega)]
    · rw [if_neg z]
      by_cases y : σ 2 t = 0 ∧ α 4 t = l ∧ σ 1 t = x
      · rw [if_pos ⟨by omega, y⟩, if_pos ⟨z, y⟩]
      · rw [if_neg (fun q => y q.2), if_neg (fun q => y q.2)]
theorem pu_cut {α σ : Nat → Int → Int} {v : Int} : ∀ (k : Nat) (n : Int) (q : Dq), pu α (cutS σ v) (-4) k n q = pu α σ v k n q
  | 0, _, _ => rfl
  | k + 1, n, q => by
    have e : ps α (cutS σ v) (-4) q = ps α σ v q := by unfold ps; rw [tAt_cut _ _ (by omega)]
    unfold pu
    rw [e, pu_cut k]
theorem pu_nb {α σ : Nat → Int → Int} {a b : Int} (ha : a < 0) (hb : b < 0) : ∀ (k : Nat) (n : Int) (q : Dq), pu α σ a k n q = pu α σ b k n q
  | 0, _, _ => rfl
  | k + 1, n, q => by
    have e : ps α σ a q = ps α σ b q := by unfold ps; rw [tAt_n ha hb _ _ (by omega)]
    unfold pu
    rw [e, pu_nb ha hb k]
def alI (I : It) : It := upI (cpN I 0 11 42) 138 462 0
theorem TF.al {I : It} : TF I (alI I) := TF.cp.up (by omega)
theorem RT.al {I : It} {α σ : Nat → Int → Int} (hW : WF α) (h : RT 0 I α σ) : RT (42 * 11) (alI I) α σ := fun t a c => by
  have := hW.2.2.1
  unfold alI
  rw [upI_k (by omega), upI_k (by omega), show (42 * 11 + 29 + t : Int) = 42 * 11 + (29 + t) by omega, show (42 * 11 + 35 + t : Int) = 42 * 11 + (35 + t) by omega, cpN_i (by omega), cpN_i (by omega), show (42 * 0 + (29 + t) : Int) = 0 + 29 + t by omega, show (42 * 0 + (35 + t) : Int) = 0 + 35 + t by omega]
  exact h t a c
theorem alI_0 (I : It) : alI I 138 (42 * 11) = 0 := by unfold alI; rw [show (42 * 11 : Int) = 462 by omega, upI_s]
def yrQ (α : Nat → Int → Int) (z k : Int) : Dq := (((7919 * z + 6151 * k + 1) * (7919 * z + 6151 * k + 1) % 65521) % α 0 1, ((7919 * z + 6151 * k + 1) * (7919 * z + 6151 * k + 1) % 65521 / 8) % α 0 0, ((7919 * z + 6151 * k + 1) * (7919 * z + 6151 * k + 1) % 65521 / 256) % 10, -4)
noncomputable def yrC (α σ : Nat → Int → Int) (z t : Int) : Nat → Int
  | 0 => 0
  | k + 1 => yrC α σ z t k + b2 ((pu α σ (-1) 60 1 (yrQ α z (k : Int))).2.2.2.2 ≠ -4 ∧ (t = -1 ∨ (pu α σ (-1) 60 1 (yrQ α z (k : Int))).2.2.2.2 = t))
theorem yrC_r (α σ : Nat → Int → Int) (z t : Int) : ∀ k : Nat, 0 ≤ yrC α σ z t k ∧ yrC α σ z t k ≤ k
  | 0 => ⟨Int.le_refl _, Int.le_refl _⟩
  | k + 1 => by
    have h := yrC_r α σ z t k
    have h2 := b2_or ((pu α σ (-1) 60 1 (yrQ α z (k : Int))).2.2.2.2 ≠ -4 ∧ (t = -1 ∨ (pu α σ (-1) 60 1 (yrQ α z (k : Int))).2.2.2.2 = t))
    unfold yrC; omega
noncomputable def yrA (α σ : Nat → Int → Int) (z n t : Int) : Int := if (0 ≤ z ∧ z ≤ 9999) ∧ (1 ≤ n ∧ n ≤ 60) ∧ (-1 ≤ t ∧ t < α 0 5) then (if 0 ≤ t ∧ σ 2 t ≠ 0 then -2 else yrC α σ z t n.toNat) else -1
theorem yr_x {z k : Int} (hz : 0 ≤ z ∧ z ≤ 9999) (hk : 0 ≤ k ∧ k ≤ 60) : (0 ≤ 7919 * z + 6151 * k + 1 ∧ 7919 * z + 6151 * k + 1 ≤ 100000000) ∧ 0 ≤ (7919 * z + 6151 * k + 1) * (7919 * z + 6151 * k + 1) ∧ (7919 * z + 6151 * k + 1) * (7919 * z + 6151 * k + 1) ≤ 10000000000000000 := by
  have h1 : 0 ≤ 7919 * z + 6151 * k + 1 ∧ 7919 * z + 6151 * k + 1 ≤ 100000000 := by omega
  refine ⟨h1, Int.mul_nonneg h1.1 h1.1, ?_⟩
  have := Int.mul_le_mul h1.2 h1.2 h1.1 (by omega)
  simpa using this
theorem yrQ_in {α : Nat → Int → Int} (hW : WF α) (z k : Int) : inD α (yrQ α z k) := by
  have w0 := hW.1
  have w1 := hW.2.1
  have e1 := emod_r (x := (7919 * z + 6151 * k + 1) * (7919 * z + 6151 * k + 1) % 65521) (y := α 0 1) (by omega)
  have e2 := emod_r (x := (7919 * z + 6151 * k + 1) * (7919 * z + 6151 * k + 1) % 65521 / 8) (y := α 0 0) (by omega)
  have e3 := emod_r (x := (7919 * z + 6151 * k + 1) * (7919 * z + 6151 * k + 1) % 65521 / 256) (y := 10) (by omega)
  exact ⟨e1, e2, by unfold yrQ; dsimp only; omega⟩
theorem pu_by {α σ : Nat → Int → Int} {as : Int} (hW : WF α) : ∀ (k : Nat) (n : Int) (q : Dq), q.2.2.2 = -4 → (pu α σ as k n q).2.2.2.2 = -4 ∨ (0 ≤ (pu α σ as k n q).2.2.2.2 ∧ (pu α σ as k n q).2.2.2.2 < α 0 5)
  | 0, n, q, h => Or.inl h
  | k + 1, n, q, h => by
    unfold pu; split
    · rename_i e; exact pu_by hW k (n + 1) _ e
    · rename_i e
      right
      have w5 := hW.2.2.1
      have hq : ps α σ as q = (fL α q.1 q.2.2.1, fX α q.1 q.2.1, q.2.2.1, tAt (α 4) (σ 1) (σ 2) (fL α q.1 q.2.2.1) (fX α q.1 q.2.1) as (α 0 5).toNat 0) := if_pos h
      rw [hq] at e ⊢
      obtain ⟨a, b, _⟩ := tAt_ex (α 0 5).toNat 0 (by omega) e
      exact ⟨by dsimp only; omega, by dsimp only; omega⟩
theorem m_alone {l : Launch} {g : Gt} {d : Nat} {Z : Zt} {I : It} {P : Pt'} (hM : LayM Z) (hN : LayQ P) : Mt l g mX12_alone (d + 1) 0 0 [vA 131] Z I P (QV (fun I' => I' = alI I) Z P) := by
  refine Mt.of kmX12_alone (ls := [vA 131]) (fun _ => rfl) (fun _ => rfl) (okf_k (okf_n rfl)) (fun hok => ?_)
  refine ev_aload_0 0 dX12_alone_0 ?_
  refine ev_iconst 1 dX12_alone_1 ⟨by decide, by decide⟩ ?_
  refine ev_bipush 2 dX12_alone_2 ⟨by decide, by decide⟩ ?_
  refine ev_cVv_2 4 dX12_alone_4 kmX12_copies lk_X12_145 (kd_131 hM) (m_copies hM hN (by omega) (by omega) (by omega)) rfl rfl (fun I4 f4 => ?_)
  refine ev_aload_0 7 dX12_alone_7 ?_
  refine ev_getA 8 8 dX12_alone_8 fa_X12_29 (kd_131 hM) (pr_131_8 hN) rfl ?_
  refine ev_sipush 11 dX12_alone_11 ⟨by decide, by decide⟩ ?_
  refine ev_iconst 14 dX12_alone_14 ⟨by decide, by decide⟩ ?_
  refine ev_iast 15 dX12_alone_15 (kd_138 hM) ⟨by omega, by have := (ln_138 hM); omega⟩ ?_
  refine ev_vret 16 dX12_alone_16 ?_ rfl
  exact QV_of (by rw [f4]; rfl)
theorem m_lands {l : Launch} {g : Gt} {d : Nat} {Z : Zt} {I : It} {P : Pt'} (hM : LayM Z) (hN : LayQ P) {α : Nat → Int → Int} (hV : VM I α) (hW : WF α) {σ : Nat → Int → Int} (hz : I 138 (42 * 11) = 0) (hR : RT (42 * 11) I α σ) {L x w v : Int} (hL : 0 ≤ L ∧ L < α 0 1) (hx : 0 ≤ x ∧ x < α 0 0) (hw : 0 ≤ w ∧ w ≤ 9) (hAP : AP α σ ∨ v < 0) : Mt l g mX12_lands (d + 3) 0 0 [vA 131, vI L, vI x, vI w, vI v] Z I P (QM (fun r I' => r = (pu α σ v 60 1 (L, x, w, -4)).2.2.2.2 ∧ I' 131 22 = (if (pu α σ v 60 1 (L, x, w, -4)).1 = -4 then 60 else (pu α σ v 60 1 (L, x, w, -4)).1) ∧ TF I I') Z P) := by
  have v0 := hV.1.1
  have v1 := hV.1.2.1
  have v2 := hV.1.2.2.1
  have v3 := hV.1.2.2.2.1
  have v4 := hV.1.2.2.2.2
  have w0 := hW.1
  have w1 := hW.2.1
  have w5 := hW.2.2.1
  have w10 := hW.2.2.2.1
  refine Mt.of kmX12_lands (ls := [vA 131, vI L, vI x, vI w, vI v, vX, vX]) (fun _ => rfl) (fun _ => rfl) (okf_k (okf_k (okf_k (okf_k (okf_k (okf_n rfl)))))) (fun hok => ?_)
  have pr := pu_r (α := α) (σ := σ) (as := v) 60 1 (L, x, w, -4) rfl
  have done : ∀ (J : It) (b : Int), 0 ≤ b → b = (pu α σ v 60 1 (L, x, w, -4)).2.2.2.2 → J 131 22 = (pu α σ v 60 1 (L, x, w, -4)).1 → (pu α σ v 60 1 (L, x, w, -4)).1 ≠ -4 → TF I J → Ev l g mX12_lands (d + 3) 0 0 Z J P 20 [vA 131, vI L, vI x, vI w, vI v, vI 0, vI b] [] (QM (fun r I' => r = (pu α σ v 60 1 (L, x, w, -4)).2.2.2.2 ∧ I' 131 22 = (if (pu α σ v 60 1 (L, x, w, -4)).1 = -4 then 60 else (pu α σ v 60 1 (L, x, w, -4)).1) ∧ TF I I') Z P) := by
    intro J b h0 h1 h2 h3 tf
    refine ev_iload_6 20 dX12_lands_20 ?_
    refine ev_if_ge 22 59 dX12_lands_22 rfl (fun h22 => ?_) (fun h22 => ?_)
    · refine ev_iload_6 59 dX12_lands_59 ?_
      refine ev_iret 61 dX12_lands_61 ?_ rfl
      exact QM_of ⟨h1, by rw [if_neg h3]; exact h2, tf⟩
    · exfalso; omega
  have loop : ∀ (k : Nat) (n : Int) (J : It) (q : Dq), 0 ≤ n → n + k = 60 → J 131 22 = n → TF I J → inD α q → q.2.2.2 = -4 → J 138 (42 * 11 + 1 + 0) = q.1 → J 138 (42 * 11 + 8 + 0) = q.2.1 → J 138 (42 * 11 + 15 + 0) = q.2.2.1 → RT (42 * 11) J α σ → (pu α σ v 60 1 (L, x, w, -4)) = pu α σ v k (n + 1) q → Ev l g mX12_lands (d + 3) 0 0 Z J P 20 [vA 131, vI L, vI x, vI w, vI v, vI 0, vI (-4)] [] (QM (fun r I' => r = (pu α σ v 60 1 (L, x, w, -4)).2.2.2.2 ∧ I' 131 22 = (if (pu α σ v 60 1 (L, x, w, -4)).1 = -4 then 60 else (pu α σ v 60 1 (L, x, w, -4)).1) ∧ TF I I') Z P) := by
    intro k
    induction k with
    | zero =>
      intro n J q h0 h1 hn tf hi hq i1 i2 i3 hr hp
      have p1 : (pu α σ v 60 1 (L, x, w, -4)).1 = -4 := by rw [hp]; rfl
      refine ev_iload_6 20 dX12_lands_20 ?_
      refine ev_if_ge 22 59 dX12_lands_22 rfl (fun h22 => ?_) (fun h22 => ?_)
      · refine ev_iload_6 59 dX12_lands_59 ?_
        refine ev_iret 61 dX12_lands_61 ?_ rfl
        first | (exfalso; omega) | exact QM_of ⟨by rw [hp]; exact hq.symm, by rw [if_pos p1]; omega, tf⟩
      · refine ev_aload_0 25 dX12_lands_25 ?_
        refine ev_gI 26 22 22 dX12_lands_26 fa_X12_226 (kd_131 hM) rfl rfl rfl ?_
        try simp only [hn]
        refine ev_bipush 29 dX12_lands_29 ⟨by decide, by decide⟩ ?_
        refine ev_icmp_ge 31 59 dX12_lands_31 rfl (fun h31 => ?_) (fun h31 => ?_)
        · refine ev_iload_6 59 dX12_lands_59 ?_
          refine ev_iret 61 dX12_lands_61 ?_ rfl
          first | (exfalso; omega) | exact QM_of ⟨by rw [hp]; exact hq.symm, by rw [if_pos p1]; omega, tf⟩
        · exfalso; omega
    | succ k ih =>
      intro n J q h0 h1 hn tf hi hq i1 i2 i3 hr hp
      have tv := tAt_nv (σ := σ) hW hAP (fL α q.1 q.2.2.1) (fX α q.1 q.2.1)
      have hq2 : ps α σ v q = (fL α q.1 q.2.2.1, fX α q.1 q.2.1, q.2.2.1, tAt (α 4) (σ 1) (σ 2) (fL α q.1 q.2.2.1) (fX α q.1 q.2.1) v (α 0 5).toNat 0) := if_pos hq
      have hp1 : (ps α σ v q).2.2.2 = -4 → (pu α σ v 60 1 (L, x, w, -4)) = pu α σ v k (n + 1 + 1) (ps α σ v q) := fun z => hp.trans (if_pos z)
      have hp2 : (ps α σ v q).2.2.2 ≠ -4 → (pu α σ v 60 1 (L, x, w, -4)) = (n + 1, ps α σ v q) := fun z => hp.trans (if_neg z)
      refine ev_iload_6 20 dX12_lands_20 ?_
      refine ev_if_ge 22 59 dX12_lands_22 rfl (fun h22 => ?_) (fun h22 => ?_)
      · refine ev_iload_6 59 dX12_lands_59 ?_
        refine ev_iret 61 dX12_lands_61 ?_ rfl
        exfalso; omega
      · refine ev_aload_0 25 dX12_lands_25 ?_
        refine ev_gI 26 22 22 dX12_lands_26 fa_X12_226 (kd_131 hM) rfl rfl rfl ?_
        try simp only [hn]
        try simp only [e22]
        refine ev_bipush 29 dX12_lands_29 ⟨by decide, by decide⟩ ?_
        refine ev_icmp_ge 31 59 dX12_lands_31 rfl (fun h31 => ?_) (fun h31 => ?_)
        · refine ev_iload_6 59 dX12_lands_59 ?_
          refine ev_iret 61 dX12_lands_61 ?_ rfl
          exfalso; omega
        · refine ev_aload_0 34 dX12_lands_34 ?_
          refine ev_bipush 35 dX12_lands_35 ⟨by decide, by decide⟩ ?_
          refine ev_iload_5 37 dX12_lands_37 ?_
          refine ev_iload_4 39 dX12_lands_39 ?_
          refine ev_cVm_3 41 dX12_lands_41 kmX12_goes lk_X12_154 (kd_131 hM) (m_goes hM hN (tf.vm hV) hW (by omega) (by omega) i1 i2 i3 hi.1 hi.2.1 hr _) rfl rfl (fun x41 I41 f41 => ?_)
          have e22 : I41 131 22 = n := by
            rcases f41 with ⟨f1, f2, f3⟩ | ⟨f1, f2, f3⟩
            · rw [f3, drI_f (by omega)]; exact hn
            · rw [f3, upI_A (by omega), drI_f (by omega)]; exact hn
          refine ev_istore_6 44 dX12_lands_44 rfl rfl ?_
          refine ev_aload_0 46 dX12_lands_46 ?_
          refine ev_dupA 47 dX12_lands_47 ?_
          refine ev_gI 48 22 22 dX12_lands_48 fa_X12_226 (kd_131 hM) rfl rfl rfl ?_
          try simp only [hn]
          try simp only [e22]
          refine ev_iconst 51 dX12_lands_51 ⟨by decide, by decide⟩ ?_
          refine ev_iadd 52 dX12_lands_52 ⟨by omega, by omega⟩ ?_
          refine ev_pI 53 22 22 dX12_lands_53 fp_X12_226 (kd_131 hM) rfl rfl ?_
          refine ev_goto 56 20 dX12_lands_56 rfl ?_
          rcases f41 with ⟨f1, f2, f3⟩ | ⟨f1, f2, f3⟩
          · rw [if_pos f1] at tv
            have e : (ps α σ v q).2.2.2 = -4 := by rw [hq2]; exact tv
            subst f2
            refine ih (n + 1) _ (ps α σ v q) (by omega) (by omega) (upI_s _ _ _ _) ((by rw [f3]; exact tf.dr (by omega) : TF I I41).up2) (ps_in hW hi) e ?_ ?_ ?_ ?_ (hp1 e)
            · rw [upI_A (by omega), f3, drI_l rfl, hq2]
            · rw [upI_A (by omega), f3, drI_x rfl, hq2]
            · rw [upI_A (by omega), f3, drI_o (by omega) (by omega), hq2]; exact i3
            · have hr2 : RT (42 * 11) I41 α σ := by rw [f3]; exact RT.dr (by omega) hr
              exact hr2.fr hW (fun i _ _ => by rw [upI_A (by omega)])
          · rw [if_neg f1] at tv
            have e : (ps α σ v q).2.2.2 ≠ -4 := by rw [hq2]; dsimp only; rw [tv]; omega
            have pe := hp2 e
            refine done _ _ (by omega) (by rw [pe, hq2, f2]; exact tv.symm) (by rw [upI_s, pe]) (by rw [pe]; dsimp only; omega) ((by rw [f3]; exact (tf.dr (by omega)).up (by omega) : TF I I41).up2)
  refine ev_aload_0 0 dX12_lands_0 ?_
  refine ev_bipush 1 dX12_lands_1 ⟨by decide, by decide⟩ ?_
  refine ev_iload_1 3 dX12_lands_3 ?_
  refine ev_iload_2 4 dX12_lands_4 ?_
  refine ev_iload_3 5 dX12_lands_5 ?_
  refine ev_cVm_4 6 dX12_lands_6 kmX12_more lk_X12_168 (kd_131 hM) (m_more hM hN (by omega) (by omega) _ _ _) rfl rfl (fun x6 I6 f6 => ?_)
  obtain ⟨e6, f6⟩ := f6
  rw [hz] at e6 f6
  subst e6
  refine ev_istore_5 9 dX12_lands_9 rfl rfl ?_
  refine ev_bipush 11 dX12_lands_11 ⟨by decide, by decide⟩ ?_
  refine ev_istore_6 13 dX12_lands_13 rfl rfl ?_
  refine ev_aload_0 15 dX12_lands_15 ?_
  refine ev_iconst 16 dX12_lands_16 ⟨by decide, by decide⟩ ?_
  refine ev_pI 17 22 22 dX12_lands_17 fp_X12_226 (kd_131 hM) rfl rfl ?_
  have tf6 : TF I I6 := by rw [f6]; exact ⟨fun a b c => moreI_f c, fun j _ => by rw [moreI_f (by omega)], fun i c => moreI_o (by omega) (by omega)⟩
  refine loop 60 0 _ (L, x, w, -4) (by omega) (by omega) (upI_s _ _ _ _) tf6.up2 ⟨hL, hx, hw⟩ rfl ?_ ?_ ?_ ?_ rfl
  · rw [upI_A (by omega), f6]; unfold moreI; simp (disch := omega) only [upI_k, upI_s]
  · rw [upI_A (by omega), f6]; unfold moreI; simp (disch := omega) only [upI_k, upI_s]
  · rw [upI_A (by omega), f6]; unfold moreI; simp (disch := omega) only [upI_k, upI_s]
  · have hr2 : RT (42 * 11) I6 α σ := by rw [f6]; exact hR.more (by omega)
    exact hr2.fr hW (fun i _ _ => by rw [upI_A (by omega)])
theorem m_sent {l : Launch} {g : Gt} {d : Nat} {Z : Zt} {I : It} {P : Pt'} (hM : LayM Z) (hN : LayQ P) {α : Nat → Int → Int} (hV : VM I α) (hW : WF α) {σ : Nat → Int → Int} (hR : RT 0 I α σ) (hWS : WS α σ) (hAP : AP α σ) (a b w : Int) : Mt l g mX12_sent (d + 4) 0 0 [vA 131, vI a, vI b, vI w] Z I P (QM (fun r I' => r = seA α σ a b w ∧ TF I I') Z P) := by
  have v0 := hV.1.1
  have v1 := hV.1.2.1
  have v2 := hV.1.2.2.1
  have v3 := hV.1.2.2.2.1
  have v4 := hV.1.2.2.2.2
  have w0 := hW.1
  have w1 := hW.2.1
  have w5 := hW.2.2.1
  have w10 := hW.2.2.2.1
  refine Mt.of kmX12_sent (ls := [vA 131, vI a, vI b, vI w, vX, vX, vX]) (fun _ => rfl) (fun _ => rfl) (okf_k (okf_k (okf_k (okf_k (okf_n rfl))))) (fun hok => ?_)
  have loop : ((0 ≤ a ∧ a < α 0 5) ∧ (0 ≤ b ∧ b < α 0 5) ∧ a ≠ b ∧ (0 ≤ w ∧ w ≤ 1)) → (σ 2 a = 0 ∧ σ 2 b = 0) → ∀ (k n : Nat) (f e : Int) (J : It), n + k = 10 → TF I J → f = (seF α σ a b (n : Nat)).1 → (e = (seF α σ a b (n : Nat)).2 ∨ ((seF α σ a b (n : Nat)).1 = -4 ∧ e = 99 ∧ (seF α σ a b (n : Nat)).2 = 61)) → (((seF α σ a b (n : Nat)).1 = -4 ∧ (seF α σ a b (n : Nat)).2 = 61) ∨ (0 ≤ (seF α σ a b (n : Nat)).1 ∧ (seF α σ a b (n : Nat)).2 ≤ 60)) → Ev l g mX12_sent (d + 4) 0 0 Z J P 63 [vA 131, vI a, vI b, vI w, vI f, vI e, vI n] [] (QM (fun r I' => r = seA α σ a b w ∧ TF I I') Z P) := by
    intro hg hc k
    induction k with
    | zero =>
      intro n f e J h1 tf hq1 hq2 hq3
      obtain rfl : n = 10 := by omega
      refine ev_iload_6 63 dX12_sent_63 ?_
      refine ev_bipush 65 dX12_sent_65 ⟨by decide, by decide⟩ ?_
      refine ev_icmp_ge 67 124 dX12_sent_67 rfl (fun h67 => ?_) (fun h67 => ?_)
      · refine ev_iload_4 124 dX12_sent_124 ?_
        refine ev_if_lt 126 133 dX12_sent_126 rfl (fun h126 => ?_) (fun h126 => ?_)
        · refine ev_iload_4 133 dX12_sent_133 ?_
          refine ev_goto 135 140 dX12_sent_135 rfl ?_
          refine ev_iret 140 dX12_sent_140 ?_ rfl
          refine QM_of ⟨?_, tf⟩
          unfold seA
          rw [if_pos hg, if_pos hc]
          first
            | (rw [if_pos (by omega)]; omega)
            | (rw [if_neg (by omega), if_pos (by omega)]; omega)
            | (rw [if_neg (by omega), if_neg (by omega)]; omega)
        · refine ev_iload_3 129 dX12_sent_129 ?_
          refine ev_zne 130 138 dX12_sent_130 rfl (fun h130 => ?_) (fun h130 => ?_)
          · refine ev_iload_5 138 dX12_sent_138 ?_
            refine ev_iret 140 dX12_sent_140 ?_ rfl
            refine QM_of ⟨?_, tf⟩
            unfold seA
            rw [if_pos hg, if_pos hc]
            first
              | (rw [if_pos (by omega)]; omega)
              | (rw [if_neg (by omega), if_pos (by omega)]; omega)
              | (rw [if_neg (by omega), if_neg (by omega)]; omega)
          · refine ev_iload_4 133 dX12_sent_133 ?_
            refine ev_goto 135 140 dX12_sent_135 rfl ?_
            refine ev_iret 140 dX12_sent_140 ?_ rfl
            refine QM_of ⟨?_, tf⟩
            unfold seA
            rw [if_pos hg, if_pos hc]
            first
              | (rw [if_pos (by omega)]; omega)
              | (rw [if_neg (by omega), if_pos (by omega)]; omega)
              | (rw [if_neg (by omega), if_neg (by omega)]; omega)
      · exfalso; omega
    | succ k ih =>
      intro n f e J h1 tf hq1 hq2 hq3
      have hV1 := (tf.tr TF.al).vm hV
      have hR1 : RT 0 J α σ := hR.fr hW (fun i _ c => tf.2.2 i (by omega))
      have hR2 := RT.al hW hR1
      have m1 := (hW.2.2.2.2.2.2.1 a hg.1.1 hg.1.2).1
      have m2 := hWS.2.2.1 a hg.1.1 hg.1.2
      have ex : alI J 138 (29 + a) = σ 1 a := by rw [TF.al.2.2 _ (by omega)]; exact hR1.x hg.1.1 hg.1.2 (by omega)
      refine ev_iload_6 63 dX12_sent_63 ?_
      refine ev_bipush 65 dX12_sent_65 ⟨by decide, by decide⟩ ?_
      refine ev_icmp_ge 67 124 dX12_sent_67 rfl (fun h67 => ?_) (fun h67 => ?_)
      · exfalso; omega
      · refine ev_aload_0 70 dX12_sent_70 ?_
        refine ev_cVv_0 71 dX12_sent_71 kmX12_alone lk_X12_229 (kd_131 hM) (m_alone hM hN) rfl rfl (fun I71 f71 => ?_)
        subst f71
        refine ev_aload_0 74 dX12_sent_74 ?_
        refine ev_aload_0 75 dX12_sent_75 ?_
        refine ev_iload_1 76 dX12_sent_76 ?_
        refine ev_cVp_1 77 dX12_sent_77 kmX12_levelOf lk_X12_127 (kd_131 hM) (m_levelOf hM hN hV1 hW (by omega)) rfl rfl ?_
        try simp only [ex]
        refine ev_aload_0 80 dX12_sent_80 ?_
        refine ev_getA 81 8 dX12_sent_81 fa_X12_29 (kd_131 hM) (pr_131_8 hN) rfl ?_
        refine ev_bipush 84 dX12_sent_84 ⟨by decide, by decide⟩ ?_
        refine ev_iload_1 86 dX12_sent_86 ?_
        refine ev_iadd 87 dX12_sent_87 ⟨by omega, by omega⟩ ?_
        refine ev_iald 88 dX12_sent_88 (kd_138 hM) ⟨by omega, by have := (ln_138 hM); omega⟩ ?_
        try simp only [ex]
        refine ev_iload_6 89 dX12_sent_89 ?_
        refine ev_iload_1 91 dX12_sent_91 ?_
        refine ev_cVm_4 92 dX12_sent_92 kmX12_lands lk_X12_232 (kd_131 hM) (m_lands hM hN hV1 hW (alI_0 J) hR2 (by omega) (by omega) (by omega) (Or.inl hAP)) rfl rfl (fun x92 I92 f92 => ?_)
        obtain ⟨g1, g2, g3⟩ := f92
        have sx : seF α σ a b (n + 1) = if (pu α σ a 60 1 (α 4 a, σ 1 a, (n : Int), -4)).2.2.2.2 = b ∧ (pu α σ a 60 1 (α 4 a, σ 1 a, (n : Int), -4)).1 < (seF α σ a b n).2 then ((n : Int), (pu α σ a 60 1 (α 4 a, σ 1 a, (n : Int), -4)).1) else seF α σ a b n := rfl
        have pr := pu_r (α := α) (σ := σ) (as := a) 60 1 (α 4 a, σ 1 a, (n : Int), -4) rfl
        have pr2 : (pu α σ a 60 1 (α 4 a, σ 1 a, (n : Int), -4)).1 = -4 → I92 131 22 = 60 := fun z => by rw [g2, if_pos z]
        have pr3 : (pu α σ a 60 1 (α 4 a, σ 1 a, (n : Int), -4)).1 ≠ -4 → I92 131 22 = (pu α σ a 60 1 (α 4 a, σ 1 a, (n : Int), -4)).1 := fun z => by rw [g2, if_neg z]
        refine ev_iload_2 95 dX12_sent_95 ?_
        refine ev_jne 96 118 dX12_sent_96 rfl (fun h96 => ?_) (fun h96 => ?_)
        · refine ev_iinc_6 118 dX12_sent_118 ⟨by omega, by omega⟩ rfl rfl ?_
          refine ev_goto 121 63 dX12_sent_121 rfl ?_
          rw [show (n : Int) + 1 = ((n + 1 : Nat) : Int) by omega]
          first
            | exact ih (n + 1) _ _ _ (by omega) ((tf.tr TF.al).tr g3) (by rw [sx, if_neg (by omega)]; exact hq1) (by rw [sx, if_neg (by omega)]; exact hq2) (by rw [sx, if_neg (by omega)]; exact hq3)
            | exact ih (n + 1) _ _ _ (by omega) ((tf.tr TF.al).tr g3) (by rw [sx, if_pos (by omega)]) (by rw [sx, if_pos (by omega)]; left; dsimp only; omega) (by rw [sx, if_pos (by omega)]; dsimp only; omega)
        · refine ev_aload_0 99 dX12_sent_99 ?_
          refine ev_gI 100 22 22 dX12_sent_100 fa_X12_226 (kd_131 hM) rfl rfl rfl ?_
          try simp only [ex]
          refine ev_iload_5 103 dX12_sent_103 ?_
          refine ev_icmp_ge 105 118 dX12_sent_105 rfl (fun h105 => ?_) (fun h105 => ?_)
          · refine ev_iinc_6 118 dX12_sent_118 ⟨by omega, by omega⟩ rfl rfl ?_
            refine ev_goto 121 63 dX12_sent_121 rfl ?_
            rw [show (n : Int) + 1 = ((n + 1 : Nat) : Int) by omega]
            first
              | exact ih (n + 1) _ _ _ (by omega) ((tf.tr TF.al).tr g3) (by rw [sx, if_neg (by omega)]; exact hq1) (by rw [sx, if_neg (by omega)]; exact hq2) (by rw [sx, if_neg (by omega)]; exact hq3)
              | exact ih (n + 1) _ _ _ (by omega) ((tf.tr TF.al).tr g3) (by rw [sx, if_pos (by omega)]) (by rw [sx, if_pos (by omega)]; left; dsimp only; omega) (by rw [sx, if_pos (by omega)]; dsimp only; omega)
          · refine ev_iload_6 108 dX12_sent_108 ?_
            refine ev_istore_4 110 dX12_sent_110 rfl rfl ?_
            refine ev_aload_0 112 dX12_sent_112 ?_
            refine ev_gI 113 22 22 dX12_sent_113 fa_X12_226 (kd_131 hM) rfl rfl rfl ?_
            try simp only [ex]
            refine ev_istore_5 116 dX12_sent_116 rfl rfl ?_
            refine ev_iinc_6 118 dX12_sent_118 ⟨by omega, by omega⟩ rfl rfl ?_
            refine ev_goto 121 63 dX12_sent_121 rfl ?_
            rw [show (n : Int) + 1 = ((n + 1 : Nat) : Int) by omega]
            first
              | exact ih (n + 1) _ _ _ (by omega) ((tf.tr TF.al).tr g3) (by rw [sx, if_neg (by omega)]; exact hq1) (by rw [sx, if_neg (by omega)]; exact hq2) (by rw [sx, if_neg (by omega)]; exact hq3)
              | exact ih (n + 1) _ _ _ (by omega) ((tf.tr TF.al).tr g3) (by rw [sx, if_pos (by omega)]) (by rw [sx, if_pos (by omega)]; left; dsimp only; omega) (by rw [sx, if_pos (by omega)]; dsimp only; omega)
  refine ev_aload_0 0 dX12_sent_0 ?_
  refine ev_iload_1 1 dX12_sent_1 ?_
  refine ev_cVp_1 2 dX12_sent_2 kmX12_isTown lk_X12_133 (kd_131 hM) (m_isTown hM hN hV hW _) rfl rfl ?_
  refine ev_ifb_eq 5 31 dX12_sent_5 rfl (fun h5 => ?_) (fun h5 => ?_)
  · refine ev_iconst 31 dX12_sent_31 ⟨by decide, by decide⟩ ?_
    refine ev_iret 32 dX12_sent_32 ?_ rfl
    exact QM_of ⟨(if_neg (by omega)).symm, TF.rf⟩
  · refine ev_aload_0 8 dX12_sent_8 ?_
    refine ev_iload_2 9 dX12_sent_9 ?_
    refine ev_cVp_1 10 dX12_sent_10 kmX12_isTown lk_X12_133 (kd_131 hM) (m_isTown hM hN hV hW _) rfl rfl ?_
    refine ev_ifb_eq 13 31 dX12_sent_13 rfl (fun h13 => ?_) (fun h13 => ?_)
    · refine ev_iconst 31 dX12_sent_31 ⟨by decide, by decide⟩ ?_
      refine ev_iret 32 dX12_sent_32 ?_ rfl
      exact QM_of ⟨(if_neg (by omega)).symm, TF.rf⟩
    · refine ev_iload_1 16 dX12_sent_16 ?_
      refine ev_iload_2 17 dX12_sent_17 ?_
      refine ev_icmp_eq 18 31 dX12_sent_18 rfl (fun h18 => ?_) (fun h18 => ?_)
      · refine ev_iconst 31 dX12_sent_31 ⟨by decide, by decide⟩ ?_
        refine ev_iret 32 dX12_sent_32 ?_ rfl
        exact QM_of ⟨(if_neg (by omega)).symm, TF.rf⟩
      · refine ev_iload_3 21 dX12_sent_21 ?_
        refine ev_i2l 22 dX12_sent_22 ?_
        refine ev_lconst0 23 dX12_sent_23 ?_
        refine ev_lconst1 24 dX12_sent_24 ?_
        refine ev_cSp_3 25 dX12_sent_25 kmX12_in lk_X12_62 (m_in _ _ _) rfl rfl ?_
        refine ev_ifb_ne 28 33 dX12_sent_28 rfl (fun h28 => ?_) (fun h28 => ?_)
        · have c1 := hWS.2.2.2.1 a (by omega) (by omega)
          have c2 := hWS.2.2.2.1 b (by omega) (by omega)
          have hRT := hR
          refine ev_aload_0 33 dX12_sent_33 ?_
          refine ev_iload_1 34 dX12_sent_34 ?_
          refine ev_cVp_1 35 dX12_sent_35 kmX12_isCut lk_X12_165 (kd_131 hM) (m_isCut hM hN hV hW hRT (by omega) (by omega)) rfl rfl ?_
          refine ev_ifb_ne 38 49 dX12_sent_38 rfl (fun h38 => ?_) (fun h38 => ?_)
          · refine ev_bipush 49 dX12_sent_49 ⟨by decide, by decide⟩ ?_
            refine ev_iret 51 dX12_sent_51 ?_ rfl
            exact QM_of ⟨((if_pos (by omega)).trans (if_neg (by omega))).symm, TF.rf⟩
          · refine ev_aload_0 41 dX12_sent_41 ?_
            refine ev_iload_2 42 dX12_sent_42 ?_
            refine ev_cVp_1 43 dX12_sent_43 kmX12_isCut lk_X12_165 (kd_131 hM) (m_isCut hM hN hV hW hRT (by omega) (by omega)) rfl rfl ?_
            refine ev_ifb_eq 46 52 dX12_sent_46 rfl (fun h46 => ?_) (fun h46 => ?_)
            · refine ev_bipush 52 dX12_sent_52 ⟨by decide, by decide⟩ ?_
              refine ev_istore_4 54 dX12_sent_54 rfl rfl ?_
              refine ev_bipush 56 dX12_sent_56 ⟨by decide, by decide⟩ ?_
              refine ev_istore_5 58 dX12_sent_58 rfl rfl ?_
              refine ev_iconst 60 dX12_sent_60 ⟨by decide, by decide⟩ ?_
              refine ev_istore_6 61 dX12_sent_61 rfl rfl ?_
              exact loop (by omega) (by omega) 10 0 _ _ I (by omega) TF.rf rfl (Or.inr ⟨rfl, rfl, rfl⟩) (Or.inl ⟨rfl, rfl⟩)
            · refine ev_bipush 49 dX12_sent_49 ⟨by decide, by decide⟩ ?_
              refine ev_iret 51 dX12_sent_51 ?_ rfl
              exact QM_of ⟨((if_pos (by omega)).trans (if_neg (by omega))).symm, TF.rf⟩
        · refine ev_iconst 31 dX12_sent_31 ⟨by decide, by decide⟩ ?_
          refine ev_iret 32 dX12_sent_32 ?_ rfl
          exact QM_of ⟨(if_neg (by omega)).symm, TF.rf⟩
theorem m_fall {l : Launch} {g : Gt} {d : Nat} {Z : Zt} {I : It} {P : Pt'} (hM : LayM Z) (hN : LayQ P) {α : Nat → Int → Int} (hV : VM I α) (hW : WF α) {σ : Nat → Int → Int} (hR : RT 0 I α σ) (hWS : WS α σ) (t w : Int) : Mt l g mX12_fall (d + 4) 0 0 [vA 131, vI t, vI w] Z I P (QM (fun r I' => r = faA α σ t w ∧ TF I I') Z P) := by
  have v0 := hV.1.1
  have v1 := hV.1.2.1
  have v2 := hV.1.2.2.1
  have v3 := hV.1.2.2.2.1
  have v4 := hV.1.2.2.2.2
  have w0 := hW.1
  have w1 := hW.2.1
  have w5 := hW.2.2.1
  have w10 := hW.2.2.2.1
  refine Mt.of kmX12_fall (ls := [vA 131, vI t, vI w, vX]) (fun _ => rfl) (fun _ => rfl) (okf_k (okf_k (okf_k (okf_n rfl)))) (fun hok => ?_)
  refine ev_aload_0 0 dX12_fall_0 ?_
  refine ev_iload_1 1 dX12_fall_1 ?_
  refine ev_cVp_1 2 dX12_fall_2 kmX12_isTown lk_X12_133 (kd_131 hM) (m_isTown hM hN hV hW _) rfl rfl ?_
  try simp only [ex]
  refine ev_ifb_eq 5 18 dX12_fall_5 rfl (fun h5 => ?_) (fun h5 => ?_)
  · refine ev_iconst 18 dX12_fall_18 ⟨by decide, by decide⟩ ?_
    refine ev_iret 19 dX12_fall_19 ?_ rfl
    exact QM_of ⟨(if_neg (by omega)).symm, TF.rf⟩
  · refine ev_iload_2 8 dX12_fall_8 ?_
    refine ev_i2l 9 dX12_fall_9 ?_
    refine ev_lconst0 10 dX12_fall_10 ?_
    refine ev_lconst1 11 dX12_fall_11 ?_
    refine ev_cSp_3 12 dX12_fall_12 kmX12_in lk_X12_62 (m_in _ _ _) rfl rfl ?_
    try simp only [ex]
    refine ev_ifb_ne 15 20 dX12_fall_15 rfl (fun h15 => ?_) (fun h15 => ?_)
    · have c1 := hWS.2.2.2.1 t (by omega) (by omega)
      have hRT := hR
      refine ev_aload_0 20 dX12_fall_20 ?_
      refine ev_iload_1 21 dX12_fall_21 ?_
      refine ev_cVp_1 22 dX12_fall_22 kmX12_isCut lk_X12_165 (kd_131 hM) (m_isCut hM hN hV hW hRT (by omega) (by omega)) rfl rfl ?_
      try simp only [ex]
      refine ev_ifb_eq 25 31 dX12_fall_25 rfl (fun h25 => ?_) (fun h25 => ?_)
      · refine ev_aload_0 31 dX12_fall_31 ?_
        refine ev_cVv_0 32 dX12_fall_32 kmX12_alone lk_X12_229 (kd_131 hM) (m_alone hM hN) rfl rfl (fun I32 f32 => ?_)
        subst f32
        refine ev_aload_0 35 dX12_fall_35 ?_
        refine ev_getA 36 8 dX12_fall_36 fa_X12_29 (kd_131 hM) (pr_131_8 hN) rfl ?_
        refine ev_sipush 39 dX12_fall_39 ⟨by decide, by decide⟩ ?_
        refine ev_iload_1 42 dX12_fall_42 ?_
        refine ev_iadd 43 dX12_fall_43 ⟨by omega, by omega⟩ ?_
        refine ev_iconst 44 dX12_fall_44 ⟨by decide, by decide⟩ ?_
        refine ev_iast 45 dX12_fall_45 (kd_138 hM) ⟨by omega, by have := (ln_138 hM); omega⟩ ?_
        have hV2 : VM (upI (alI I) 138 (497 + t) 1) α := (TF.al.vm hV).up (by omega)
        have hz2 : upI (alI I) 138 (497 + t) 1 138 (42 * 11) = 0 := by rw [upI_k (by omega)]; exact alI_0 I
        have hR2 : RT (42 * 11) (upI (alI I) 138 (497 + t) 1) α (cutS σ t) := fun u a c => by
          obtain ⟨r1, r2⟩ := RT.al hW hR u a c
          rw [upI_k (by omega)]
          refine ⟨by simpa [cutS] using r1, ?_⟩
          by_cases z : u = t
          · subst z; rw [show (42 * 11 + 35 + u : Int) = 497 + u by omega, upI_s]; simp [cutS]
          · rw [upI_k (by omega)]; simpa [cutS, z] using r2
        have m1 := (hW.2.2.2.2.2.2.1 t (by omega) (by omega)).1
        have m2 := hWS.2.2.1 t (by omega) (by omega)
        have ex : upI (alI I) 138 (497 + t) 1 138 (29 + t) = σ 1 t := by rw [upI_k (by omega), TF.al.2.2 _ (by omega)]; exact hR.x (by omega) (by omega) (by omega)
        have ex2 : alI I 138 (29 + t) = σ 1 t := by rw [TF.al.2.2 _ (by omega)]; exact hR.x (by omega) (by omega) (by omega)
        refine ev_aload_0 46 dX12_fall_46 ?_
        refine ev_aload_0 47 dX12_fall_47 ?_
        refine ev_iload_1 48 dX12_fall_48 ?_
        refine ev_cVp_1 49 dX12_fall_49 kmX12_levelOf lk_X12_127 (kd_131 hM) (m_levelOf hM hN hV2 hW (by omega)) rfl rfl ?_
        try simp (disch := omega) only [upI_s, upI_a, upI_k]
        try simp only [ex]
        refine ev_aload_0 52 dX12_fall_52 ?_
        refine ev_getA 53 8 dX12_fall_53 fa_X12_29 (kd_131 hM) (pr_131_8 hN) rfl ?_
        refine ev_bipush 56 dX12_fall_56 ⟨by decide, by decide⟩ ?_
        refine ev_iload_1 58 dX12_fall_58 ?_
        refine ev_iadd 59 dX12_fall_59 ⟨by omega, by omega⟩ ?_
        refine ev_iald 60 dX12_fall_60 (kd_138 hM) ⟨by omega, by have := (ln_138 hM); omega⟩ ?_
        try simp (disch := omega) only [upI_s, upI_a, upI_k]
        try simp only [ex]
        try rw [ex2]
        refine ev_bipush 61 dX12_fall_61 ⟨by decide, by decide⟩ ?_
        refine ev_bipush 63 dX12_fall_63 ⟨by decide, by decide⟩ ?_
        refine ev_cVm_4 65 dX12_fall_65 kmX12_lands lk_X12_232 (kd_131 hM) (m_lands hM hN hV2 hW hz2 hR2 (by omega) (by omega) (by omega) (Or.inr (by omega))) rfl rfl (fun x65 I65 f65 => ?_)
        obtain ⟨g1, g2, g3⟩ := f65
        rw [pu_cut] at g1 g2
        have pr := pu_r (α := α) (σ := σ) (as := t) 60 1 (α 4 t, σ 1 t, 9, -4) rfl
        have pb := pu_by hW (σ := σ) (as := t) 60 1 (α 4 t, σ 1 t, 9, -4) rfl
        refine ev_istore_3 68 dX12_fall_68 rfl rfl ?_
        refine ev_iload_3 69 dX12_fall_69 ?_
        refine ev_if_lt 70 77 dX12_fall_70 rfl (fun h70 => ?_) (fun h70 => ?_)
        · refine ev_iload_3 77 dX12_fall_77 ?_
          refine ev_goto 78 85 dX12_fall_78 rfl ?_
          refine ev_iret 85 dX12_fall_85 ?_ rfl
          first
            | (exfalso; omega)
            | (refine QM_of ⟨?_, (TF.al.up (by omega)).tr g3⟩
               unfold faA
               rw [if_pos (by omega), if_pos (by omega)]
               by_cases z : w = 0
               · rw [if_pos z]; omega
               · rw [if_neg z]
                 rcases pr with ⟨p1, p2⟩ | ⟨p1, p2, p3⟩
                 · omega
                 · rw [if_neg (by omega)] at g2; omega)
        · refine ev_iload_2 73 dX12_fall_73 ?_
          refine ev_zne 74 81 dX12_fall_74 rfl (fun h74 => ?_) (fun h74 => ?_)
          · refine ev_aload_0 81 dX12_fall_81 ?_
            refine ev_gI 82 22 22 dX12_fall_82 fa_X12_226 (kd_131 hM) rfl rfl rfl ?_
            try simp (disch := omega) only [upI_s, upI_a, upI_k]
            try simp only [ex]
            refine ev_iret 85 dX12_fall_85 ?_ rfl
            first
              | (exfalso; omega)
              | (refine QM_of ⟨?_, (TF.al.up (by omega)).tr g3⟩
                 unfold faA
                 rw [if_pos (by omega), if_pos (by omega)]
                 by_cases z : w = 0
                 · rw [if_pos z]; omega
                 · rw [if_neg z]
                   rcases pr with ⟨p1, p2⟩ | ⟨p1, p2, p3⟩
                   · omega
                   · rw [if_neg (by omega)] at g2; omega)
          · refine ev_iload_3 77 dX12_fall_77 ?_
            refine ev_goto 78 85 dX12_fall_78 rfl ?_
            refine ev_iret 85 dX12_fall_85 ?_ rfl
            first
              | (exfalso; omega)
              | (refine QM_of ⟨?_, (TF.al.up (by omega)).tr g3⟩
                 unfold faA
                 rw [if_pos (by omega), if_pos (by omega)]
                 by_cases z : w = 0
                 · rw [if_pos z]; omega
                 · rw [if_neg z]
                   rcases pr with ⟨p1, p2⟩ | ⟨p1, p2, p3⟩
                   · omega
                   · rw [if_neg (by omega)] at g2; omega)
      · refine ev_bipush 28 dX12_fall_28 ⟨by decide, by decide⟩ ?_
        refine ev_iret 30 dX12_fall_30 ?_ rfl
        exact QM_of ⟨((if_pos (by omega)).trans (if_neg (by omega))).symm, TF.rf⟩
    · refine ev_iconst 18 dX12_fall_18 ⟨by decide, by decide⟩ ?_
      refine ev_iret 19 dX12_fall_19 ?_ rfl
      exact QM_of ⟨(if_neg (by omega)).symm, TF.rf⟩
theorem m_year {l : Launch} {g : Gt} {d : Nat} {Z : Zt} {I : It} {P : Pt'} (hM : LayM Z) (hN : LayQ P) {α : Nat → Int → Int} (hV : VM I α) (hW : WF α) {σ : Nat → Int → Int} (hR : RT 0 I α σ) (hWS : WS α σ) (z n t : Int) : Mt l g mX12_year (d + 4) 0 0 [vA 131, vI z, vI n, vI t] Z I P (QM (fun r I' => r = yrA α σ z n t ∧ TF I I') Z P) := by
  have v0 := hV.1.1
  have v1 := hV.1.2.1
  have v2 := hV.1.2.2.1
  have v3 := hV.1.2.2.2.1
  have v4 := hV.1.2.2.2.2
  have w0 := hW.1
  have w1 := hW.2.1
  have w5 := hW.2.2.1
  have w10 := hW.2.2.2.1
  refine Mt.of kmX12_year (ls := [vA 131, vI z, vI n, vI t, vX, vX, vX, vX, vX, vX]) (fun _ => rfl) (fun _ => rfl) (okf_k (okf_k (okf_k (okf_k (okf_n rfl))))) (fun hok => ?_)
  have loop : ((0 ≤ z ∧ z ≤ 9999) ∧ (1 ≤ n ∧ n ≤ 60) ∧ (-1 ≤ t ∧ t < α 0 5)) → ¬ (0 ≤ t ∧ σ 2 t ≠ 0) → ∀ (r k : Nat) (c : Int) (J : It) (va vb vc vd : Vv), (k : Int) + r = n → TF I J → c = yrC α σ z t k → Ev l g mX12_year (d + 4) 0 0 Z J P 67 [vA 131, vI z, vI n, vI t, vI c, vI k, va, vb, vc, vd] [] (QM (fun r I' => r = yrA α σ z n t ∧ TF I I') Z P) := by
    intro hg hc r
    induction r with
    | zero =>
      intro k c J va vb vc vd h1 tf hq
      refine ev_iload_5 67 dX12_year_67 ?_
      refine ev_iload_2 69 dX12_year_69 ?_
      refine ev_icmp_ge 70 176 dX12_year_70 rfl (fun h70 => ?_) (fun h70 => ?_)
      · refine ev_iload_4 176 dX12_year_176 ?_
        refine ev_iret 178 dX12_year_178 ?_ rfl
        refine QM_of ⟨?_, tf⟩
        unfold yrA
        rw [if_pos hg, if_neg hc, show n.toNat = k by omega]; exact hq
      · exfalso; omega
    | succ r ih =>
      intro k c J va vb vc vd h1 tf hq
      have hV0 := tf.vm hV
      have v0 := hV0.1.1
      have v1 := hV0.1.2.1
      have hV1 := (tf.tr TF.al).vm hV
      have z0 := hV1.1.1
      have z1 := hV1.1.2.1
      have hR1 : RT 0 J α σ := hR.fr hW (fun i _ c => tf.2.2 i (by omega))
      have hR2 := RT.al hW hR1
      have yx := yr_x (z := z) (k := (k : Int)) hg.1 (by omega)
      have yc := yrC_r α σ z t k
      have yi := yrQ_in hW z (k : Int)
      have ys : yrC α σ z t (k + 1) = yrC α σ z t k + b2 ((pu α σ (-1) 60 1 (yrQ α z (k : Int))).2.2.2.2 ≠ -4 ∧ (t = -1 ∨ (pu α σ (-1) 60 1 (yrQ α z (k : Int))).2.2.2.2 = t)) := rfl
      refine ev_iload_5 67 dX12_year_67 ?_
      refine ev_iload_2 69 dX12_year_69 ?_
      refine ev_icmp_ge 70 176 dX12_year_70 rfl (fun h70 => ?_) (fun h70 => ?_)
      · exfalso; omega
      · refine ev_ldc2 73 dX12_year_73 kl_X12_246 ⟨by decide, by decide⟩ ?_
        refine ev_iload_1 76 dX12_year_76 ?_
        refine ev_i2l 77 dX12_year_77 ?_
        refine ev_lmul 78 dX12_year_78 ⟨by omega, by omega⟩ ?_
        refine ev_ldc2 79 dX12_year_79 kl_X12_248 ⟨by decide, by decide⟩ ?_
        refine ev_iload_5 82 dX12_year_82 ?_
        refine ev_i2l 84 dX12_year_84 ?_
        refine ev_lmul 85 dX12_year_85 ⟨by omega, by omega⟩ ?_
        refine ev_ladd 86 dX12_year_86 ⟨by omega, by omega⟩ ?_
        refine ev_lconst1 87 dX12_year_87 ?_
        refine ev_ladd 88 dX12_year_88 ⟨by omega, by omega⟩ ?_
        refine ev_lstore_6 89 dX12_year_89 rfl rfl ?_
        refine ev_lload_6 91 dX12_year_91 ?_
        refine ev_lload_6 93 dX12_year_93 ?_
        refine ev_lmul 95 dX12_year_95 ⟨by omega, by omega⟩ ?_
        refine ev_ldc2 96 dX12_year_96 kl_X12_250 ⟨by decide, by decide⟩ ?_
        refine ev_lrem 99 dX12_year_99 (by omega) ?_
        rw [Int.tmod_eq_emod_of_nonneg yx.2.1]
        have dr := emod_r (x := (7919 * z + 6151 * (k : Int) + 1) * (7919 * z + 6151 * (k : Int) + 1)) (y := 65521) (by omega)
        refine ev_l2i 100 dX12_year_100 ⟨by omega, by omega⟩ ?_
        refine ev_istore_8 101 dX12_year_101 rfl rfl ?_
        refine ev_aload_0 103 dX12_year_103 ?_
        refine ev_cVv_0 104 dX12_year_104 kmX12_alone lk_X12_229 (kd_131 hM) (m_alone hM hN) rfl rfl (fun I104 f104 => ?_)
        subst f104
        refine ev_aload_0 107 dX12_year_107 ?_
        refine ev_iload_8 108 dX12_year_108 ?_
        refine ev_aload_0 110 dX12_year_110 ?_
        refine ev_getA 111 3 dX12_year_111 fa_X12_13 (kd_131 hM) (pr_131_3 hN) rfl ?_
        refine ev_iconst 114 dX12_year_114 ⟨by decide, by decide⟩ ?_
        refine ev_iald 115 dX12_year_115 (kd_133 hM) ⟨by omega, by have := (ln_133 hM); omega⟩ ?_
        try simp only [z0, z1]
        refine ev_irem 116 dX12_year_116 (by omega) ?_
        rw [Int.tmod_eq_emod_of_nonneg (by omega)]
        refine ev_iload_8 117 dX12_year_117 ?_
        refine ev_bipush 119 dX12_year_119 ⟨by decide, by decide⟩ ?_
        refine ev_idiv 121 dX12_year_121 (by omega) (by rw [Int.tdiv_eq_ediv_of_nonneg (by omega)]; exact ⟨by omega, by omega⟩) ?_
        rw [Int.tdiv_eq_ediv_of_nonneg (by omega)]
        refine ev_aload_0 122 dX12_year_122 ?_
        refine ev_getA 123 3 dX12_year_123 fa_X12_13 (kd_131 hM) (pr_131_3 hN) rfl ?_
        refine ev_iconst 126 dX12_year_126 ⟨by decide, by decide⟩ ?_
        refine ev_iald 127 dX12_year_127 (kd_133 hM) ⟨by omega, by have := (ln_133 hM); omega⟩ ?_
        try simp only [z0, z1]
        refine ev_irem 128 dX12_year_128 (by omega) ?_
        rw [Int.tmod_eq_emod_of_nonneg (by omega)]
        refine ev_iload_8 129 dX12_year_129 ?_
        refine ev_sipush 131 dX12_year_131 ⟨by decide, by decide⟩ ?_
        refine ev_idiv 134 dX12_year_134 (by omega) (by rw [Int.tdiv_eq_ediv_of_nonneg (by omega)]; exact ⟨by omega, by omega⟩) ?_
        rw [Int.tdiv_eq_ediv_of_nonneg (by omega)]
        refine ev_bipush 135 dX12_year_135 ⟨by decide, by decide⟩ ?_
        refine ev_irem 137 dX12_year_137 (by omega) ?_
        rw [Int.tmod_eq_emod_of_nonneg (by omega)]
        refine ev_bipush 138 dX12_year_138 ⟨by decide, by decide⟩ ?_
        refine ev_cVm_4 140 dX12_year_140 kmX12_lands lk_X12_232 (kd_131 hM) (m_lands hM hN hV1 hW (alI_0 J) hR2 yi.1 yi.2.1 yi.2.2 (Or.inr (by omega))) rfl rfl (fun x140 I140 f140 => ?_)
        obtain ⟨g1, g2, g3⟩ := f140
        have g1 : x140 = (pu α σ (-4) 60 1 (yrQ α z (k : Int))).2.2.2.2 := g1
        rw [pu_nb (a := -4) (b := -1) (by omega) (by omega)] at g1
        have pr := pu_r (α := α) (σ := σ) (as := -1) 60 1 (yrQ α z (k : Int)) rfl
        have pb := pu_by hW (σ := σ) (as := -1) 60 1 (yrQ α z (k : Int)) rfl
        refine ev_istore_9 143 dX12_year_143 rfl rfl ?_
        refine ev_iload_4 145 dX12_year_145 ?_
        refine Ev.join 167 (fun jv => (jv = 0 ∨ jv = 1) ∧ (jv = 1 ↔ (((pu α σ (-1) 60 1 (yrQ α z (k : Int))).2.2.2.2 ≠ -4 ∧ (t = -1 ∨ (pu α σ (-1) 60 1 (yrQ α z (k : Int))).2.2.2.2 = t))))) (fun x167 q167 => ?_) (fun j167 => ?_)
        · try dsimp only at q167
          refine ev_iadd 167 dX12_year_167 ⟨by omega, by omega⟩ ?_
          refine ev_istore_4 168 dX12_year_168 rfl rfl ?_
          refine ev_iinc_5 170 dX12_year_170 ⟨by omega, by omega⟩ rfl rfl ?_
          refine ev_goto 173 67 dX12_year_173 rfl ?_
          rw [show (k : Int) + 1 = ((k + 1 : Nat) : Int) by omega]
          exact ih (k + 1) _ _ _ _ _ _ (by omega) ((tf.tr TF.al).tr g3) (by rw [ys, ← b2_i q167.1 q167.2, hq])
        · refine ev_iload_9 147 dX12_year_147 ?_
          refine ev_if_lt 149 166 dX12_year_149 rfl (fun h149 => ?_) (fun h149 => ?_)
          · refine ev_iconst 166 dX12_year_166 ⟨by decide, by decide⟩ ?_
            exact j167 _ (by omega)
          · refine ev_iload_3 152 dX12_year_152 ?_
            refine ev_if_lt 153 162 dX12_year_153 rfl (fun h153 => ?_) (fun h153 => ?_)
            · refine ev_iconst 162 dX12_year_162 ⟨by decide, by decide⟩ ?_
              refine ev_goto 163 167 dX12_year_163 rfl ?_
              exact j167 _ (by omega)
            · refine ev_iload_9 156 dX12_year_156 ?_
              refine ev_iload_3 158 dX12_year_158 ?_
              refine ev_jne 159 166 dX12_year_159 rfl (fun h159 => ?_) (fun h159 => ?_)
              · refine ev_iconst 166 dX12_year_166 ⟨by decide, by decide⟩ ?_
                exact j167 _ (by omega)
              · refine ev_iconst 162 dX12_year_162 ⟨by decide, by decide⟩ ?_
                refine ev_goto 163 167 dX12_year_163 rfl ?_
                exact j167 _ (by omega)
  refine ev_iload_1 0 dX12_year_0 ?_
  refine ev_i2l 1 dX12_year_1 ?_
  refine ev_lconst0 2 dX12_year_2 ?_
  refine ev_ldc2 3 dX12_year_3 kl_X12_244 ⟨by decide, by decide⟩ ?_
  refine ev_cSp_3 6 dX12_year_6 kmX12_in lk_X12_62 (m_in _ _ _) rfl rfl ?_
  try simp only [v0, v1, v2, v3, v4]
  refine ev_ifb_eq 9 44 dX12_year_9 rfl (fun h9 => ?_) (fun h9 => ?_)
  · refine ev_iconst 44 dX12_year_44 ⟨by decide, by decide⟩ ?_
    refine ev_iret 45 dX12_year_45 ?_ rfl
    exact QM_of ⟨(if_neg (by omega)).symm, TF.rf⟩
  · refine ev_iload_2 12 dX12_year_12 ?_
    refine ev_i2l 13 dX12_year_13 ?_
    refine ev_lconst1 14 dX12_year_14 ?_
    refine ev_ldc2 15 dX12_year_15 kl_X12_157 ⟨by decide, by decide⟩ ?_
    refine ev_cSp_3 18 dX12_year_18 kmX12_in lk_X12_62 (m_in _ _ _) rfl rfl ?_
    try simp only [v0, v1, v2, v3, v4]
    refine ev_ifb_eq 21 44 dX12_year_21 rfl (fun h21 => ?_) (fun h21 => ?_)
    · refine ev_iconst 44 dX12_year_44 ⟨by decide, by decide⟩ ?_
      refine ev_iret 45 dX12_year_45 ?_ rfl
      exact QM_of ⟨(if_neg (by omega)).symm, TF.rf⟩
    · refine ev_iload_3 24 dX12_year_24 ?_
      refine ev_i2l 25 dX12_year_25 ?_
      refine ev_ldc2 26 dX12_year_26 kl_X12_242 ⟨by decide, by decide⟩ ?_
      refine ev_aload_0 29 dX12_year_29 ?_
      refine ev_getA 30 3 dX12_year_30 fa_X12_13 (kd_131 hM) (pr_131_3 hN) rfl ?_
      refine ev_iconst 33 dX12_year_33 ⟨by decide, by decide⟩ ?_
      refine ev_iald 34 dX12_year_34 (kd_133 hM) ⟨by omega, by have := (ln_133 hM); omega⟩ ?_
      try simp only [v0, v1, v2, v3, v4]
      refine ev_iconst 35 dX12_year_35 ⟨by decide, by decide⟩ ?_
      refine ev_isub 36 dX12_year_36 ⟨by omega, by omega⟩ ?_
      refine ev_i2l 37 dX12_year_37 ?_
      refine ev_cSp_3 38 dX12_year_38 kmX12_in lk_X12_62 (m_in _ _ _) rfl rfl ?_
      try simp only [v0, v1, v2, v3, v4]
      refine ev_ifb_ne 41 46 dX12_year_41 rfl (fun h41 => ?_) (fun h41 => ?_)
      · have c1 : 0 ≤ t → (σ 2 t = 0 ∨ σ 2 t = 1) := fun z => hWS.2.2.2.1 t z (by omega)
        have hRT := hR
        refine ev_iload_3 46 dX12_year_46 ?_
        refine ev_if_lt 47 61 dX12_year_47 rfl (fun h47 => ?_) (fun h47 => ?_)
        · refine ev_iconst 61 dX12_year_61 ⟨by decide, by decide⟩ ?_
          refine ev_istore_4 62 dX12_year_62 rfl rfl ?_
          refine ev_iconst 64 dX12_year_64 ⟨by decide, by decide⟩ ?_
          refine ev_istore_5 65 dX12_year_65 rfl rfl ?_
          exact loop (by omega) (by omega) n.toNat 0 0 I _ _ _ _ (by omega) TF.rf rfl
        · refine ev_aload_0 50 dX12_year_50 ?_
          refine ev_iload_3 51 dX12_year_51 ?_
          refine ev_cVp_1 52 dX12_year_52 kmX12_isCut lk_X12_165 (kd_131 hM) (m_isCut hM hN hV hW hRT (by omega) (by omega)) rfl rfl ?_
          try simp only [v0, v1, v2, v3, v4]
          refine ev_ifb_eq 55 61 dX12_year_55 rfl (fun h55 => ?_) (fun h55 => ?_)
          · refine ev_iconst 61 dX12_year_61 ⟨by decide, by decide⟩ ?_
            refine ev_istore_4 62 dX12_year_62 rfl rfl ?_
            refine ev_iconst 64 dX12_year_64 ⟨by decide, by decide⟩ ?_
            refine ev_istore_5 65 dX12_year_65 rfl rfl ?_
            exact loop (by omega) (by omega) n.toNat 0 0 I _ _ _ _ (by omega) TF.rf rfl
          · refine ev_bipush 58 dX12_year_58 ⟨by decide, by decide⟩ ?_
            refine ev_iret 60 dX12_year_60 ?_ rfl
            exact QM_of ⟨((if_pos (by omega)).trans (if_pos (by omega))).symm, TF.rf⟩
      · refine ev_iconst 44 dX12_year_44 ⟨by decide, by decide⟩ ?_
        refine ev_iret 45 dX12_year_45 ?_ rfl
        exact QM_of ⟨(if_neg (by omega)).symm, TF.rf⟩
