/-! the reference: things go on -/
theorem upI_same (I : It) (a : Nat) (k : Int) : upI I a k (I a k) = I := by
  funext c j; unfold upI; by_cases z : c = a ∧ j = k
  · rw [if_pos z, z.1, z.2]
  · rw [if_neg z]
theorem fx_tm {N x c : Int} (hN : 4 ≤ N) (hx : 0 ≤ x) (hc : 0 ≤ c) : (x + c - 3 + N).tmod N = (x + c - 3) % N := by
  rw [Int.tmod_eq_emod_of_nonneg (by omega), Int.add_emod_right]
def drI (I : It) (b g l x : Int) : It := upI (upI I 138 (b + 8 + g) x) 138 (b + 1 + g) l
theorem drI_f {I : It} {b g l x : Int} {c : Nat} (h : c ≠ 138) : drI I b g l x c = I c := by unfold drI; rw [upI_A h, upI_A h]
theorem drI_o {I : It} {b g l x k : Int} (h1 : k ≠ b + 8 + g) (h2 : k ≠ b + 1 + g) : drI I b g l x 138 k = I 138 k := by unfold drI; rw [upI_k h2, upI_k h1]
theorem drI_l {I : It} {b g l x k : Int} (h : k = b + 1 + g) : drI I b g l x 138 k = l := by unfold drI; rw [h, upI_s]
theorem drI_x {I : It} {b g l x k : Int} (h : k = b + 8 + g) : drI I b g l x 138 k = x := by unfold drI; rw [h, upI_k (by omega), upI_s]
theorem RT.dr {I : It} {b g l x : Int} {α σ : Nat → Int → Int} (hg : 0 ≤ g ∧ g ≤ 6) (h : RT b I α σ) : RT b (drI I b g l x) α σ := fun t a c => by
  rw [drI_o (by omega) (by omega), drI_o (by omega) (by omega)]; exact h t a c
/-- numbers in their ranges, whatever has gone by -/
def WK (α σ : Nat → Int → Int) : Prop := (0 ≤ σ 0 0 ∧ σ 0 0 ≤ 20000) ∧ (0 ≤ σ 0 1 ∧ σ 0 1 ≤ 7) ∧ ∀ j, 0 ≤ j → j < σ 0 1 → inD α (σ 3 j, σ 4 j, σ 5 j, σ 6 j) ∧ (σ 6 j = -4 ∨ (0 ≤ σ 6 j ∧ σ 6 j < α 0 5))
theorem WS.k {α σ : Nat → Int → Int} (h : WS α σ) : WK α σ := ⟨by have := h.1; omega, h.2.1, h.2.2.2.2⟩
def TH (b : Int) (J : It) (j : Int) (q : Dq) : Prop := J 138 (b + 1 + j) = q.1 ∧ J 138 (b + 22 + j) = cg q.2.2.2 ∧ (q.2.2.2 = -4 → J 138 (b + 8 + j) = q.2.1)
theorem TH.fr {b j : Int} {J J' : It} {q : Dq} (h : TH b J j q) (e1 : J' 138 (b + 1 + j) = J 138 (b + 1 + j)) (e2 : J' 138 (b + 22 + j) = J 138 (b + 22 + j)) (e3 : J' 138 (b + 8 + j) = J 138 (b + 8 + j)) : TH b J' j q := ⟨e1.trans h.1, e2.trans h.2.1, fun z => e3.trans (h.2.2 z)⟩
theorem tAt_ex {tl tx tc : Int → Int} {l x as : Int} : ∀ (n : Nat) (t : Int), 0 ≤ t → tAt tl tx tc l x as n t ≠ -4 → t ≤ tAt tl tx tc l x as n t ∧ tAt tl tx tc l x as n t < t + n ∧ tAt tl tx tc l x as n t ≠ as ∧ tc (tAt tl tx tc l x as n t) = 0 ∧ tl (tAt tl tx tc l x as n t) = l ∧ tx (tAt tl tx tc l x as n t) = x
  | 0, t, h, k => absurd rfl k
  | n + 1, t, h, k => by
    by_cases c : t ≠ as ∧ tc t = 0 ∧ tl t = l ∧ tx t = x
    · have e : tAt tl tx tc l x as (n + 1) t = t := if_pos c
      rw [e]; exact ⟨by omega, by omega, c⟩
    · have e : tAt tl tx tc l x as (n + 1) t = tAt tl tx tc l x as n (t + 1) := if_neg c
      rw [e] at k ⊢
      obtain ⟨k1, k2, k3⟩ := tAt_ex n (t + 1) (by omega) k
      exact ⟨by omega, by omega, k3⟩
def cAq (α σ : Nat → Int → Int) (q : Dq) : Prop := q.2.2.2 ≠ -4 → (0 ≤ q.2.2.2 ∧ q.2.2.2 < α 0 5) ∧ q.2.1 = σ 1 q.2.2.2
theorem ps_ca {α σ : Nat → Int → Int} {as : Int} {q : Dq} (hW : WF α) (h : cAq α σ q) : cAq α σ (ps α σ as q) := by
  unfold ps; split
  · intro z
    dsimp only at z ⊢
    have w5 := hW.2.2.1
    obtain ⟨a, b, _, _, _, e⟩ := tAt_ex (α 0 5).toNat 0 (by omega) z
    exact ⟨⟨by omega, by omega⟩, e.symm⟩
  · exact h
theorem psn_ca {α σ : Nat → Int → Int} {as : Int} (hW : WF α) : ∀ (n : Nat) (q : Dq), cAq α σ q → cAq α σ (psn α σ as n q)
  | 0, _, h => h
  | n + 1, _, h => psn_ca hW n _ (ps_ca hW h)
theorem psn_in {α σ : Nat → Int → Int} {as : Int} (hW : WF α) : ∀ (n : Nat) (q : Dq), inD α q → inD α (psn α σ as n q)
  | 0, _, h => h
  | n + 1, _, h => psn_in hW n _ (ps_in hW h)
theorem psn_ad {α σ : Nat → Int → Int} {as : Int} : ∀ (n : Nat) (q : Dq), psn α σ as (n + 1) q = ps α σ as (psn α σ as n q)
  | 0, q => rfl
  | n + 1, q => by
    show psn α σ as (n + 1) (ps α σ as q) = _
    rw [psn_ad n]; rfl
theorem psn_by {α σ : Nat → Int → Int} {as : Int} (hW : WF α) : ∀ (n : Nat) (q : Dq), (q.2.2.2 = -4 ∨ (0 ≤ q.2.2.2 ∧ q.2.2.2 < α 0 5)) → ((psn α σ as n q).2.2.2 = -4 ∨ (0 ≤ (psn α σ as n q).2.2.2 ∧ (psn α σ as n q).2.2.2 < α 0 5))
  | 0, _, h => h
  | n + 1, q, h => psn_by hW n _ (by
    unfold ps; split
    · dsimp only
      have w5 := hW.2.2.1
      by_cases z : tAt (α 4) (σ 1) (σ 2) (fL α q.1 q.2.2.1) (fX α q.1 q.2.1) as (α 0 5).toNat 0 = -4
      · exact Or.inl z
      · obtain ⟨a, b, _⟩ := tAt_ex (α 0 5).toNat 0 (by omega) z
        exact Or.inr ⟨by omega, by omega⟩
    · exact h)
theorem st1 (α σ : Nat → Int → Int) (n : Int) : stepS α σ n 1 = σ 1 := by funext j; simp [stepS]
theorem st2 (α σ : Nat → Int → Int) (n : Int) : stepS α σ n 2 = σ 2 := by funext j; simp [stepS]
theorem st5 (α σ : Nat → Int → Int) (n : Int) : stepS α σ n 5 = σ 5 := by funext j; simp [stepS]
theorem st01 (α σ : Nat → Int → Int) (n : Int) : stepS α σ n 0 1 = σ 0 1 := by simp [stepS]
theorem st00 (α σ : Nat → Int → Int) (n : Int) : stepS α σ n 0 0 = σ 0 0 + n := by simp [stepS]
theorem st3 (α σ : Nat → Int → Int) (n j : Int) : stepS α σ n 3 j = (stp α σ n j).1 := by simp [stepS]
theorem st4 (α σ : Nat → Int → Int) (n j : Int) : stepS α σ n 4 j = (stp α σ n j).2.1 := by simp [stepS]
theorem st6 (α σ : Nat → Int → Int) (n j : Int) : stepS α σ n 6 j = (stp α σ n j).2.2.2 := by simp [stepS]
theorem stp_w (α σ : Nat → Int → Int) (n j : Int) : (stp α σ n j).2.2.1 = σ 5 j := psn_w n.toNat _
theorem stp_q (α σ : Nat → Int → Int) (n j : Int) : (stepS α σ n 3 j, stepS α σ n 4 j, stepS α σ n 5 j, stepS α σ n 6 j) = stp α σ n j := by
  rw [st3, st4, st5, st6, ← stp_w α σ n j]
theorem stepS_0 (α σ : Nat → Int → Int) : stepS α σ 0 = σ := by
  funext k j
  unfold stepS
  split
  · rename_i h; rw [h.1, h.2]; omega
  · split
    · rename_i h; subst h; rfl
    · split
      · rename_i h; subst h; rfl
      · split
        · rename_i h; subst h; rfl
        · rfl
theorem stp_s (α σ : Nat → Int → Int) {n : Int} (h : 0 ≤ n) (j : Int) : stp α σ (n + 1) j = ps α σ (-1) (stp α σ n j) := by
  unfold stp; rw [show (n + 1).toNat = n.toNat + 1 by omega, psn_ad]
theorem stp_1 (α σ : Nat → Int → Int) (j : Int) : stp α σ 1 j = ps α σ (-1) (σ 3 j, σ 4 j, σ 5 j, σ 6 j) := rfl
theorem stp_ss (α σ : Nat → Int → Int) {n : Int} (h : 0 ≤ n) (j : Int) : stp α (stepS α σ n) 1 j = stp α σ (n + 1) j := by
  rw [stp_1, stp_q, stp_s α σ h, ps_cg (st1 α σ n) (st2 α σ n)]
theorem stepS_s (α σ : Nat → Int → Int) {n : Int} (h : 0 ≤ n) : stepS α (stepS α σ n) 1 = stepS α σ (n + 1) := by
  funext k j
  by_cases c0 : k = 0 ∧ j = 0
  · rw [c0.1, c0.2, st00, st00, st00]; omega
  · by_cases c3 : k = 3
    · rw [c3, st3, st3, stp_ss α σ h]
    · by_cases c4 : k = 4
      · rw [c4, st4, st4, stp_ss α σ h]
      · by_cases c6 : k = 6
        · rw [c6, st6, st6, stp_ss α σ h]
        · simp only [stepS, if_neg c0, if_neg c3, if_neg c4, if_neg c6]
theorem WK.st {α σ : Nat → Int → Int} (hW : WF α) (h : WK α σ) {n : Int} (hn : 0 ≤ n ∧ σ 0 0 + n ≤ 20000) : WK α (stepS α σ n) := by
  refine ⟨by rw [st00]; have := h.1; omega, by rw [st01]; exact h.2.1, fun j a b => ?_⟩
  rw [st01] at b
  obtain ⟨h1, h2⟩ := h.2.2 j a b
  rw [stp_q, st6]
  exact ⟨psn_in hW _ _ h1, psn_by hW _ _ h2⟩
theorem CA.st {α σ : Nat → Int → Int} (hW : WF α) (h : CA α σ) (n : Int) : CA α (stepS α σ n) := fun j a b c => by
  rw [st01] at b
  rw [st6] at c
  rw [st6, st4, st1]
  exact psn_ca hW n.toNat (σ 3 j, σ 4 j, σ 5 j, σ 6 j) (h j a b) c
/-- only the slot that is tried, and what is counted there, may change -/
def TF (I I' : It) : Prop := (∀ a, a ≠ 131 → a ≠ 138 → I' a = I a) ∧ (∀ j, j ≠ 22 → I' 131 j = I 131 j) ∧ ∀ i, i < 462 → I' 138 i = I 138 i
theorem TF.rf {I : It} : TF I I := ⟨fun _ _ _ => rfl, fun _ _ => rfl, fun _ _ => rfl⟩
theorem TF.tr {I J K : It} (h : TF I J) (k : TF J K) : TF I K := ⟨fun a b c => (k.1 a b c).trans (h.1 a b c), fun j a => (k.2.1 j a).trans (h.2.1 j a), fun i a => (k.2.2 i a).trans (h.2.2 i a)⟩
theorem TF.up {I J : It} {k x : Int} (h : TF I J) (hk : 462 ≤ k) : TF I (upI J 138 k x) := ⟨fun a b c => by rw [upI_A c]; exact h.1 a b c, fun j a => by rw [upI_A (by omega)]; exact h.2.1 j a, fun i a => by rw [upI_k (by omega)]; exact h.2.2 i a⟩
theorem TF.up2 {I J : It} {x : Int} (h : TF I J) : TF I (upI J 131 22 x) := ⟨fun a b c => by rw [upI_A b]; exact h.1 a b c, fun j a => by rw [upI_k a]; exact h.2.1 j a, fun i a => by rw [upI_A (by omega)]; exact h.2.2 i a⟩
theorem TF.cp {I : It} {a n : Int} : TF I (cpN I a 11 n) := ⟨fun c _ b => cpN_f b, fun _ _ => by rw [cpN_f (by omega)], fun i h => cpN_o (by omega)⟩
theorem TF.dr {I J : It} {g l x : Int} (hg : 0 ≤ g) (h : TF I J) : TF I (drI J (42 * 11) g l x) := (h.up (by omega)).up (by omega)
theorem TF.vm {I J : It} {α : Nat → Int → Int} (h : TF I J) (k : VM I α) : VM J α := k.fr (h.1 133 (by omega) (by omega)) (h.1 134 (by omega) (by omega)) (h.1 135 (by omega) (by omega)) (h.1 136 (by omega) (by omega))
theorem TF.rs {I J : It} {α σ : Nat → Int → Int} {b : Int} (h : TF I J) (hb : b ≤ 420) (hW : WF α) (h7 : σ 0 1 ≤ 7) (k : RS b I α σ) : RS b J α σ := k.fr hW h7 (fun i _ c => h.2.2 i (by omega))
def SF (s : Int) (I I' : It) : Prop := (∀ a, a ≠ 138 → I' a = I a) ∧ ∀ i, (i < 42 * s ∨ 42 * s + 42 ≤ i) → I' 138 i = I 138 i
theorem SF.tf {I I' : It} (h : SF 11 I I') : TF I I' := ⟨fun a _ c => h.1 a c, fun j _ => by rw [h.1 131 (by omega)], fun i a => h.2 i (by omega)⟩
theorem SF.vm {s : Int} {I J : It} {α : Nat → Int → Int} (h : SF s I J) (k : VM I α) : VM J α := k.fr (h.1 133 (by omega)) (h.1 134 (by omega)) (h.1 135 (by omega)) (h.1 136 (by omega))
theorem m_drifts {l : Launch} {g : Gt} {d : Nat} {Z : Zt} {I : It} {P : Pt'} (hM : LayM Z) (hN : LayQ P) {α : Nat → Int → Int} (hV : VM I α) (hW : WF α) {s j : Int} (hs : 0 ≤ s ∧ s ≤ 11) (hj : 0 ≤ j ∧ j ≤ 6) {L X w : Int} (hl : I 138 (42 * s + 1 + j) = L) (hx : I 138 (42 * s + 8 + j) = X) (hw : I 138 (42 * s + 15 + j) = w) (hL : 0 ≤ L ∧ L < α 0 1) (hX : 0 ≤ X ∧ X < α 0 0) : Mt l g mX12_drifts d 0 0 [vA 131, vI s, vI j] Z I P (QV (fun I' => I' = drI I (42 * s) j (fL α L w) (fX α L X)) Z P) := by
  have v0 := hV.1.1
  have v1 := hV.1.2.1
  have v2 := hV.1.2.2.1
  have v3 := hV.1.2.2.2.1
  have v4 := hV.1.2.2.2.2
  have w0 := hW.1
  have w1 := hW.2.1
  have w5 := hW.2.2.1
  have w10 := hW.2.2.2.1
  obtain ⟨g1, g2, _⟩ := hV.2.1 L hL.1 hL.2
  have g3 := hW.2.2.2.2.2.1 L hL.1 hL.2
  have ft := fx_tm (N := α 0 0) (x := X) (c := α 1 L) (by omega) (by omega) (by omega)
  refine Mt.of kmX12_drifts (ls := [vA 131, vI s, vI j, vX, vX, vX, vX]) (fun _ => rfl) (fun _ => rfl) (okf_k (okf_k (okf_k (okf_n rfl)))) (fun hok => ?_)
  refine ev_aload_0 0 dX12_drifts_0 ?_
  refine ev_getA 1 8 dX12_drifts_1 fa_X12_29 (kd_131 hM) (pr_131_8 hN) rfl ?_
  refine ev_bipush 4 dX12_drifts_4 ⟨by decide, by decide⟩ ?_
  refine ev_iload_1 6 dX12_drifts_6 ?_
  refine ev_imul 7 dX12_drifts_7 ⟨by omega, by omega⟩ ?_
  refine ev_iconst 8 dX12_drifts_8 ⟨by decide, by decide⟩ ?_
  refine ev_iadd 9 dX12_drifts_9 ⟨by omega, by omega⟩ ?_
  refine ev_iload_2 10 dX12_drifts_10 ?_
  refine ev_iadd 11 dX12_drifts_11 ⟨by omega, by omega⟩ ?_
  refine ev_iald 12 dX12_drifts_12 (kd_138 hM) ⟨by omega, by have := (ln_138 hM); omega⟩ ?_
  try simp only [v0, v1, v2, v3, v4, hl, hx, hw, g1, g2]
  refine ev_istore_3 13 dX12_drifts_13 rfl rfl ?_
  refine ev_aload_0 14 dX12_drifts_14 ?_
  refine ev_getA 15 8 dX12_drifts_15 fa_X12_29 (kd_131 hM) (pr_131_8 hN) rfl ?_
  refine ev_bipush 18 dX12_drifts_18 ⟨by decide, by decide⟩ ?_
  refine ev_iload_1 20 dX12_drifts_20 ?_
  refine ev_imul 21 dX12_drifts_21 ⟨by omega, by omega⟩ ?_
  refine ev_bipush 22 dX12_drifts_22 ⟨by decide, by decide⟩ ?_
  refine ev_iadd 24 dX12_drifts_24 ⟨by omega, by omega⟩ ?_
  refine ev_iload_2 25 dX12_drifts_25 ?_
  refine ev_iadd 26 dX12_drifts_26 ⟨by omega, by omega⟩ ?_
  refine ev_iald 27 dX12_drifts_27 (kd_138 hM) ⟨by omega, by have := (ln_138 hM); omega⟩ ?_
  try simp only [v0, v1, v2, v3, v4, hl, hx, hw, g1, g2]
  refine ev_istore_4 28 dX12_drifts_28 rfl rfl ?_
  refine ev_aload_0 30 dX12_drifts_30 ?_
  refine ev_getA 31 8 dX12_drifts_31 fa_X12_29 (kd_131 hM) (pr_131_8 hN) rfl ?_
  refine ev_bipush 34 dX12_drifts_34 ⟨by decide, by decide⟩ ?_
  refine ev_iload_1 36 dX12_drifts_36 ?_
  refine ev_imul 37 dX12_drifts_37 ⟨by omega, by omega⟩ ?_
  refine ev_bipush 38 dX12_drifts_38 ⟨by decide, by decide⟩ ?_
  refine ev_iadd 40 dX12_drifts_40 ⟨by omega, by omega⟩ ?_
  refine ev_iload_2 41 dX12_drifts_41 ?_
  refine ev_iadd 42 dX12_drifts_42 ⟨by omega, by omega⟩ ?_
  refine ev_iald 43 dX12_drifts_43 (kd_138 hM) ⟨by omega, by have := (ln_138 hM); omega⟩ ?_
  try simp only [v0, v1, v2, v3, v4, hl, hx, hw, g1, g2]
  refine ev_aload_0 44 dX12_drifts_44 ?_
  refine ev_getA 45 4 dX12_drifts_45 fa_X12_17 (kd_131 hM) (pr_131_4 hN) rfl ?_
  refine ev_iconst 48 dX12_drifts_48 ⟨by decide, by decide⟩ ?_
  refine ev_iload_3 49 dX12_drifts_49 ?_
  refine ev_imul 50 dX12_drifts_50 ⟨by omega, by omega⟩ ?_
  refine ev_iald 51 dX12_drifts_51 (kd_134 hM) ⟨by omega, by have := (ln_134 hM); omega⟩ ?_
  try simp only [v0, v1, v2, v3, v4, hl, hx, hw, g1, g2]
  refine ev_iadd 52 dX12_drifts_52 ⟨by omega, by omega⟩ ?_
  refine ev_iconst 53 dX12_drifts_53 ⟨by decide, by decide⟩ ?_
  refine ev_isub 54 dX12_drifts_54 ⟨by omega, by omega⟩ ?_
  refine ev_istore_5 55 dX12_drifts_55 rfl rfl ?_
  refine ev_aload_0 57 dX12_drifts_57 ?_
  refine ev_getA 58 8 dX12_drifts_58 fa_X12_29 (kd_131 hM) (pr_131_8 hN) rfl ?_
  refine ev_bipush 61 dX12_drifts_61 ⟨by decide, by decide⟩ ?_
  refine ev_iload_1 63 dX12_drifts_63 ?_
  refine ev_imul 64 dX12_drifts_64 ⟨by omega, by omega⟩ ?_
  refine ev_bipush 65 dX12_drifts_65 ⟨by decide, by decide⟩ ?_
  refine ev_iadd 67 dX12_drifts_67 ⟨by omega, by omega⟩ ?_
  refine ev_iload_2 68 dX12_drifts_68 ?_
  refine ev_iadd 69 dX12_drifts_69 ⟨by omega, by omega⟩ ?_
  refine ev_iload_5 70 dX12_drifts_70 ?_
  refine ev_aload_0 72 dX12_drifts_72 ?_
  refine ev_getA 73 3 dX12_drifts_73 fa_X12_13 (kd_131 hM) (pr_131_3 hN) rfl ?_
  refine ev_iconst 76 dX12_drifts_76 ⟨by decide, by decide⟩ ?_
  refine ev_iald 77 dX12_drifts_77 (kd_133 hM) ⟨by omega, by have := (ln_133 hM); omega⟩ ?_
  try simp only [v0, v1, v2, v3, v4, hl, hx, hw, g1, g2]
  refine ev_iadd 78 dX12_drifts_78 ⟨by omega, by omega⟩ ?_
  refine ev_aload_0 79 dX12_drifts_79 ?_
  refine ev_getA 80 3 dX12_drifts_80 fa_X12_13 (kd_131 hM) (pr_131_3 hN) rfl ?_
  refine ev_iconst 83 dX12_drifts_83 ⟨by decide, by decide⟩ ?_
  refine ev_iald 84 dX12_drifts_84 (kd_133 hM) ⟨by omega, by have := (ln_133 hM); omega⟩ ?_
  try simp only [v0, v1, v2, v3, v4, hl, hx, hw, g1, g2]
  refine ev_irem 85 dX12_drifts_85 (by omega) ?_
  rw [ft, show (X + α 1 L - 3) % α 0 0 = fX α L X from rfl]
  refine ev_iast 86 dX12_drifts_86 (kd_138 hM) ⟨by omega, by have := (ln_138 hM); omega⟩ ?_
  refine ev_aload_0 87 dX12_drifts_87 ?_
  refine ev_getA 88 4 dX12_drifts_88 fa_X12_17 (kd_131 hM) (pr_131_4 hN) rfl ?_
  refine ev_iconst 91 dX12_drifts_91 ⟨by decide, by decide⟩ ?_
  refine ev_iload_3 92 dX12_drifts_92 ?_
  refine ev_imul 93 dX12_drifts_93 ⟨by omega, by omega⟩ ?_
  refine ev_iconst 94 dX12_drifts_94 ⟨by decide, by decide⟩ ?_
  refine ev_iadd 95 dX12_drifts_95 ⟨by omega, by omega⟩ ?_
  refine ev_iald 96 dX12_drifts_96 (kd_134 hM) ⟨by omega, by have := (ln_134 hM); omega⟩ ?_
  try simp (disch := omega) only [upI_s, upI_a, upI_k]
  try simp only [v0, v1, v2, v3, v4, hl, hx, hw, g1, g2]
  refine ev_istore_6 97 dX12_drifts_97 rfl rfl ?_
  refine ev_iload_4 99 dX12_drifts_99 ?_
  refine ev_iload_6 101 dX12_drifts_101 ?_
  refine ev_icmp_le 103 137 dX12_drifts_103 rfl (fun h103 => ?_) (fun h103 => ?_)
  · refine ev_iload_4 137 dX12_drifts_137 ?_
    refine ev_iload_6 139 dX12_drifts_139 ?_
    refine ev_icmp_ge 141 164 dX12_drifts_141 rfl (fun h141 => ?_) (fun h141 => ?_)
    · refine ev_vret 164 dX12_drifts_164 ?_ rfl
      first
        | (exfalso; omega)
        | (have ef : fL α L w = L + 1 := if_pos ⟨by omega, by omega⟩
           exact QV_of (by unfold drI; rw [ef]))
        | (have ef : fL α L w = L - 1 := (if_neg (by omega)).trans (if_pos ⟨by omega, by omega⟩)
           exact QV_of (by unfold drI; rw [ef]))
        | (have ef : fL α L w = L := (if_neg (by omega)).trans (if_neg (by omega))
           refine QV_of ?_
           unfold drI
           rw [ef]
           have e9 : upI I 138 (42 * s + 8 + j) (fX α L X) 138 (42 * s + 1 + j) = L := by rw [upI_k (by omega)]; exact hl
           have e8 := upI_same (upI I 138 (42 * s + 8 + j) (fX α L X)) 138 (42 * s + 1 + j)
           rw [e9] at e8
           exact e8.symm)
    · refine ev_iload_3 144 dX12_drifts_144 ?_
      refine ev_if_le 145 164 dX12_drifts_145 rfl (fun h145 => ?_) (fun h145 => ?_)
      · refine ev_vret 164 dX12_drifts_164 ?_ rfl
        first
          | (exfalso; omega)
          | (have ef : fL α L w = L + 1 := if_pos ⟨by omega, by omega⟩
             exact QV_of (by unfold drI; rw [ef]))
          | (have ef : fL α L w = L - 1 := (if_neg (by omega)).trans (if_pos ⟨by omega, by omega⟩)
             exact QV_of (by unfold drI; rw [ef]))
          | (have ef : fL α L w = L := (if_neg (by omega)).trans (if_neg (by omega))
             refine QV_of ?_
             unfold drI
             rw [ef]
             have e9 : upI I 138 (42 * s + 8 + j) (fX α L X) 138 (42 * s + 1 + j) = L := by rw [upI_k (by omega)]; exact hl
             have e8 := upI_same (upI I 138 (42 * s + 8 + j) (fX α L X)) 138 (42 * s + 1 + j)
             rw [e9] at e8
             exact e8.symm)
      · refine ev_aload_0 148 dX12_drifts_148 ?_
        refine ev_getA 149 8 dX12_drifts_149 fa_X12_29 (kd_131 hM) (pr_131_8 hN) rfl ?_
        refine ev_bipush 152 dX12_drifts_152 ⟨by decide, by decide⟩ ?_
        refine ev_iload_1 154 dX12_drifts_154 ?_
        refine ev_imul 155 dX12_drifts_155 ⟨by omega, by omega⟩ ?_
        refine ev_iconst 156 dX12_drifts_156 ⟨by decide, by decide⟩ ?_
        refine ev_iadd 157 dX12_drifts_157 ⟨by omega, by omega⟩ ?_
        refine ev_iload_2 158 dX12_drifts_158 ?_
        refine ev_iadd 159 dX12_drifts_159 ⟨by omega, by omega⟩ ?_
        refine ev_iload_3 160 dX12_drifts_160 ?_
        refine ev_iconst 161 dX12_drifts_161 ⟨by decide, by decide⟩ ?_
        refine ev_isub 162 dX12_drifts_162 ⟨by omega, by omega⟩ ?_
        refine ev_iast 163 dX12_drifts_163 (kd_138 hM) ⟨by omega, by have := (ln_138 hM); omega⟩ ?_
        refine ev_vret 164 dX12_drifts_164 ?_ rfl
        first
          | (exfalso; omega)
          | (have ef : fL α L w = L + 1 := if_pos ⟨by omega, by omega⟩
             exact QV_of (by unfold drI; rw [ef]))
          | (have ef : fL α L w = L - 1 := (if_neg (by omega)).trans (if_pos ⟨by omega, by omega⟩)
             exact QV_of (by unfold drI; rw [ef]))
          | (have ef : fL α L w = L := (if_neg (by omega)).trans (if_neg (by omega))
             refine QV_of ?_
             unfold drI
             rw [ef]
             have e9 : upI I 138 (42 * s + 8 + j) (fX α L X) 138 (42 * s + 1 + j) = L := by rw [upI_k (by omega)]; exact hl
             have e8 := upI_same (upI I 138 (42 * s + 8 + j) (fX α L X)) 138 (42 * s + 1 + j)
             rw [e9] at e8
             exact e8.symm)
  · refine ev_iload_3 106 dX12_drifts_106 ?_
    refine ev_iconst 107 dX12_drifts_107 ⟨by decide, by decide⟩ ?_
    refine ev_iadd 108 dX12_drifts_108 ⟨by omega, by omega⟩ ?_
    refine ev_aload_0 109 dX12_drifts_109 ?_
    refine ev_getA 110 3 dX12_drifts_110 fa_X12_13 (kd_131 hM) (pr_131_3 hN) rfl ?_
    refine ev_iconst 113 dX12_drifts_113 ⟨by decide, by decide⟩ ?_
    refine ev_iald 114 dX12_drifts_114 (kd_133 hM) ⟨by omega, by have := (ln_133 hM); omega⟩ ?_
    try simp (disch := omega) only [upI_s, upI_a, upI_k]
    try simp only [v0, v1, v2, v3, v4, hl, hx, hw, g1, g2]
    refine ev_icmp_ge 115 137 dX12_drifts_115 rfl (fun h115 => ?_) (fun h115 => ?_)
    · refine ev_iload_4 137 dX12_drifts_137 ?_
      refine ev_iload_6 139 dX12_drifts_139 ?_
      refine ev_icmp_ge 141 164 dX12_drifts_141 rfl (fun h141 => ?_) (fun h141 => ?_)
      · refine ev_vret 164 dX12_drifts_164 ?_ rfl
        first
          | (exfalso; omega)
          | (have ef : fL α L w = L + 1 := if_pos ⟨by omega, by omega⟩
             exact QV_of (by unfold drI; rw [ef]))
          | (have ef : fL α L w = L - 1 := (if_neg (by omega)).trans (if_pos ⟨by omega, by omega⟩)
             exact QV_of (by unfold drI; rw [ef]))
          | (have ef : fL α L w = L := (if_neg (by omega)).trans (if_neg (by omega))
             refine QV_of ?_
             unfold drI
             rw [ef]
             have e9 : upI I 138 (42 * s + 8 + j) (fX α L X) 138 (42 * s + 1 + j) = L := by rw [upI_k (by omega)]; exact hl
             have e8 := upI_same (upI I 138 (42 * s + 8 + j) (fX α L X)) 138 (42 * s + 1 + j)
             rw [e9] at e8
             exact e8.symm)
      · refine ev_iload_3 144 dX12_drifts_144 ?_
        refine ev_if_le 145 164 dX12_drifts_145 rfl (fun h145 => ?_) (fun h145 => ?_)
        · refine ev_vret 164 dX12_drifts_164 ?_ rfl
          first
            | (exfalso; omega)
            | (have ef : fL α L w = L + 1 := if_pos ⟨by omega, by omega⟩
               exact QV_of (by unfold drI; rw [ef]))
            | (have ef : fL α L w = L - 1 := (if_neg (by omega)).trans (if_pos ⟨by omega, by omega⟩)
               exact QV_of (by unfold drI; rw [ef]))
            | (have ef : fL α L w = L := (if_neg (by omega)).trans (if_neg (by omega))
               refine QV_of ?_
               unfold drI
               rw [ef]
               have e9 : upI I 138 (42 * s + 8 + j) (fX α L X) 138 (42 * s + 1 + j) = L := by rw [upI_k (by omega)]; exact hl
               have e8 := upI_same (upI I 138 (42 * s + 8 + j) (fX α L X)) 138 (42 * s + 1 + j)
               rw [e9] at e8
               exact e8.symm)
        · refine ev_aload_0 148 dX12_drifts_148 ?_
          refine ev_getA 149 8 dX12_drifts_149 fa_X12_29 (kd_131 hM) (pr_131_8 hN) rfl ?_
          refine ev_bipush 152 dX12_drifts_152 ⟨by decide, by decide⟩ ?_
          refine ev_iload_1 154 dX12_drifts_154 ?_
          refine ev_imul 155 dX12_drifts_155 ⟨by omega, by omega⟩ ?_
          refine ev_iconst 156 dX12_drifts_156 ⟨by decide, by decide⟩ ?_
          refine ev_iadd 157 dX12_drifts_157 ⟨by omega, by omega⟩ ?_
          refine ev_iload_2 158 dX12_drifts_158 ?_
          refine ev_iadd 159 dX12_drifts_159 ⟨by omega, by omega⟩ ?_
          refine ev_iload_3 160 dX12_drifts_160 ?_
          refine ev_iconst 161 dX12_drifts_161 ⟨by decide, by decide⟩ ?_
          refine ev_isub 162 dX12_drifts_162 ⟨by omega, by omega⟩ ?_
          refine ev_iast 163 dX12_drifts_163 (kd_138 hM) ⟨by omega, by have := (ln_138 hM); omega⟩ ?_
          refine ev_vret 164 dX12_drifts_164 ?_ rfl
          first
            | (exfalso; omega)
            | (have ef : fL α L w = L + 1 := if_pos ⟨by omega, by omega⟩
               exact QV_of (by unfold drI; rw [ef]))
            | (have ef : fL α L w = L - 1 := (if_neg (by omega)).trans (if_pos ⟨by omega, by omega⟩)
               exact QV_of (by unfold drI; rw [ef]))
            | (have ef : fL α L w = L := (if_neg (by omega)).trans (if_neg (by omega))
               refine QV_of ?_
               unfold drI
               rw [ef]
               have e9 : upI I 138 (42 * s + 8 + j) (fX α L X) 138 (42 * s + 1 + j) = L := by rw [upI_k (by omega)]; exact hl
               have e8 := upI_same (upI I 138 (42 * s + 8 + j) (fX α L X)) 138 (42 * s + 1 + j)
               rw [e9] at e8
               exact e8.symm)
    · refine ev_aload_0 118 dX12_drifts_118 ?_
      refine ev_getA 119 8 dX12_drifts_119 fa_X12_29 (kd_131 hM) (pr_131_8 hN) rfl ?_
      refine ev_bipush 122 dX12_drifts_122 ⟨by decide, by decide⟩ ?_
      refine ev_iload_1 124 dX12_drifts_124 ?_
      refine ev_imul 125 dX12_drifts_125 ⟨by omega, by omega⟩ ?_
      refine ev_iconst 126 dX12_drifts_126 ⟨by decide, by decide⟩ ?_
      refine ev_iadd 127 dX12_drifts_127 ⟨by omega, by omega⟩ ?_
      refine ev_iload_2 128 dX12_drifts_128 ?_
      refine ev_iadd 129 dX12_drifts_129 ⟨by omega, by omega⟩ ?_
      refine ev_iload_3 130 dX12_drifts_130 ?_
      refine ev_iconst 131 dX12_drifts_131 ⟨by decide, by decide⟩ ?_
      refine ev_iadd 132 dX12_drifts_132 ⟨by omega, by omega⟩ ?_
      refine ev_iast 133 dX12_drifts_133 (kd_138 hM) ⟨by omega, by have := (ln_138 hM); omega⟩ ?_
      refine ev_goto 134 164 dX12_drifts_134 rfl ?_
      refine ev_vret 164 dX12_drifts_164 ?_ rfl
      first
        | (exfalso; omega)
        | (have ef : fL α L w = L + 1 := if_pos ⟨by omega, by omega⟩
           exact QV_of (by unfold drI; rw [ef]))
        | (have ef : fL α L w = L - 1 := (if_neg (by omega)).trans (if_pos ⟨by omega, by omega⟩)
           exact QV_of (by unfold drI; rw [ef]))
        | (have ef : fL α L w = L := (if_neg (by omega)).trans (if_neg (by omega))
           refine QV_of ?_
           unfold drI
           rw [ef]
           have e9 : upI I 138 (42 * s + 8 + j) (fX α L X) 138 (42 * s + 1 + j) = L := by rw [upI_k (by omega)]; exact hl
           have e8 := upI_same (upI I 138 (42 * s + 8 + j) (fX α L X)) 138 (42 * s + 1 + j)
           rw [e9] at e8
           exact e8.symm)
theorem m_goes {l : Launch} {g : Gt} {d : Nat} {Z : Zt} {I : It} {P : Pt'} (hM : LayM Z) (hN : LayQ P) {α : Nat → Int → Int} (hV : VM I α) (hW : WF α) {s j : Int} (hs : 0 ≤ s ∧ s ≤ 11) (hj : 0 ≤ j ∧ j ≤ 6) {L X w : Int} (hl : I 138 (42 * s + 1 + j) = L) (hx : I 138 (42 * s + 8 + j) = X) (hw : I 138 (42 * s + 15 + j) = w) (hL : 0 ≤ L ∧ L < α 0 1) (hX : 0 ≤ X ∧ X < α 0 0) {σ : Nat → Int → Int} (hR : RT (42 * s) I α σ) (v : Int) : Mt l g mX12_goes (d + 2) 0 0 [vA 131, vI s, vI j, vI v] Z I P (QM (fun r I' => (((tAt (α 4) (σ 1) (σ 2) (fL α L w) (fX α L X) (-4) (α 0 5).toNat 0) < 0 ∨ (tAt (α 4) (σ 1) (σ 2) (fL α L w) (fX α L X) (-4) (α 0 5).toNat 0) = v) ∧ r = -4 ∧ I' = (drI I (42 * s) j (fL α L w) (fX α L X))) ∨ (¬ ((tAt (α 4) (σ 1) (σ 2) (fL α L w) (fX α L X) (-4) (α 0 5).toNat 0) < 0 ∨ (tAt (α 4) (σ 1) (σ 2) (fL α L w) (fX α L X) (-4) (α 0 5).toNat 0) = v) ∧ r = (tAt (α 4) (σ 1) (σ 2) (fL α L w) (fX α L X) (-4) (α 0 5).toNat 0) ∧ I' = upI (drI I (42 * s) j (fL α L w) (fX α L X)) 138 (42 * s + 22 + j) ((tAt (α 4) (σ 1) (σ 2) (fL α L w) (fX α L X) (-4) (α 0 5).toNat 0) + 1))) Z P) := by
  have v0 := hV.1.1
  have v1 := hV.1.2.1
  have v2 := hV.1.2.2.1
  have v3 := hV.1.2.2.2.1
  have v4 := hV.1.2.2.2.2
  have w0 := hW.1
  have w1 := hW.2.1
  have w5 := hW.2.2.1
  have w10 := hW.2.2.2.1
  have tb := tAt_b (σ := σ) hW (fL α L w) (fX α L X) (-4)
  refine Mt.of kmX12_goes (ls := [vA 131, vI s, vI j, vI v, vX]) (fun _ => rfl) (fun _ => rfl) (okf_k (okf_k (okf_k (okf_k (okf_n rfl))))) (fun hok => ?_)
  refine ev_aload_0 0 dX12_goes_0 ?_
  refine ev_iload_1 1 dX12_goes_1 ?_
  refine ev_iload_2 2 dX12_goes_2 ?_
  refine ev_cVv_2 3 dX12_goes_3 kmX12_drifts lk_X12_149 (kd_131 hM) (m_drifts hM hN hV hW hs hj hl hx hw hL hX) rfl rfl (fun I3 f3 => ?_)
  have hV : VM I3 α := hV.fr (by rw [f3]; exact drI_f (by omega)) (by rw [f3]; exact drI_f (by omega)) (by rw [f3]; exact drI_f (by omega)) (by rw [f3]; exact drI_f (by omega))
  have hRT : RT (42 * s) I3 α σ := by rw [f3]; exact RT.dr hj hR
  have e1 : I3 138 (42 * s + 1 + j) = fL α L w := by rw [f3]; exact drI_l rfl
  have e8 : I3 138 (42 * s + 8 + j) = fX α L X := by rw [f3]; exact drI_x rfl
  refine ev_aload_0 6 dX12_goes_6 ?_
  refine ev_iload_1 7 dX12_goes_7 ?_
  refine ev_aload_0 8 dX12_goes_8 ?_
  refine ev_getA 9 8 dX12_goes_9 fa_X12_29 (kd_131 hM) (pr_131_8 hN) rfl ?_
  refine ev_bipush 12 dX12_goes_12 ⟨by decide, by decide⟩ ?_
  refine ev_iload_1 14 dX12_goes_14 ?_
  refine ev_imul 15 dX12_goes_15 ⟨by omega, by omega⟩ ?_
  refine ev_iconst 16 dX12_goes_16 ⟨by decide, by decide⟩ ?_
  refine ev_iadd 17 dX12_goes_17 ⟨by omega, by omega⟩ ?_
  refine ev_iload_2 18 dX12_goes_18 ?_
  refine ev_iadd 19 dX12_goes_19 ⟨by omega, by omega⟩ ?_
  refine ev_iald 20 dX12_goes_20 (kd_138 hM) ⟨by omega, by have := (ln_138 hM); omega⟩ ?_
  try simp only [e1, e8]
  refine ev_aload_0 21 dX12_goes_21 ?_
  refine ev_getA 22 8 dX12_goes_22 fa_X12_29 (kd_131 hM) (pr_131_8 hN) rfl ?_
  refine ev_bipush 25 dX12_goes_25 ⟨by decide, by decide⟩ ?_
  refine ev_iload_1 27 dX12_goes_27 ?_
  refine ev_imul 28 dX12_goes_28 ⟨by omega, by omega⟩ ?_
  refine ev_bipush 29 dX12_goes_29 ⟨by decide, by decide⟩ ?_
  refine ev_iadd 31 dX12_goes_31 ⟨by omega, by omega⟩ ?_
  refine ev_iload_2 32 dX12_goes_32 ?_
  refine ev_iadd 33 dX12_goes_33 ⟨by omega, by omega⟩ ?_
  refine ev_iald 34 dX12_goes_34 (kd_138 hM) ⟨by omega, by have := (ln_138 hM); omega⟩ ?_
  try simp only [e1, e8]
  refine ev_cVp_3 35 dX12_goes_35 kmX12_townAt lk_X12_151 (kd_131 hM) (m_townAt hM hN hV hW (by omega) hRT _ _) rfl rfl ?_
  try simp only [e1, e8]
  refine ev_istore_4 38 dX12_goes_38 rfl rfl ?_
  refine ev_iload_4 40 dX12_goes_40 ?_
  refine ev_if_lt 42 51 dX12_goes_42 rfl (fun h42 => ?_) (fun h42 => ?_)
  · refine ev_bipush 51 dX12_goes_51 ⟨by decide, by decide⟩ ?_
    refine ev_iret 53 dX12_goes_53 ?_ rfl
    exact QM_of (Or.inl ⟨by omega, rfl, f3⟩)
  · refine ev_iload_4 45 dX12_goes_45 ?_
    refine ev_iload_3 47 dX12_goes_47 ?_
    refine ev_jne 48 54 dX12_goes_48 rfl (fun h48 => ?_) (fun h48 => ?_)
    · refine ev_aload_0 54 dX12_goes_54 ?_
      refine ev_getA 55 8 dX12_goes_55 fa_X12_29 (kd_131 hM) (pr_131_8 hN) rfl ?_
      refine ev_bipush 58 dX12_goes_58 ⟨by decide, by decide⟩ ?_
      refine ev_iload_1 60 dX12_goes_60 ?_
      refine ev_imul 61 dX12_goes_61 ⟨by omega, by omega⟩ ?_
      refine ev_bipush 62 dX12_goes_62 ⟨by decide, by decide⟩ ?_
      refine ev_iadd 64 dX12_goes_64 ⟨by omega, by omega⟩ ?_
      refine ev_iload_2 65 dX12_goes_65 ?_
      refine ev_iadd 66 dX12_goes_66 ⟨by omega, by omega⟩ ?_
      refine ev_iload_4 67 dX12_goes_67 ?_
      refine ev_iconst 69 dX12_goes_69 ⟨by decide, by decide⟩ ?_
      refine ev_iadd 70 dX12_goes_70 ⟨by omega, by omega⟩ ?_
      refine ev_iast 71 dX12_goes_71 (kd_138 hM) ⟨by omega, by have := (ln_138 hM); omega⟩ ?_
      refine ev_iload_4 72 dX12_goes_72 ?_
      refine ev_iret 74 dX12_goes_74 ?_ rfl
      exact QM_of (Or.inr ⟨by omega, rfl, by rw [f3]⟩)
    · refine ev_bipush 51 dX12_goes_51 ⟨by decide, by decide⟩ ?_
      refine ev_iret 53 dX12_goes_53 ?_ rfl
      exact QM_of (Or.inl ⟨by omega, rfl, f3⟩)
theorem m_step {l : Launch} {g : Gt} {d : Nat} {Z : Zt} {I : It} {P : Pt'} (hM : LayM Z) (hN : LayQ P) {α : Nat → Int → Int} (hV : VM I α) (hW : WF α) {s : Int} (hs : 0 ≤ s ∧ s ≤ 11) {σ : Nat → Int → Int} (hK : WK α σ) (hR : RS (42 * s) I α σ) : Mt l g mX12_step (d + 3) 0 0 [vA 131, vI s] Z I P (QM (fun r I' => (0 ≤ r ∧ r ≤ 7) ∧ RS (42 * s) I' α (stepS α σ 1) ∧ SF s I I') Z P) := by
  have v0 := hV.1.1
  have v1 := hV.1.2.1
  have v2 := hV.1.2.2.1
  have v3 := hV.1.2.2.2.1
  have v4 := hV.1.2.2.2.2
  have w0 := hW.1
  have w1 := hW.2.1
  have w5 := hW.2.2.1
  have w10 := hW.2.2.2.1
  have k0 := hK.1
  have k1 := hK.2.1
  refine Mt.of kmX12_step (ls := [vA 131, vI s, vX, vX]) (fun _ => rfl) (fun _ => rfl) (okf_k (okf_k (okf_n rfl))) (fun hok => ?_)
  have loop : ∀ (r : Nat) (e n : Int) (J : It), 0 ≤ e → e + r = σ 0 1 → (0 ≤ n ∧ n ≤ e) → (∀ a, a ≠ 138 → J a = I a) → (∀ i, (i < 42 * s + 1 ∨ (42 * s + 15 ≤ i ∧ i < 42 * s + 22) ∨ 42 * s + 29 ≤ i) → J 138 i = I 138 i) → (∀ j, 0 ≤ j → j < σ 0 1 → TH (42 * s) J j (if j < e then stp α σ 1 j else (σ 3 j, σ 4 j, σ 5 j, σ 6 j))) → Ev l g mX12_step (d + 3) 0 0 Z J P 4 [vA 131, vI s, vI n, vI e] [] (QM (fun r I' => (0 ≤ r ∧ r ≤ 7) ∧ RS (42 * s) I' α (stepS α σ 1) ∧ SF s I I') Z P) := by
    intro r
    induction r with
    | zero =>
      intro e n J h0 h1 hn q1 q2 q3
      have jn : J 138 (42 * s) = σ 0 1 := by rw [q2 _ (by omega)]; exact hR.1
      have j41 : J 138 (42 * s + 41) = σ 0 0 := by rw [q2 _ (by omega)]; exact hR.2.1
      refine ev_iload_3 4 dX12_step_4 ?_
      refine ev_aload_0 5 dX12_step_5 ?_
      refine ev_getA 6 8 dX12_step_6 fa_X12_29 (kd_131 hM) (pr_131_8 hN) rfl ?_
      refine ev_bipush 9 dX12_step_9 ⟨by decide, by decide⟩ ?_
      refine ev_iload_1 11 dX12_step_11 ?_
      refine ev_imul 12 dX12_step_12 ⟨by omega, by omega⟩ ?_
      refine ev_iald 13 dX12_step_13 (kd_138 hM) ⟨by omega, by have := (ln_138 hM); omega⟩ ?_
      try simp only [jn, j41]
      refine ev_icmp_ge 14 59 dX12_step_14 rfl (fun h14 => ?_) (fun h14 => ?_)
      · refine ev_aload_0 59 dX12_step_59 ?_
        refine ev_getA 60 8 dX12_step_60 fa_X12_29 (kd_131 hM) (pr_131_8 hN) rfl ?_
        refine ev_bipush 63 dX12_step_63 ⟨by decide, by decide⟩ ?_
        refine ev_iload_1 65 dX12_step_65 ?_
        refine ev_imul 66 dX12_step_66 ⟨by omega, by omega⟩ ?_
        refine ev_bipush 67 dX12_step_67 ⟨by decide, by decide⟩ ?_
        refine ev_iadd 69 dX12_step_69 ⟨by omega, by omega⟩ ?_
        refine ev_dup2 70 dX12_step_70 ?_
        refine ev_iald 71 dX12_step_71 (kd_138 hM) ⟨by omega, by have := (ln_138 hM); omega⟩ ?_
        try simp only [jn, j41]
        refine ev_iconst 72 dX12_step_72 ⟨by decide, by decide⟩ ?_
        refine ev_iadd 73 dX12_step_73 ⟨by omega, by omega⟩ ?_
        refine ev_iast 74 dX12_step_74 (kd_138 hM) ⟨by omega, by have := (ln_138 hM); omega⟩ ?_
        refine ev_iload_2 75 dX12_step_75 ?_
        refine ev_iret 76 dX12_step_76 ?_ rfl
        have e41 : J 138 (42 * s + 41) = σ 0 0 := by rw [q2 _ (by omega)]; exact hR.2.1
        refine QM_of ⟨by omega, ⟨?_, ?_, fun t a c => ?_, fun j a c => ?_⟩, fun a z => by rw [upI_A z]; exact q1 a z, fun i z => by rw [upI_k (by omega)]; exact q2 i (by omega)⟩
        · rw [upI_k (by omega), q2 _ (by omega), st01]; exact hR.1
        · rw [upI_s, st00]
        · rw [upI_k (by omega), upI_k (by omega), q2 _ (by omega), q2 _ (by omega), st1, st2]; exact hR.2.2.1 t a c
        · rw [st01] at c
          obtain ⟨y1, y2, y3⟩ := q3 j a c
          rw [if_pos (by omega)] at y1 y2 y3
          simp (disch := omega) only [upI_k]
          rw [st3, st4, st5, st6]
          exact ⟨y1, by rw [q2 _ (by omega)]; exact (hR.2.2.2 j a c).2.1, y2, y3⟩
      · exfalso; omega
    | succ r ih =>
      intro e n J h0 h1 hn q1 q2 q3
      have jn : J 138 (42 * s) = σ 0 1 := by rw [q2 _ (by omega)]; exact hR.1
      have n51 : ∀ (x : Int) (J2 : It), (x = 0 ∨ x = 1) → (∀ a, a ≠ 138 → J2 a = I a) → (∀ i, (i < 42 * s + 1 ∨ (42 * s + 15 ≤ i ∧ i < 42 * s + 22) ∨ 42 * s + 29 ≤ i) → J2 138 i = I 138 i) → (∀ j, 0 ≤ j → j < σ 0 1 → TH (42 * s) J2 j (if j < e + 1 then stp α σ 1 j else (σ 3 j, σ 4 j, σ 5 j, σ 6 j))) → Ev l g mX12_step (d + 3) 0 0 Z J2 P 51 [vA 131, vI s, vI n, vI e] [vI x, vI n] (QM (fun r I' => (0 ≤ r ∧ r ≤ 7) ∧ RS (42 * s) I' α (stepS α σ 1) ∧ SF s I I') Z P) := by
        intro x J2 hx q1 q2 q3
        refine ev_iadd 51 dX12_step_51 ⟨by omega, by omega⟩ ?_
        refine ev_istore_2 52 dX12_step_52 rfl rfl ?_
        refine ev_iinc_3 53 dX12_step_53 ⟨by omega, by omega⟩ rfl rfl ?_
        refine ev_goto 56 4 dX12_step_56 rfl ?_
        exact ih (e + 1) (n + x) J2 (by omega) (by omega) (by omega) q1 q2 q3
      obtain ⟨y1, y2, y3⟩ := q3 e h0 (by omega)
      rw [if_neg (by omega)] at y1 y2 y3
      dsimp only at y1 y2 y3
      have y5 : J 138 (42 * s + 15 + e) = σ 5 e := by rw [q2 _ (by omega)]; exact (hR.2.2.2 e h0 (by omega)).2.1
      have cr := cg_r (σ 6 e)
      have te : tAt (α 4) (σ 1) (σ 2) (fL α (σ 3 e) (σ 5 e)) (fX α (σ 3 e) (σ 4 e)) (-1) (α 0 5).toNat 0 = tAt (α 4) (σ 1) (σ 2) (fL α (σ 3 e) (σ 5 e)) (fX α (σ 3 e) (σ 4 e)) (-4) (α 0 5).toNat 0 := tAt_n (by omega) (by omega) _ _ (by omega)
      have tr := tAt_r (α 4) (σ 1) (σ 2) (fL α (σ 3 e) (σ 5 e)) (fX α (σ 3 e) (σ 4 e)) (-4) (α 0 5).toNat 0 (by omega)
      have k2 := hK.2.2 e h0 (by omega)
      have ifs : ∀ j, j ≠ e → (if j < e + 1 then stp α σ 1 j else (σ 3 j, σ 4 j, σ 5 j, σ 6 j)) = (if j < e then stp α σ 1 j else (σ 3 j, σ 4 j, σ 5 j, σ 6 j)) := fun j z => by
        by_cases y : j < e
        · rw [if_pos y, if_pos (by omega)]
        · rw [if_neg y, if_neg (by omega)]
      have hA : ¬ cg (σ 6 e) = 0 → (∀ j, 0 ≤ j → j < σ 0 1 → TH (42 * s) J j (if j < e + 1 then stp α σ 1 j else (σ 3 j, σ 4 j, σ 5 j, σ 6 j))) := fun z j a c => by
        by_cases y : j = e
        · subst y
          rw [if_pos (by omega), stp_1, show ps α σ (-1) (σ 3 j, σ 4 j, σ 5 j, σ 6 j) = (σ 3 j, σ 4 j, σ 5 j, σ 6 j) from if_neg (by dsimp only; omega)]
          exact ⟨y1, y2, y3⟩
        · rw [ifs j y]; exact q3 j a c
      have sp : σ 6 e = -4 → stp α σ 1 e = (fL α (σ 3 e) (σ 5 e), fX α (σ 3 e) (σ 4 e), σ 5 e, tAt (α 4) (σ 1) (σ 2) (fL α (σ 3 e) (σ 5 e)) (fX α (σ 3 e) (σ 4 e)) (-4) (α 0 5).toNat 0) := fun z => by
        rw [stp_1]; unfold ps; rw [if_pos z, te]
      have hB : σ 6 e = -4 → tAt (α 4) (σ 1) (σ 2) (fL α (σ 3 e) (σ 5 e)) (fX α (σ 3 e) (σ 4 e)) (-4) (α 0 5).toNat 0 = -4 → (∀ a, a ≠ 138 → (drI J (42 * s) e (fL α (σ 3 e) (σ 5 e)) (fX α (σ 3 e) (σ 4 e))) a = I a) ∧ (∀ i, (i < 42 * s + 1 ∨ (42 * s + 15 ≤ i ∧ i < 42 * s + 22) ∨ 42 * s + 29 ≤ i) → (drI J (42 * s) e (fL α (σ 3 e) (σ 5 e)) (fX α (σ 3 e) (σ 4 e))) 138 i = I 138 i) ∧ (∀ j, 0 ≤ j → j < σ 0 1 → TH (42 * s) (drI J (42 * s) e (fL α (σ 3 e) (σ 5 e)) (fX α (σ 3 e) (σ 4 e))) j (if j < e + 1 then stp α σ 1 j else (σ 3 j, σ 4 j, σ 5 j, σ 6 j))) := fun z zt => by
        refine ⟨fun a c => (drI_f c).trans (q1 a c), fun i c => (drI_o (by omega) (by omega)).trans (q2 i c), fun j a c => ?_⟩
        by_cases y : j = e
        · subst y
          rw [if_pos (by omega), sp z, zt]
          refine ⟨drI_l rfl, ?_, fun _ => drI_x rfl⟩
          rw [drI_o (by omega) (by omega), y2, z]
        · rw [ifs j y]
          exact (q3 j a c).fr (drI_o (by omega) (by omega)) (drI_o (by omega) (by omega)) (drI_o (by omega) (by omega))
      have hC : σ 6 e = -4 → 0 ≤ tAt (α 4) (σ 1) (σ 2) (fL α (σ 3 e) (σ 5 e)) (fX α (σ 3 e) (σ 4 e)) (-4) (α 0 5).toNat 0 → (∀ a, a ≠ 138 → (upI (drI J (42 * s) e (fL α (σ 3 e) (σ 5 e)) (fX α (σ 3 e) (σ 4 e))) 138 (42 * s + 22 + e) (tAt (α 4) (σ 1) (σ 2) (fL α (σ 3 e) (σ 5 e)) (fX α (σ 3 e) (σ 4 e)) (-4) (α 0 5).toNat 0 + 1)) a = I a) ∧ (∀ i, (i < 42 * s + 1 ∨ (42 * s + 15 ≤ i ∧ i < 42 * s + 22) ∨ 42 * s + 29 ≤ i) → (upI (drI J (42 * s) e (fL α (σ 3 e) (σ 5 e)) (fX α (σ 3 e) (σ 4 e))) 138 (42 * s + 22 + e) (tAt (α 4) (σ 1) (σ 2) (fL α (σ 3 e) (σ 5 e)) (fX α (σ 3 e) (σ 4 e)) (-4) (α 0 5).toNat 0 + 1)) 138 i = I 138 i) ∧ (∀ j, 0 ≤ j → j < σ 0 1 → TH (42 * s) (upI (drI J (42 * s) e (fL α (σ 3 e) (σ 5 e)) (fX α (σ 3 e) (σ 4 e))) 138 (42 * s + 22 + e) (tAt (α 4) (σ 1) (σ 2) (fL α (σ 3 e) (σ 5 e)) (fX α (σ 3 e) (σ 4 e)) (-4) (α 0 5).toNat 0 + 1)) j (if j < e + 1 then stp α σ 1 j else (σ 3 j, σ 4 j, σ 5 j, σ 6 j))) := fun z zt => by
        refine ⟨fun a c => (upI_A c).trans ((drI_f c).trans (q1 a c)), fun i c => (upI_k (by omega)).trans ((drI_o (by omega) (by omega)).trans (q2 i c)), fun j a c => ?_⟩
        by_cases y : j = e
        · subst y
          rw [if_pos (by omega), sp z]
          refine ⟨(upI_k (by omega)).trans (drI_l rfl), ?_, fun y => by dsimp only at y; omega⟩
          rw [upI_s]; dsimp only; unfold cg; rw [if_neg (by omega)]
        · rw [ifs j y]
          exact (q3 j a c).fr ((upI_k (by omega)).trans (drI_o (by omega) (by omega))) ((upI_k (by omega)).trans (drI_o (by omega) (by omega))) ((upI_k (by omega)).trans (drI_o (by omega) (by omega)))
      have hV := hV.fr (q1 133 (by omega)) (q1 134 (by omega)) (q1 135 (by omega)) (q1 136 (by omega))
      have hRT : RT (42 * s) J α σ := fun t a c => by rw [q2 _ (by omega), q2 _ (by omega)]; exact hR.2.2.1 t a c
      refine ev_iload_3 4 dX12_step_4 ?_
      refine ev_aload_0 5 dX12_step_5 ?_
      refine ev_getA 6 8 dX12_step_6 fa_X12_29 (kd_131 hM) (pr_131_8 hN) rfl ?_
      refine ev_bipush 9 dX12_step_9 ⟨by decide, by decide⟩ ?_
      refine ev_iload_1 11 dX12_step_11 ?_
      refine ev_imul 12 dX12_step_12 ⟨by omega, by omega⟩ ?_
      refine ev_iald 13 dX12_step_13 (kd_138 hM) ⟨by omega, by have := (ln_138 hM); omega⟩ ?_
      try simp only [jn, y2]
      refine ev_icmp_ge 14 59 dX12_step_14 rfl (fun h14 => ?_) (fun h14 => ?_)
      · exfalso; omega
      · refine ev_iload_2 17 dX12_step_17 ?_
        refine ev_aload_0 18 dX12_step_18 ?_
        refine ev_getA 19 8 dX12_step_19 fa_X12_29 (kd_131 hM) (pr_131_8 hN) rfl ?_
        refine ev_bipush 22 dX12_step_22 ⟨by decide, by decide⟩ ?_
        refine ev_iload_1 24 dX12_step_24 ?_
        refine ev_imul 25 dX12_step_25 ⟨by omega, by omega⟩ ?_
        refine ev_bipush 26 dX12_step_26 ⟨by decide, by decide⟩ ?_
        refine ev_iadd 28 dX12_step_28 ⟨by omega, by omega⟩ ?_
        refine ev_iload_3 29 dX12_step_29 ?_
        refine ev_iadd 30 dX12_step_30 ⟨by omega, by omega⟩ ?_
        refine ev_iald 31 dX12_step_31 (kd_138 hM) ⟨by omega, by have := (ln_138 hM); omega⟩ ?_
        try simp only [jn, y2]
        refine ev_zne 32 50 dX12_step_32 rfl (fun h32 => ?_) (fun h32 => ?_)
        · refine ev_iconst 50 dX12_step_50 ⟨by decide, by decide⟩ ?_
          first
            | exact n51 0 _ (Or.inl rfl) q1 q2 (hA (by assumption))
            | (rcases f40 with ⟨f1, f2, f3⟩ | ⟨f1, f2, f3⟩
               · first
                   | (exfalso; omega)
                   | (obtain ⟨z1, z2, z3⟩ := hB c6 (by omega); exact n51 0 _ (Or.inl rfl) (by rw [f3]; exact z1) (by rw [f3]; exact z2) (by rw [f3]; exact z3))
               · first
                   | (exfalso; omega)
                   | (obtain ⟨z1, z2, z3⟩ := hC c6 (by omega); exact n51 1 _ (Or.inr rfl) (by rw [f3]; exact z1) (by rw [f3]; exact z2) (by rw [f3]; exact z3)))
        · have c6 : σ 6 e = -4 := by omega
          refine ev_aload_0 35 dX12_step_35 ?_
          refine ev_iload_1 36 dX12_step_36 ?_
          refine ev_iload_3 37 dX12_step_37 ?_
          refine ev_bipush 38 dX12_step_38 ⟨by decide, by decide⟩ ?_
          refine ev_cVm_3 40 dX12_step_40 kmX12_goes lk_X12_154 (kd_131 hM) (m_goes hM hN hV hW hs (by omega) y1 (y3 c6) y5 k2.1.1 k2.1.2.1 hRT _) rfl rfl (fun x40 I40 f40 => ?_)
          refine ev_if_lt 43 50 dX12_step_43 rfl (fun h43 => ?_) (fun h43 => ?_)
          · refine ev_iconst 50 dX12_step_50 ⟨by decide, by decide⟩ ?_
            first
              | exact n51 0 _ (Or.inl rfl) q1 q2 (hA (by assumption))
              | (rcases f40 with ⟨f1, f2, f3⟩ | ⟨f1, f2, f3⟩
                 · first
                     | (exfalso; omega)
                     | (obtain ⟨z1, z2, z3⟩ := hB c6 (by omega); exact n51 0 _ (Or.inl rfl) (by rw [f3]; exact z1) (by rw [f3]; exact z2) (by rw [f3]; exact z3))
                 · first
                     | (exfalso; omega)
                     | (obtain ⟨z1, z2, z3⟩ := hC c6 (by omega); exact n51 1 _ (Or.inr rfl) (by rw [f3]; exact z1) (by rw [f3]; exact z2) (by rw [f3]; exact z3)))
          · refine ev_iconst 46 dX12_step_46 ⟨by decide, by decide⟩ ?_
            refine ev_goto 47 51 dX12_step_47 rfl ?_
            first
              | exact n51 0 _ (Or.inl rfl) q1 q2 (hA (by assumption))
              | (rcases f40 with ⟨f1, f2, f3⟩ | ⟨f1, f2, f3⟩
                 · first
                     | (exfalso; omega)
                     | (obtain ⟨z1, z2, z3⟩ := hB c6 (by omega); exact n51 0 _ (Or.inl rfl) (by rw [f3]; exact z1) (by rw [f3]; exact z2) (by rw [f3]; exact z3))
                 · first
                     | (exfalso; omega)
                     | (obtain ⟨z1, z2, z3⟩ := hC c6 (by omega); exact n51 1 _ (Or.inr rfl) (by rw [f3]; exact z1) (by rw [f3]; exact z2) (by rw [f3]; exact z3)))
  refine ev_iconst 0 dX12_step_0 ⟨by decide, by decide⟩ ?_
  refine ev_istore_2 1 dX12_step_1 rfl rfl ?_
  refine ev_iconst 2 dX12_step_2 ⟨by decide, by decide⟩ ?_
  refine ev_istore_3 3 dX12_step_3 rfl rfl ?_
  refine loop (σ 0 1).toNat 0 0 I (by omega) (by omega) (by omega) (fun _ _ => rfl) (fun _ _ => rfl) (fun j a c => ?_)
  rw [if_neg (by omega)]
  obtain ⟨r1, r2, r3, r4⟩ := hR.2.2.2 j a c
  exact ⟨r1, r3, r4⟩
theorem m_steps {l : Launch} {g : Gt} {d : Nat} {Z : Zt} {I : It} {P : Pt'} (hM : LayM Z) (hN : LayQ P) {α : Nat → Int → Int} (hV : VM I α) (hW : WF α) {σ : Nat → Int → Int} (hR : RS 0 I α σ) (hWS : WS α σ) {U : Int → Nat → Int → Int} (hn : 0 ≤ I 131 10 ∧ I 131 10 ≤ 8) (hU : ∀ k, 0 ≤ k → k < I 131 10 → RS (42 * (3 + k)) I α (U k)) (hU7 : ∀ k, 0 ≤ k → k < I 131 10 → U k 0 1 ≤ 7) (n : Int) : Mt l g mX12_steps (d + 4) 0 0 [vA 131, vI n] Z I P (QM (fun r I' => (¬ (1 ≤ n ∧ n ≤ 60) ∧ r = -1 ∧ I' = I) ∨ ((1 ≤ n ∧ n ≤ 60) ∧ ((9999 < σ 0 0 + n ∧ r = -2 ∧ I' = I) ∨ (σ 0 0 + n ≤ 9999 ∧ r = σ 0 0 + n ∧ PM α U σ (stepS α σ n) I I')))) Z P) := by
  have v0 := hV.1.1
  have v1 := hV.1.2.1
  have v2 := hV.1.2.2.1
  have v3 := hV.1.2.2.2.1
  have v4 := hV.1.2.2.2.2
  have w0 := hW.1
  have w1 := hW.2.1
  have w5 := hW.2.2.1
  have w10 := hW.2.2.2.1
  have w7 := hWS.2.1
  have e41 : I 138 41 = σ 0 0 := hR.2.1
  have w00 := hWS.1
  refine Mt.of kmX12_steps (ls := [vA 131, vI n, vX, vX]) (fun _ => rfl) (fun _ => rfl) (okf_k (okf_k (okf_n rfl))) (fun hok => ?_)
  have loop : ((1 ≤ n ∧ n ≤ 60) ∧ σ 0 0 + n ≤ 9999) → ∀ (r : Nat) (k c : Int) (J : It), 0 ≤ k → k + r = n → (0 ≤ c ∧ c ≤ 7 * k) → PM α U σ (stepS α σ k) I J → Ev l g mX12_steps (d + 4) 0 0 Z J P 40 [vA 131, vI n, vI c, vI k] [] (QM (fun r I' => (¬ (1 ≤ n ∧ n ≤ 60) ∧ r = -1 ∧ I' = I) ∨ ((1 ≤ n ∧ n ≤ 60) ∧ ((9999 < σ 0 0 + n ∧ r = -2 ∧ I' = I) ∨ (σ 0 0 + n ≤ 9999 ∧ r = σ 0 0 + n ∧ PM α U σ (stepS α σ n) I I')))) Z P) := by
    intro hg r
    induction r with
    | zero =>
      intro k c J h0 h1 hc hp
      have e41 : J 138 41 = σ 0 0 + k := by rw [← st00 α σ k]; exact hp.1.2.1
      refine ev_iload_3 40 dX12_steps_40 ?_
      refine ev_iload_1 41 dX12_steps_41 ?_
      refine ev_icmp_ge 42 59 dX12_steps_42 rfl (fun h42 => ?_) (fun h42 => ?_)
      · refine ev_aload_0 59 dX12_steps_59 ?_
        refine ev_getA 60 8 dX12_steps_60 fa_X12_29 (kd_131 hM) (pr_131_8 hN) rfl ?_
        refine ev_bipush 63 dX12_steps_63 ⟨by decide, by decide⟩ ?_
        refine ev_iald 65 dX12_steps_65 (kd_138 hM) ⟨by omega, by have := (ln_138 hM); omega⟩ ?_
        try simp only [e41]
        refine ev_iload_2 66 dX12_steps_66 ?_
        refine ev_iadd 67 dX12_steps_67 ⟨by omega, by omega⟩ ?_
        refine ev_iload_2 68 dX12_steps_68 ?_
        refine ev_isub 69 dX12_steps_69 ⟨by omega, by omega⟩ ?_
        refine ev_iret 70 dX12_steps_70 ?_ rfl
        exact QM_of (Or.inr ⟨by omega, Or.inr ⟨by omega, by omega, by rw [show n = k by omega]; exact hp⟩⟩)
      · exfalso; omega
    | succ r ih =>
      intro k c J h0 h1 hc hp
      have hV := hV.fr (hp.2.2.2.2.1 133 (by omega) (by omega)) (hp.2.2.2.2.1 134 (by omega) (by omega)) (hp.2.2.2.2.1 135 (by omega) (by omega)) (hp.2.2.2.2.1 136 (by omega) (by omega))
      have hK := hWS.k.st hW (n := k) (by omega)
      refine ev_iload_3 40 dX12_steps_40 ?_
      refine ev_iload_1 41 dX12_steps_41 ?_
      refine ev_icmp_ge 42 59 dX12_steps_42 rfl (fun h42 => ?_) (fun h42 => ?_)
      · exfalso; omega
      · refine ev_iload_2 45 dX12_steps_45 ?_
        refine ev_aload_0 46 dX12_steps_46 ?_
        refine ev_iconst 47 dX12_steps_47 ⟨by decide, by decide⟩ ?_
        refine ev_cVm_1 48 dX12_steps_48 kmX12_step lk_X12_162 (kd_131 hM) (m_step hM hN hV hW (by omega) hK hp.1.z) rfl rfl (fun x48 I48 f48 => ?_)
        obtain ⟨g1, g2, g3⟩ := f48
        refine ev_iadd 51 dX12_steps_51 ⟨by omega, by omega⟩ ?_
        refine ev_istore_2 52 dX12_steps_52 rfl rfl ?_
        refine ev_iinc_3 53 dX12_steps_53 ⟨by omega, by omega⟩ rfl rfl ?_
        refine ev_goto 56 40 dX12_steps_56 rfl ?_
        refine ih (k + 1) _ _ (by omega) (by omega) (by omega) (hp.w hW hn (by omega) hU7 ?_ g3.1 (fun i z => g3.2 i (by omega)))
        rw [stepS_s α σ h0, show (42 * 0 : Int) = 0 by omega] at g2
        exact g2
  refine ev_iload_1 0 dX12_steps_0 ?_
  refine ev_i2l 1 dX12_steps_1 ?_
  refine ev_lconst1 2 dX12_steps_2 ?_
  refine ev_ldc2 3 dX12_steps_3 kl_X12_157 ⟨by decide, by decide⟩ ?_
  refine ev_cSp_3 6 dX12_steps_6 kmX12_in lk_X12_62 (m_in _ _ _) rfl rfl ?_
  try simp only [e41]
  refine ev_ifb_ne 9 14 dX12_steps_9 rfl (fun h9 => ?_) (fun h9 => ?_)
  · refine ev_aload_0 14 dX12_steps_14 ?_
    refine ev_getA 15 8 dX12_steps_15 fa_X12_29 (kd_131 hM) (pr_131_8 hN) rfl ?_
    refine ev_bipush 18 dX12_steps_18 ⟨by decide, by decide⟩ ?_
    refine ev_iald 20 dX12_steps_20 (kd_138 hM) ⟨by omega, by have := (ln_138 hM); omega⟩ ?_
    try simp only [e41]
    refine ev_iload_1 21 dX12_steps_21 ?_
    refine ev_iadd 22 dX12_steps_22 ⟨by omega, by omega⟩ ?_
    refine ev_sipush 23 dX12_steps_23 ⟨by decide, by decide⟩ ?_
    refine ev_icmp_le 26 32 dX12_steps_26 rfl (fun h26 => ?_) (fun h26 => ?_)
    · refine ev_aload_0 32 dX12_steps_32 ?_
      refine ev_cVv_0 33 dX12_steps_33 kmX12_known lk_X12_159 (kd_131 hM) (m_known hM hN hn) rfl rfl (fun I33 f33 => ?_)
      have p33 := KP.pm hW hR (by omega) hU hU7 f33
      refine ev_iconst 36 dX12_steps_36 ⟨by decide, by decide⟩ ?_
      refine ev_istore_2 37 dX12_steps_37 rfl rfl ?_
      refine ev_iconst 38 dX12_steps_38 ⟨by decide, by decide⟩ ?_
      refine ev_istore_3 39 dX12_steps_39 rfl rfl ?_
      exact loop (by omega) n.toNat 0 0 _ (by omega) (by omega) (by omega) (by rw [stepS_0]; exact p33)
    · refine ev_bipush 29 dX12_steps_29 ⟨by decide, by decide⟩ ?_
      refine ev_iret 31 dX12_steps_31 ?_ rfl
      exact QM_of (Or.inr ⟨by omega, Or.inl ⟨by omega, rfl, rfl⟩⟩)
  · refine ev_iconst 12 dX12_steps_12 ⟨by decide, by decide⟩ ?_
    refine ev_iret 13 dX12_steps_13 ?_ rfl
    exact QM_of (Or.inl ⟨by omega, rfl, rfl⟩)
theorem m_behind {l : Launch} {g : Gt} {d : Nat} {Z : Zt} {I : It} {P : Pt'} (hM : LayM Z) (hN : LayQ P) {α : Nat → Int → Int} (hV : VM I α) (hW : WF α) {σ : Nat → Int → Int} (hR : RS 0 I α σ) (hWS : WS α σ) (hca : CA α σ) (n t w : Int) : Mt l g mX12_behind (d + 4) 0 0 [vA 131, vI n, vI t, vI w] Z I P (QM (fun r I' => r = bhA α σ n t w ∧ TF I I') Z P) := by
  have v0 := hV.1.1
  have v1 := hV.1.2.1
  have v2 := hV.1.2.2.1
  have v3 := hV.1.2.2.2.1
  have v4 := hV.1.2.2.2.2
  have w0 := hW.1
  have w1 := hW.2.1
  have w5 := hW.2.2.1
  have w10 := hW.2.2.2.1
  have h10 : I 138 0 = σ 0 1 := hR.1
  have w7 := hWS.2.1
  have w00 := hWS.1
  refine Mt.of kmX12_behind (ls := [vA 131, vI n, vI t, vI w, vX, vX]) (fun _ => rfl) (fun _ => rfl) (okf_k (okf_k (okf_k (okf_k (okf_n rfl))))) (fun hok => ?_)
  have loop : ((0 ≤ n ∧ n ≤ 60) ∧ (0 ≤ t ∧ t < σ 0 1) ∧ (0 ≤ w ∧ w ≤ 2)) → ∀ (r : Nat) (k c : Int) (J : It), 0 ≤ k → k + r = n → (0 ≤ c ∧ c ≤ 7 * k) → TF I J → RS (42 * 11) J α (stepS α σ k) → Ev l g mX12_behind (d + 4) 0 0 Z J P 47 [vA 131, vI n, vI t, vI w, vI c, vI k] [] (QM (fun r I' => r = bhA α σ n t w ∧ TF I I') Z P) := by
    intro hg r
    induction r with
    | zero =>
      intro k c J h0 h1 hc tf hr
      have hV := tf.vm hV
      refine ev_iload_5 47 dX12_behind_47 ?_
      refine ev_iload_1 49 dX12_behind_49 ?_
      refine ev_icmp_ge 50 70 dX12_behind_50 rfl (fun h50 => ?_) (fun h50 => ?_)
      · refine ev_iload_4 70 dX12_behind_70 ?_
        refine ev_if_ge 72 79 dX12_behind_72 rfl (fun h72 => ?_) (fun h72 => ?_)
        · refine ev_aload_0 79 dX12_behind_79 ?_
          refine ev_bipush 80 dX12_behind_80 ⟨by decide, by decide⟩ ?_
          refine ev_iload_2 82 dX12_behind_82 ?_
          refine ev_iload_3 83 dX12_behind_83 ?_
          refine ev_iconst 84 dX12_behind_84 ⟨by decide, by decide⟩ ?_
          refine ev_jne 85 92 dX12_behind_85 rfl (fun h85 => ?_) (fun h85 => ?_)
          · refine ev_iload_3 92 dX12_behind_92 ?_
            refine ev_cVp_3 93 dX12_behind_93 kmX12_tells lk_X12_141 (kd_131 hM) (m_tells hM hN hV hW (by omega) hr (by rw [st01]; omega) (CA.st hW hca k)) rfl rfl ?_
            refine ev_iret 96 dX12_behind_96 ?_ rfl
            first
              | (exfalso; omega)
              | (refine QM_of ⟨?_, tf⟩
                 unfold bhA
                 rw [if_pos ⟨hg.1, hg.2.1, hg.2.2⟩]
                 unfold tlA
                 rw [st3, st4, st6]
                 unfold stp
                 rw [show k = n by omega]
                 (repeat' split) <;> first | rfl | omega)
          · refine ev_iconst 88 dX12_behind_88 ⟨by decide, by decide⟩ ?_
            refine ev_goto 89 93 dX12_behind_89 rfl ?_
            refine ev_cVp_3 93 dX12_behind_93 kmX12_tells lk_X12_141 (kd_131 hM) (m_tells hM hN hV hW (by omega) hr (by rw [st01]; omega) (CA.st hW hca k)) rfl rfl ?_
            refine ev_iret 96 dX12_behind_96 ?_ rfl
            first
              | (exfalso; omega)
              | (refine QM_of ⟨?_, tf⟩
                 unfold bhA
                 rw [if_pos ⟨hg.1, hg.2.1, hg.2.2⟩]
                 unfold tlA
                 rw [st3, st4, st6]
                 unfold stp
                 rw [show k = n by omega]
                 (repeat' split) <;> first | rfl | omega)
        · refine ev_iconst 75 dX12_behind_75 ⟨by decide, by decide⟩ ?_
          refine ev_goto 76 96 dX12_behind_76 rfl ?_
          refine ev_iret 96 dX12_behind_96 ?_ rfl
          first
            | (exfalso; omega)
            | (refine QM_of ⟨?_, tf⟩
               unfold bhA
               rw [if_pos ⟨hg.1, hg.2.1, hg.2.2⟩]
               unfold tlA
               rw [st3, st4, st6]
               unfold stp
               rw [show k = n by omega]
               (repeat' split) <;> first | rfl | omega)
      · exfalso; omega
    | succ r ih =>
      intro k c J h0 h1 hc tf hr
      have hV := tf.vm hV
      have hK := hWS.k.st hW (n := k) (by omega)
      refine ev_iload_5 47 dX12_behind_47 ?_
      refine ev_iload_1 49 dX12_behind_49 ?_
      refine ev_icmp_ge 50 70 dX12_behind_50 rfl (fun h50 => ?_) (fun h50 => ?_)
      · exfalso; omega
      · refine ev_iload_4 53 dX12_behind_53 ?_
        refine ev_aload_0 55 dX12_behind_55 ?_
        refine ev_bipush 56 dX12_behind_56 ⟨by decide, by decide⟩ ?_
        refine ev_cVm_1 58 dX12_behind_58 kmX12_step lk_X12_162 (kd_131 hM) (m_step hM hN hV hW (by omega) hK hr) rfl rfl (fun x58 I58 f58 => ?_)
        obtain ⟨g1, g2, g3⟩ := f58
        refine ev_iadd 61 dX12_behind_61 ⟨by omega, by omega⟩ ?_
        refine ev_istore_4 62 dX12_behind_62 rfl rfl ?_
        refine ev_iinc_5 64 dX12_behind_64 ⟨by omega, by omega⟩ rfl rfl ?_
        refine ev_goto 67 47 dX12_behind_67 rfl ?_
        refine ih (k + 1) _ _ (by omega) (by omega) (by omega) (tf.tr g3.tf) ?_
        rw [stepS_s α σ h0] at g2
        exact g2
  refine ev_iload_1 0 dX12_behind_0 ?_
  refine ev_i2l 1 dX12_behind_1 ?_
  refine ev_lconst0 2 dX12_behind_2 ?_
  refine ev_ldc2 3 dX12_behind_3 kl_X12_157 ⟨by decide, by decide⟩ ?_
  refine ev_cSp_3 6 dX12_behind_6 kmX12_in lk_X12_62 (m_in _ _ _) rfl rfl ?_
  try simp only [h10]
  refine ev_ifb_eq 9 32 dX12_behind_9 rfl (fun h9 => ?_) (fun h9 => ?_)
  · refine ev_iconst 32 dX12_behind_32 ⟨by decide, by decide⟩ ?_
    refine ev_iret 33 dX12_behind_33 ?_ rfl
    exact QM_of ⟨(if_neg (by omega)).symm, TF.rf⟩
  · refine ev_aload_0 12 dX12_behind_12 ?_
    refine ev_iload_2 13 dX12_behind_13 ?_
    refine ev_cVp_1 14 dX12_behind_14 kmX12_isThing lk_X12_136 (kd_131 hM) (m_isThing hM hN hV hW (by omega) _) rfl rfl ?_
    try simp only [h10]
    refine ev_ifb_eq 17 32 dX12_behind_17 rfl (fun h17 => ?_) (fun h17 => ?_)
    · refine ev_iconst 32 dX12_behind_32 ⟨by decide, by decide⟩ ?_
      refine ev_iret 33 dX12_behind_33 ?_ rfl
      exact QM_of ⟨(if_neg (by omega)).symm, TF.rf⟩
    · refine ev_iload_3 20 dX12_behind_20 ?_
      refine ev_i2l 21 dX12_behind_21 ?_
      refine ev_lconst0 22 dX12_behind_22 ?_
      refine ev_ldc2 23 dX12_behind_23 kl_X12_77 ⟨by decide, by decide⟩ ?_
      refine ev_cSp_3 26 dX12_behind_26 kmX12_in lk_X12_62 (m_in _ _ _) rfl rfl ?_
      try simp only [h10]
      refine ev_ifb_ne 29 34 dX12_behind_29 rfl (fun h29 => ?_) (fun h29 => ?_)
      · refine ev_aload_0 34 dX12_behind_34 ?_
        refine ev_iconst 35 dX12_behind_35 ⟨by decide, by decide⟩ ?_
        refine ev_bipush 36 dX12_behind_36 ⟨by decide, by decide⟩ ?_
        refine ev_cVv_2 38 dX12_behind_38 kmX12_copies lk_X12_145 (kd_131 hM) (m_copies hM hN (by omega) (by omega) (by omega)) rfl rfl (fun I38 f38 => ?_)
        have tf38 : TF I I38 := by rw [f38]; exact TF.cp
        have r38 : RS (42 * 11) I38 α (stepS α σ 0) := by rw [f38, stepS_0]; exact hR.mv hW (by omega) (fun i a c => by rw [cpN_i ⟨a, c⟩, show 42 * 0 + i = 0 + i by omega])
        refine ev_iconst 41 dX12_behind_41 ⟨by decide, by decide⟩ ?_
        refine ev_istore_4 42 dX12_behind_42 rfl rfl ?_
        refine ev_iconst 44 dX12_behind_44 ⟨by decide, by decide⟩ ?_
        refine ev_istore_5 45 dX12_behind_45 rfl rfl ?_
        exact loop (by omega) n.toNat 0 0 _ (by omega) (by omega) (by omega) tf38 r38
      · refine ev_iconst 32 dX12_behind_32 ⟨by decide, by decide⟩ ?_
        refine ev_iret 33 dX12_behind_33 ?_ rfl
        exact QM_of ⟨(if_neg (by omega)).symm, TF.rf⟩
theorem m_areMet {l : Launch} {g : Gt} {d : Nat} {Z : Zt} {I : It} {P : Pt'} (hM : LayM Z) (hN : LayQ P) {α σ : Nat → Int → Int} (hR : RS (42 * 11) I α σ) {a b : Int} (ha : 0 ≤ a ∧ a < σ 0 1) (hb : 0 ≤ b ∧ b < σ 0 1) (hk : WK α σ) : Mt l g mX12_areMet d 0 0 [vA 131, vI a, vI b] Z I P (QP (b2 (σ 6 a = -4 ∧ σ 6 b = -4 ∧ σ 3 a = σ 3 b ∧ σ 4 a = σ 4 b)) Z I P) := by
  have h7 := hk.2.1
  have ka := (hk.2.2 a ha.1 ha.2).2
  have kb := (hk.2.2 b hb.1 hb.2).2
  have la := hR.l ha.1 ha.2 (show 462 + 1 + a = 42 * 11 + 1 + a by omega)
  have lb := hR.l hb.1 hb.2 (show 462 + 1 + b = 42 * 11 + 1 + b by omega)
  have ba := hR.b ha.1 ha.2 (show 462 + 22 + a = 42 * 11 + 22 + a by omega)
  have bb := hR.b hb.1 hb.2 (show 462 + 22 + b = 42 * 11 + 22 + b by omega)
  have pa := hR.p ha.1 ha.2 (show 462 + 8 + a = 42 * 11 + 8 + a by omega)
  have pb := hR.p hb.1 hb.2 (show 462 + 8 + b = 42 * 11 + 8 + b by omega)
  have ca := cg_r (σ 6 a)
  have cb := cg_r (σ 6 b)
  refine Mt.of kmX12_areMet (ls := [vA 131, vI a, vI b, vX, vX]) (fun _ => rfl) (fun _ => rfl) (okf_k (okf_k (okf_k (okf_n rfl)))) (fun hok => ?_)
  refine ev_sipush 0 dX12_areMet_0 ⟨by decide, by decide⟩ ?_
  refine ev_istore_3 3 dX12_areMet_3 rfl rfl ?_
  refine Ev.join 37 (fun jv => (jv = 0 ∨ jv = 1) ∧ (jv = 1 ↔ (σ 6 a = -4 ∧ σ 6 b = -4))) (fun x37 q37 => ?_) (fun j37 => ?_)
  · try dsimp only at q37
    refine ev_istore_4 37 dX12_areMet_37 rfl rfl ?_
    refine ev_iload_4 39 dX12_areMet_39 ?_
    refine ev_if_eq 41 96 dX12_areMet_41 rfl (fun h41 => ?_) (fun h41 => ?_)
    · refine ev_iconst 96 dX12_areMet_96 ⟨by decide, by decide⟩ ?_
      refine ev_zret 97 dX12_areMet_97 (by first | omega | exact b2_or _) ?_ rfl
      first | exact QP_of (b2_t (by omega)).symm | exact QP_of (b2_f (by omega)).symm
    · refine ev_aload_0 44 dX12_areMet_44 ?_
      refine ev_getA 45 8 dX12_areMet_45 fa_X12_29 (kd_131 hM) (pr_131_8 hN) rfl ?_
      refine ev_iload_3 48 dX12_areMet_48 ?_
      refine ev_iconst 49 dX12_areMet_49 ⟨by decide, by decide⟩ ?_
      refine ev_iadd 50 dX12_areMet_50 ⟨by omega, by omega⟩ ?_
      refine ev_iload_1 51 dX12_areMet_51 ?_
      refine ev_iadd 52 dX12_areMet_52 ⟨by omega, by omega⟩ ?_
      refine ev_iald 53 dX12_areMet_53 (kd_138 hM) ⟨by omega, by have := (ln_138 hM); omega⟩ ?_
      try simp only [la, lb, ba, bb]
      refine ev_aload_0 54 dX12_areMet_54 ?_
      refine ev_getA 55 8 dX12_areMet_55 fa_X12_29 (kd_131 hM) (pr_131_8 hN) rfl ?_
      refine ev_iload_3 58 dX12_areMet_58 ?_
      refine ev_iconst 59 dX12_areMet_59 ⟨by decide, by decide⟩ ?_
      refine ev_iadd 60 dX12_areMet_60 ⟨by omega, by omega⟩ ?_
      refine ev_iload_2 61 dX12_areMet_61 ?_
      refine ev_iadd 62 dX12_areMet_62 ⟨by omega, by omega⟩ ?_
      refine ev_iald 63 dX12_areMet_63 (kd_138 hM) ⟨by omega, by have := (ln_138 hM); omega⟩ ?_
      try simp only [la, lb, ba, bb]
      refine ev_jne 64 96 dX12_areMet_64 rfl (fun h64 => ?_) (fun h64 => ?_)
      · refine ev_iconst 96 dX12_areMet_96 ⟨by decide, by decide⟩ ?_
        refine ev_zret 97 dX12_areMet_97 (by first | omega | exact b2_or _) ?_ rfl
        first | exact QP_of (b2_t (by omega)).symm | exact QP_of (b2_f (by omega)).symm
      · refine ev_aload_0 67 dX12_areMet_67 ?_
        refine ev_getA 68 8 dX12_areMet_68 fa_X12_29 (kd_131 hM) (pr_131_8 hN) rfl ?_
        refine ev_iload_3 71 dX12_areMet_71 ?_
        refine ev_bipush 72 dX12_areMet_72 ⟨by decide, by decide⟩ ?_
        refine ev_iadd 74 dX12_areMet_74 ⟨by omega, by omega⟩ ?_
        refine ev_iload_1 75 dX12_areMet_75 ?_
        refine ev_iadd 76 dX12_areMet_76 ⟨by omega, by omega⟩ ?_
        refine ev_iald 77 dX12_areMet_77 (kd_138 hM) ⟨by omega, by have := (ln_138 hM); omega⟩ ?_
        try simp only [la, lb, ba, bb]
        refine ev_aload_0 78 dX12_areMet_78 ?_
        refine ev_getA 79 8 dX12_areMet_79 fa_X12_29 (kd_131 hM) (pr_131_8 hN) rfl ?_
        refine ev_iload_3 82 dX12_areMet_82 ?_
        refine ev_bipush 83 dX12_areMet_83 ⟨by decide, by decide⟩ ?_
        refine ev_iadd 85 dX12_areMet_85 ⟨by omega, by omega⟩ ?_
        refine ev_iload_2 86 dX12_areMet_86 ?_
        refine ev_iadd 87 dX12_areMet_87 ⟨by omega, by omega⟩ ?_
        refine ev_iald 88 dX12_areMet_88 (kd_138 hM) ⟨by omega, by have := (ln_138 hM); omega⟩ ?_
        try simp only [la, lb, ba, bb]
        refine ev_jne 89 96 dX12_areMet_89 rfl (fun h89 => ?_) (fun h89 => ?_)
        · refine ev_iconst 96 dX12_areMet_96 ⟨by decide, by decide⟩ ?_
          refine ev_zret 97 dX12_areMet_97 (by first | omega | exact b2_or _) ?_ rfl
          first | exact QP_of (b2_t (by omega)).symm | exact QP_of (b2_f (by omega)).symm
        · refine ev_iconst 92 dX12_areMet_92 ⟨by decide, by decide⟩ ?_
          refine ev_goto 93 97 dX12_areMet_93 rfl ?_
          refine ev_zret 97 dX12_areMet_97 (by first | omega | exact b2_or _) ?_ rfl
          first | exact QP_of (b2_t (by omega)).symm | exact QP_of (b2_f (by omega)).symm
  · refine ev_aload_0 4 dX12_areMet_4 ?_
    refine ev_getA 5 8 dX12_areMet_5 fa_X12_29 (kd_131 hM) (pr_131_8 hN) rfl ?_
    refine ev_iload_3 8 dX12_areMet_8 ?_
    refine ev_bipush 9 dX12_areMet_9 ⟨by decide, by decide⟩ ?_
    refine ev_iadd 11 dX12_areMet_11 ⟨by omega, by omega⟩ ?_
    refine ev_iload_1 12 dX12_areMet_12 ?_
    refine ev_iadd 13 dX12_areMet_13 ⟨by omega, by omega⟩ ?_
    refine ev_iald 14 dX12_areMet_14 (kd_138 hM) ⟨by omega, by have := (ln_138 hM); omega⟩ ?_
    try simp only [la, lb, ba, bb]
    refine ev_zne 15 36 dX12_areMet_15 rfl (fun h15 => ?_) (fun h15 => ?_)
    · refine ev_iconst 36 dX12_areMet_36 ⟨by decide, by decide⟩ ?_
      exact j37 _ (by omega)
    · refine ev_aload_0 18 dX12_areMet_18 ?_
      refine ev_getA 19 8 dX12_areMet_19 fa_X12_29 (kd_131 hM) (pr_131_8 hN) rfl ?_
      refine ev_iload_3 22 dX12_areMet_22 ?_
      refine ev_bipush 23 dX12_areMet_23 ⟨by decide, by decide⟩ ?_
      refine ev_iadd 25 dX12_areMet_25 ⟨by omega, by omega⟩ ?_
      refine ev_iload_2 26 dX12_areMet_26 ?_
      refine ev_iadd 27 dX12_areMet_27 ⟨by omega, by omega⟩ ?_
      refine ev_iald 28 dX12_areMet_28 (kd_138 hM) ⟨by omega, by have := (ln_138 hM); omega⟩ ?_
      try simp only [la, lb, ba, bb]
      refine ev_zne 29 36 dX12_areMet_29 rfl (fun h29 => ?_) (fun h29 => ?_)
      · refine ev_iconst 36 dX12_areMet_36 ⟨by decide, by decide⟩ ?_
        exact j37 _ (by omega)
      · refine ev_iconst 32 dX12_areMet_32 ⟨by decide, by decide⟩ ?_
        refine ev_goto 33 37 dX12_areMet_33 rfl ?_
        exact j37 _ (by omega)
theorem mtF_c {α σ : Nat → Int → Int} : ∀ (k : Nat) (n : Int) (p q : Dq), (p.2.2.2 ≠ -4 ∨ q.2.2.2 ≠ -4) → mtF α σ k n p q = -4
  | 0, _, _, _, _ => rfl
  | k + 1, n, p, q, h => if_pos h
theorem mtF_s {α σ : Nat → Int → Int} {k : Nat} {n : Int} {p q : Dq} (h : ¬ (p.2.2.2 = -4 ∧ q.2.2.2 = -4 ∧ p.1 = q.1 ∧ p.2.1 = q.2.1)) : mtF α σ (k + 1) n p q = mtF α σ k (n + 1) (ps α σ (-1) p) (ps α σ (-1) q) := by
  by_cases c : p.2.2.2 ≠ -4 ∨ q.2.2.2 ≠ -4
  · rw [mtF_c (k + 1) n p q c, mtF_c]
    rcases c with c | c
    · left; rw [show ps α σ (-1) p = p from if_neg c]; exact c
    · right; rw [show ps α σ (-1) q = q from if_neg c]; exact c
  · show (if _ then _ else _) = _
    rw [if_neg c, if_neg (fun z => h ⟨by omega, by omega, z⟩)]
theorem mtF_y {α σ : Nat → Int → Int} {k : Nat} {n : Int} {p q : Dq} (h : p.2.2.2 = -4 ∧ q.2.2.2 = -4 ∧ p.1 = q.1 ∧ p.2.1 = q.2.1) : mtF α σ (k + 1) n p q = n := by
  show (if _ then _ else _) = _
  rw [if_neg (by omega), if_pos h.2.2]
theorem m_meet {l : Launch} {g : Gt} {d : Nat} {Z : Zt} {I : It} {P : Pt'} (hM : LayM Z) (hN : LayQ P) {α : Nat → Int → Int} (hV : VM I α) (hW : WF α) {σ : Nat → Int → Int} (hR : RS 0 I α σ) (hWS : WS α σ) (hca : CA α σ) (a b : Int) : Mt l g mX12_meet (d + 4) 0 0 [vA 131, vI a, vI b] Z I P (QM (fun r I' => r = mtA α σ a b ∧ TF I I') Z P) := by
  have v0 := hV.1.1
  have v1 := hV.1.2.1
  have v2 := hV.1.2.2.1
  have v3 := hV.1.2.2.2.1
  have v4 := hV.1.2.2.2.2
  have w0 := hW.1
  have w1 := hW.2.1
  have w5 := hW.2.2.1
  have w10 := hW.2.2.2.1
  have h10 : I 138 0 = σ 0 1 := hR.1
  have w7 := hWS.2.1
  have w00 := hWS.1
  refine Mt.of kmX12_meet (ls := [vA 131, vI a, vI b, vX, vX]) (fun _ => rfl) (fun _ => rfl) (okf_k (okf_k (okf_k (okf_n rfl)))) (fun hok => ?_)
  have loop : ((0 ≤ a ∧ a < σ 0 1) ∧ (0 ≤ b ∧ b < σ 0 1) ∧ a ≠ b) → ∀ (k : Nat) (n c : Int) (J : It), 0 ≤ n → n + k = 60 → (0 ≤ c ∧ c ≤ 7 * n) → TF I J → RS (42 * 11) J α (stepS α σ n) → mtA α σ a b = mtF α σ (k + 1) n (stp α σ n a) (stp α σ n b) → Ev l g mX12_meet (d + 4) 0 0 Z J P 35 [vA 131, vI a, vI b, vI n, vI c] [] (QM (fun r I' => r = mtA α σ a b ∧ TF I I') Z P) := by
    intro hg k
    induction k with
    | zero =>
      intro n c J h0 h1 hc tf hr hm
      have hK := hWS.k.st hW (n := n) (by omega)
      have hm1 : ((stp α σ n a).2.2.2 = -4 ∧ (stp α σ n b).2.2.2 = -4 ∧ (stp α σ n a).1 = (stp α σ n b).1 ∧ (stp α σ n a).2.1 = (stp α σ n b).2.1) → mtA α σ a b = n := fun z => hm.trans (mtF_y z)
      have hm2 : ¬ ((stp α σ n a).2.2.2 = -4 ∧ (stp α σ n b).2.2.2 = -4 ∧ (stp α σ n a).1 = (stp α σ n b).1 ∧ (stp α σ n a).2.1 = (stp α σ n b).2.1) → mtA α σ a b = -4 := fun z => hm.trans (mtF_s z)
      refine ev_iload_3 35 dX12_meet_35 ?_
      refine ev_bipush 36 dX12_meet_36 ⟨by decide, by decide⟩ ?_
      refine ev_icmp_ge 38 67 dX12_meet_38 rfl (fun h38 => ?_) (fun h38 => ?_)
      · refine ev_aload_0 67 dX12_meet_67 ?_
        refine ev_iload_1 68 dX12_meet_68 ?_
        refine ev_iload_2 69 dX12_meet_69 ?_
        refine ev_cVp_2 70 dX12_meet_70 kmX12_areMet lk_X12_179 (kd_131 hM) (m_areMet hM hN hr (by rw [st01]; omega) (by rw [st01]; omega) hK) rfl rfl ?_
        rw [st3, st4, st6, st3, st4, st6]
        refine ev_ifb_eq 73 85 dX12_meet_73 rfl (fun h73 => ?_) (fun h73 => ?_)
        · refine ev_bipush 85 dX12_meet_85 ⟨by decide, by decide⟩ ?_
          refine ev_iret 87 dX12_meet_87 ?_ rfl
          first
            | exact QM_of ⟨(hm1 (by assumption)).symm, tf⟩
            | exact QM_of ⟨(hm2 (by assumption)).symm, tf⟩
            | (exfalso; omega)
        · refine ev_iload_4 76 dX12_meet_76 ?_
          refine ev_if_lt 78 85 dX12_meet_78 rfl (fun h78 => ?_) (fun h78 => ?_)
          · refine ev_bipush 85 dX12_meet_85 ⟨by decide, by decide⟩ ?_
            refine ev_iret 87 dX12_meet_87 ?_ rfl
            first
              | exact QM_of ⟨(hm1 (by assumption)).symm, tf⟩
              | exact QM_of ⟨(hm2 (by assumption)).symm, tf⟩
              | (exfalso; omega)
          · refine ev_iload_3 81 dX12_meet_81 ?_
            refine ev_goto 82 87 dX12_meet_82 rfl ?_
            refine ev_iret 87 dX12_meet_87 ?_ rfl
            first
              | exact QM_of ⟨(hm1 (by assumption)).symm, tf⟩
              | exact QM_of ⟨(hm2 (by assumption)).symm, tf⟩
              | (exfalso; omega)
      · exfalso; omega
    | succ k ih =>
      intro n c J h0 h1 hc tf hr hm
      have hV := tf.vm hV
      have hK := hWS.k.st hW (n := n) (by omega)
      have hm1 : ((stp α σ n a).2.2.2 = -4 ∧ (stp α σ n b).2.2.2 = -4 ∧ (stp α σ n a).1 = (stp α σ n b).1 ∧ (stp α σ n a).2.1 = (stp α σ n b).2.1) → mtA α σ a b = n := fun z => hm.trans (mtF_y z)
      have hm2 : ¬ ((stp α σ n a).2.2.2 = -4 ∧ (stp α σ n b).2.2.2 = -4 ∧ (stp α σ n a).1 = (stp α σ n b).1 ∧ (stp α σ n a).2.1 = (stp α σ n b).2.1) → mtA α σ a b = mtF α σ (k + 1) (n + 1) (stp α σ (n + 1) a) (stp α σ (n + 1) b) := fun z => by rw [stp_s α σ h0, stp_s α σ h0]; exact hm.trans (mtF_s z)
      refine ev_iload_3 35 dX12_meet_35 ?_
      refine ev_bipush 36 dX12_meet_36 ⟨by decide, by decide⟩ ?_
      refine ev_icmp_ge 38 67 dX12_meet_38 rfl (fun h38 => ?_) (fun h38 => ?_)
      · refine ev_aload_0 67 dX12_meet_67 ?_
        refine ev_iload_1 68 dX12_meet_68 ?_
        refine ev_iload_2 69 dX12_meet_69 ?_
        refine ev_cVp_2 70 dX12_meet_70 kmX12_areMet lk_X12_179 (kd_131 hM) (m_areMet hM hN hr (by rw [st01]; omega) (by rw [st01]; omega) hK) rfl rfl ?_
        rw [st3, st4, st6, st3, st4, st6]
        refine ev_ifb_eq 73 85 dX12_meet_73 rfl (fun h73 => ?_) (fun h73 => ?_)
        · refine ev_bipush 85 dX12_meet_85 ⟨by decide, by decide⟩ ?_
          refine ev_iret 87 dX12_meet_87 ?_ rfl
          first
            | exact QM_of ⟨(hm1 (by assumption)).symm, tf⟩
            | (exfalso; omega)
            | (exfalso; exact absurd (by assumption) (by assumption))
        · refine ev_iload_4 76 dX12_meet_76 ?_
          refine ev_if_lt 78 85 dX12_meet_78 rfl (fun h78 => ?_) (fun h78 => ?_)
          · refine ev_bipush 85 dX12_meet_85 ⟨by decide, by decide⟩ ?_
            refine ev_iret 87 dX12_meet_87 ?_ rfl
            first
              | exact QM_of ⟨(hm1 (by assumption)).symm, tf⟩
              | (exfalso; omega)
              | (exfalso; exact absurd (by assumption) (by assumption))
          · refine ev_iload_3 81 dX12_meet_81 ?_
            refine ev_goto 82 87 dX12_meet_82 rfl ?_
            refine ev_iret 87 dX12_meet_87 ?_ rfl
            first
              | exact QM_of ⟨(hm1 (by assumption)).symm, tf⟩
              | (exfalso; omega)
              | (exfalso; exact absurd (by assumption) (by assumption))
      · refine ev_aload_0 41 dX12_meet_41 ?_
        refine ev_iload_1 42 dX12_meet_42 ?_
        refine ev_iload_2 43 dX12_meet_43 ?_
        refine ev_cVp_2 44 dX12_meet_44 kmX12_areMet lk_X12_179 (kd_131 hM) (m_areMet hM hN hr (by rw [st01]; omega) (by rw [st01]; omega) hK) rfl rfl ?_
        rw [st3, st4, st6, st3, st4, st6]
        refine ev_ifb_ne 47 67 dX12_meet_47 rfl (fun h47 => ?_) (fun h47 => ?_)
        · refine ev_aload_0 67 dX12_meet_67 ?_
          refine ev_iload_1 68 dX12_meet_68 ?_
          refine ev_iload_2 69 dX12_meet_69 ?_
          refine ev_cVp_2 70 dX12_meet_70 kmX12_areMet lk_X12_179 (kd_131 hM) (m_areMet hM hN hr (by rw [st01]; omega) (by rw [st01]; omega) hK) rfl rfl ?_
          rw [st3, st4, st6, st3, st4, st6]
          refine ev_ifb_eq 73 85 dX12_meet_73 rfl (fun h73 => ?_) (fun h73 => ?_)
          · refine ev_bipush 85 dX12_meet_85 ⟨by decide, by decide⟩ ?_
            refine ev_iret 87 dX12_meet_87 ?_ rfl
            first
              | exact QM_of ⟨(hm1 (by assumption)).symm, tf⟩
              | (exfalso; omega)
              | (exfalso; exact absurd (by assumption) (by assumption))
          · refine ev_iload_4 76 dX12_meet_76 ?_
            refine ev_if_lt 78 85 dX12_meet_78 rfl (fun h78 => ?_) (fun h78 => ?_)
            · refine ev_bipush 85 dX12_meet_85 ⟨by decide, by decide⟩ ?_
              refine ev_iret 87 dX12_meet_87 ?_ rfl
              first
                | exact QM_of ⟨(hm1 (by assumption)).symm, tf⟩
                | (exfalso; omega)
                | (exfalso; exact absurd (by assumption) (by assumption))
            · refine ev_iload_3 81 dX12_meet_81 ?_
              refine ev_goto 82 87 dX12_meet_82 rfl ?_
              refine ev_iret 87 dX12_meet_87 ?_ rfl
              first
                | exact QM_of ⟨(hm1 (by assumption)).symm, tf⟩
                | (exfalso; omega)
                | (exfalso; exact absurd (by assumption) (by assumption))
        · refine ev_iload_4 50 dX12_meet_50 ?_
          refine ev_aload_0 52 dX12_meet_52 ?_
          refine ev_bipush 53 dX12_meet_53 ⟨by decide, by decide⟩ ?_
          refine ev_cVm_1 55 dX12_meet_55 kmX12_step lk_X12_162 (kd_131 hM) (m_step hM hN hV hW (by omega) hK hr) rfl rfl (fun x55 I55 f55 => ?_)
          obtain ⟨g1, g2, g3⟩ := f55
          refine ev_iadd 58 dX12_meet_58 ⟨by omega, by omega⟩ ?_
          refine ev_istore_4 59 dX12_meet_59 rfl rfl ?_
          refine ev_iinc_3 61 dX12_meet_61 ⟨by omega, by omega⟩ rfl rfl ?_
          refine ev_goto 64 35 dX12_meet_64 rfl ?_
          refine ih (n + 1) _ _ (by omega) (by omega) (by omega) (tf.tr g3.tf) ?_ (hm2 (by assumption))
          rw [stepS_s α σ h0] at g2
          exact g2
  refine ev_aload_0 0 dX12_meet_0 ?_
  refine ev_iload_1 1 dX12_meet_1 ?_
  refine ev_cVp_1 2 dX12_meet_2 kmX12_isThing lk_X12_136 (kd_131 hM) (m_isThing hM hN hV hW (by omega) _) rfl rfl ?_
  try simp only [h10]
  refine ev_ifb_eq 5 21 dX12_meet_5 rfl (fun h5 => ?_) (fun h5 => ?_)
  · refine ev_iconst 21 dX12_meet_21 ⟨by decide, by decide⟩ ?_
    refine ev_iret 22 dX12_meet_22 ?_ rfl
    exact QM_of ⟨(if_neg (by omega)).symm, TF.rf⟩
  · refine ev_aload_0 8 dX12_meet_8 ?_
    refine ev_iload_2 9 dX12_meet_9 ?_
    refine ev_cVp_1 10 dX12_meet_10 kmX12_isThing lk_X12_136 (kd_131 hM) (m_isThing hM hN hV hW (by omega) _) rfl rfl ?_
    try simp only [h10]
    refine ev_ifb_eq 13 21 dX12_meet_13 rfl (fun h13 => ?_) (fun h13 => ?_)
    · refine ev_iconst 21 dX12_meet_21 ⟨by decide, by decide⟩ ?_
      refine ev_iret 22 dX12_meet_22 ?_ rfl
      exact QM_of ⟨(if_neg (by omega)).symm, TF.rf⟩
    · refine ev_iload_1 16 dX12_meet_16 ?_
      refine ev_iload_2 17 dX12_meet_17 ?_
      refine ev_jne 18 23 dX12_meet_18 rfl (fun h18 => ?_) (fun h18 => ?_)
      · refine ev_aload_0 23 dX12_meet_23 ?_
        refine ev_iconst 24 dX12_meet_24 ⟨by decide, by decide⟩ ?_
        refine ev_bipush 25 dX12_meet_25 ⟨by decide, by decide⟩ ?_
        refine ev_cVv_2 27 dX12_meet_27 kmX12_copies lk_X12_145 (kd_131 hM) (m_copies hM hN (by omega) (by omega) (by omega)) rfl rfl (fun I27 f27 => ?_)
        have tf27 : TF I I27 := by rw [f27]; exact TF.cp
        have r27 : RS (42 * 11) I27 α (stepS α σ 0) := by rw [f27, stepS_0]; exact hR.mv hW (by omega) (fun i a c => by rw [cpN_i ⟨a, c⟩, show 42 * 0 + i = 0 + i by omega])
        refine ev_iconst 30 dX12_meet_30 ⟨by decide, by decide⟩ ?_
        refine ev_istore_3 31 dX12_meet_31 rfl rfl ?_
        refine ev_iconst 32 dX12_meet_32 ⟨by decide, by decide⟩ ?_
        refine ev_istore_4 33 dX12_meet_33 rfl rfl ?_
        exact loop (by omega) 60 0 0 _ (by omega) (by omega) (by omega) tf27 r27 (if_pos (by omega))
      · refine ev_iconst 21 dX12_meet_21 ⟨by decide, by decide⟩ ?_
        refine ev_iret 22 dX12_meet_22 ?_ rfl
        exact QM_of ⟨(if_neg (by omega)).symm, TF.rf⟩
theorem m_round {l : Launch} {g : Gt} {d : Nat} {Z : Zt} {I : It} {P : Pt'} (hM : LayM Z) (hN : LayQ P) {α : Nat → Int → Int} (hV : VM I α) (hW : WF α) {σ : Nat → Int → Int} (hR : RS 0 I α σ) (hWS : WS α σ) (hca : CA α σ) (t : Int) : Mt l g mX12_round (d + 2) 0 0 [vA 131, vI t] Z I P (QM (fun r I' => r = rnA α σ t ∧ TF I I') Z P) := by
  have v0 := hV.1.1
  have v1 := hV.1.2.1
  have v2 := hV.1.2.2.1
  have v3 := hV.1.2.2.2.1
  have v4 := hV.1.2.2.2.2
  have w0 := hW.1
  have w1 := hW.2.1
  have w5 := hW.2.2.1
  have w10 := hW.2.2.2.1
  have h10 : I 138 0 = σ 0 1 := hR.1
  have w7 := hWS.2.1
  refine Mt.of kmX12_round (ls := [vA 131, vI t, vX, vX, vX, vX]) (fun _ => rfl) (fun _ => rfl) (okf_k (okf_k (okf_n rfl))) (fun hok => ?_)
  have loop2 : (0 ≤ t ∧ t < σ 0 1) → ∀ (k : Nat) (n : Int) (J : It) (q : Dq), 1 ≤ n → n + k = 201 → TF I J → inD α q → J 138 (42 * 11 + 1 + t) = q.1 → J 138 (42 * 11 + 8 + t) = q.2.1 → J 138 (42 * 11 + 15 + t) = q.2.2.1 → rnA α σ t = rnF α (flN α 200 (σ 3 t, σ 4 t, σ 5 t, σ 6 t)).1 (flN α 200 (σ 3 t, σ 4 t, σ 5 t, σ 6 t)).2.1 k n q → Ev l g mX12_round (d + 2) 0 0 Z J P 88 [vA 131, vI t, vI 462, vI (flN α 200 (σ 3 t, σ 4 t, σ 5 t, σ 6 t)).1, vI (flN α 200 (σ 3 t, σ 4 t, σ 5 t, σ 6 t)).2.1, vI n] [] (QM (fun r I' => r = rnA α σ t ∧ TF I I') Z P) := by
    intro hg k
    induction k with
    | zero =>
      intro n J q h0 h1 tf hi i1 i2 i3 hr
      refine ev_iload_5 88 dX12_round_88 ?_
      refine ev_sipush 90 dX12_round_90 ⟨by decide, by decide⟩ ?_
      refine ev_icmp_gt 93 142 dX12_round_93 rfl (fun h93 => ?_) (fun h93 => ?_)
      · refine ev_bipush 142 dX12_round_142 ⟨by decide, by decide⟩ ?_
        refine ev_iret 144 dX12_round_144 ?_ rfl
        exact QM_of ⟨hr.symm, tf⟩
      · exfalso; omega
    | succ k ih =>
      intro n J q h0 h1 tf hi i1 i2 i3 hr
      refine ev_iload_5 88 dX12_round_88 ?_
      refine ev_sipush 90 dX12_round_90 ⟨by decide, by decide⟩ ?_
      refine ev_icmp_gt 93 142 dX12_round_93 rfl (fun h93 => ?_) (fun h93 => ?_)
      · exfalso; omega
      · refine ev_aload_0 96 dX12_round_96 ?_
        refine ev_bipush 97 dX12_round_97 ⟨by decide, by decide⟩ ?_
        refine ev_iload_1 99 dX12_round_99 ?_
        refine ev_cVv_2 100 dX12_round_100 kmX12_drifts lk_X12_149 (kd_131 hM) (m_drifts hM hN (tf.vm hV) hW (by omega) (by omega) i1 i2 i3 hi.1 hi.2.1) rfl rfl (fun I100 f100 => ?_)
        have tf2 : TF I I100 := by rw [f100]; exact tf.dr (by omega)
        have k1 : I100 138 (42 * 11 + 1 + t) = (flq α q).1 := by rw [f100]; exact drI_l rfl
        have k2 : I100 138 (42 * 11 + 8 + t) = (flq α q).2.1 := by rw [f100]; exact drI_x rfl
        have k3 : I100 138 (42 * 11 + 15 + t) = (flq α q).2.2.1 := by rw [f100, drI_o (by omega) (by omega)]; exact i3
        have k4 : I100 138 (462 + 1 + t) = (flq α q).1 := by rw [show (462 + 1 + t : Int) = 42 * 11 + 1 + t by omega]; exact k1
        have k5 : I100 138 (462 + 8 + t) = (flq α q).2.1 := by rw [show (462 + 8 + t : Int) = 42 * 11 + 8 + t by omega]; exact k2
        refine ev_aload_0 103 dX12_round_103 ?_
        refine ev_getA 104 8 dX12_round_104 fa_X12_29 (kd_131 hM) (pr_131_8 hN) rfl ?_
        refine ev_iload_2 107 dX12_round_107 ?_
        refine ev_iconst 108 dX12_round_108 ⟨by decide, by decide⟩ ?_
        refine ev_iadd 109 dX12_round_109 ⟨by omega, by omega⟩ ?_
        refine ev_iload_1 110 dX12_round_110 ?_
        refine ev_iadd 111 dX12_round_111 ⟨by omega, by omega⟩ ?_
        refine ev_iald 112 dX12_round_112 (kd_138 hM) ⟨by omega, by have := (ln_138 hM); omega⟩ ?_
        try simp only [k4, k5]
        refine ev_iload_3 113 dX12_round_113 ?_
        refine ev_jne 114 136 dX12_round_114 rfl (fun h114 => ?_) (fun h114 => ?_)
        · refine ev_iinc_5 136 dX12_round_136 ⟨by omega, by omega⟩ rfl rfl ?_
          refine ev_goto 139 88 dX12_round_139 rfl ?_
          exact ih (n + 1) _ (flq α q) (by omega) (by omega) tf2 (flq_in hW hi) k1 k2 k3 (hr.trans (if_neg (by omega)))
        · refine ev_aload_0 117 dX12_round_117 ?_
          refine ev_getA 118 8 dX12_round_118 fa_X12_29 (kd_131 hM) (pr_131_8 hN) rfl ?_
          refine ev_iload_2 121 dX12_round_121 ?_
          refine ev_bipush 122 dX12_round_122 ⟨by decide, by decide⟩ ?_
          refine ev_iadd 124 dX12_round_124 ⟨by omega, by omega⟩ ?_
          refine ev_iload_1 125 dX12_round_125 ?_
          refine ev_iadd 126 dX12_round_126 ⟨by omega, by omega⟩ ?_
          refine ev_iald 127 dX12_round_127 (kd_138 hM) ⟨by omega, by have := (ln_138 hM); omega⟩ ?_
          try simp only [k4, k5]
          refine ev_iload_4 128 dX12_round_128 ?_
          refine ev_jne 130 136 dX12_round_130 rfl (fun h130 => ?_) (fun h130 => ?_)
          · refine ev_iinc_5 136 dX12_round_136 ⟨by omega, by omega⟩ rfl rfl ?_
            refine ev_goto 139 88 dX12_round_139 rfl ?_
            exact ih (n + 1) _ (flq α q) (by omega) (by omega) tf2 (flq_in hW hi) k1 k2 k3 (hr.trans (if_neg (by omega)))
          · refine ev_iload_5 133 dX12_round_133 ?_
            refine ev_iret 135 dX12_round_135 ?_ rfl
            exact QM_of ⟨(hr.trans (if_pos (by omega))).symm, tf2⟩
  have loop1 : (0 ≤ t ∧ t < σ 0 1) → ∀ (k : Nat) (n : Int) (J : It) (q : Dq) (vx vy : Vv), 0 ≤ n → n + k = 200 → TF I J → inD α q → J 138 (42 * 11 + 1 + t) = q.1 → J 138 (42 * 11 + 8 + t) = q.2.1 → J 138 (42 * 11 + 15 + t) = q.2.2.1 → (flN α 200 (σ 3 t, σ 4 t, σ 5 t, σ 6 t)) = flN α k q → Ev l g mX12_round (d + 2) 0 0 Z J P 41 [vA 131, vI t, vI 462, vI n, vx, vy] [] (QM (fun r I' => r = rnA α σ t ∧ TF I I') Z P) := by
    intro hg k
    induction k with
    | zero =>
      intro n J q vx vy h0 h1 tf hi i1 i2 i3 hr
      have k4 : J 138 (462 + 1 + t) = q.1 := by rw [show (462 + 1 + t : Int) = 42 * 11 + 1 + t by omega]; exact i1
      have k5 : J 138 (462 + 8 + t) = q.2.1 := by rw [show (462 + 8 + t : Int) = 42 * 11 + 8 + t by omega]; exact i2
      refine ev_iload_3 41 dX12_round_41 ?_
      refine ev_sipush 42 dX12_round_42 ⟨by decide, by decide⟩ ?_
      refine ev_icmp_ge 45 61 dX12_round_45 rfl (fun h45 => ?_) (fun h45 => ?_)
      · refine ev_aload_0 61 dX12_round_61 ?_
        refine ev_getA 62 8 dX12_round_62 fa_X12_29 (kd_131 hM) (pr_131_8 hN) rfl ?_
        refine ev_iload_2 65 dX12_round_65 ?_
        refine ev_iconst 66 dX12_round_66 ⟨by decide, by decide⟩ ?_
        refine ev_iadd 67 dX12_round_67 ⟨by omega, by omega⟩ ?_
        refine ev_iload_1 68 dX12_round_68 ?_
        refine ev_iadd 69 dX12_round_69 ⟨by omega, by omega⟩ ?_
        refine ev_iald 70 dX12_round_70 (kd_138 hM) ⟨by omega, by have := (ln_138 hM); omega⟩ ?_
        try simp only [k4, k5]
        refine ev_istore_3 71 dX12_round_71 rfl rfl ?_
        refine ev_aload_0 72 dX12_round_72 ?_
        refine ev_getA 73 8 dX12_round_73 fa_X12_29 (kd_131 hM) (pr_131_8 hN) rfl ?_
        refine ev_iload_2 76 dX12_round_76 ?_
        refine ev_bipush 77 dX12_round_77 ⟨by decide, by decide⟩ ?_
        refine ev_iadd 79 dX12_round_79 ⟨by omega, by omega⟩ ?_
        refine ev_iload_1 80 dX12_round_80 ?_
        refine ev_iadd 81 dX12_round_81 ⟨by omega, by omega⟩ ?_
        refine ev_iald 82 dX12_round_82 (kd_138 hM) ⟨by omega, by have := (ln_138 hM); omega⟩ ?_
        try simp only [k4, k5]
        refine ev_istore_4 83 dX12_round_83 rfl rfl ?_
        refine ev_iconst 85 dX12_round_85 ⟨by decide, by decide⟩ ?_
        refine ev_istore_5 86 dX12_round_86 rfl rfl ?_
        have hr' : (flN α 200 (σ 3 t, σ 4 t, σ 5 t, σ 6 t)) = q := hr
        have := loop2 hg 200 1 J q (by omega) (by omega) tf hi i1 i2 i3 (by unfold rnA; rw [if_pos hg, hr'])
        rw [hr'] at this
        exact this
      · exfalso; omega
    | succ k ih =>
      intro n J q vx vy h0 h1 tf hi i1 i2 i3 hr
      refine ev_iload_3 41 dX12_round_41 ?_
      refine ev_sipush 42 dX12_round_42 ⟨by decide, by decide⟩ ?_
      refine ev_icmp_ge 45 61 dX12_round_45 rfl (fun h45 => ?_) (fun h45 => ?_)
      · exfalso; omega
      · refine ev_aload_0 48 dX12_round_48 ?_
        refine ev_bipush 49 dX12_round_49 ⟨by decide, by decide⟩ ?_
        refine ev_iload_1 51 dX12_round_51 ?_
        refine ev_cVv_2 52 dX12_round_52 kmX12_drifts lk_X12_149 (kd_131 hM) (m_drifts hM hN (tf.vm hV) hW (by omega) (by omega) i1 i2 i3 hi.1 hi.2.1) rfl rfl (fun I52 f52 => ?_)
        have tf2 : TF I I52 := by rw [f52]; exact tf.dr (by omega)
        have k1 : I52 138 (42 * 11 + 1 + t) = (flq α q).1 := by rw [f52]; exact drI_l rfl
        have k2 : I52 138 (42 * 11 + 8 + t) = (flq α q).2.1 := by rw [f52]; exact drI_x rfl
        have k3 : I52 138 (42 * 11 + 15 + t) = (flq α q).2.2.1 := by rw [f52, drI_o (by omega) (by omega)]; exact i3
        have k4 : I52 138 (462 + 1 + t) = (flq α q).1 := by rw [show (462 + 1 + t : Int) = 42 * 11 + 1 + t by omega]; exact k1
        have k5 : I52 138 (462 + 8 + t) = (flq α q).2.1 := by rw [show (462 + 8 + t : Int) = 42 * 11 + 8 + t by omega]; exact k2
        refine ev_iinc_3 55 dX12_round_55 ⟨by omega, by omega⟩ rfl rfl ?_
        refine ev_goto 58 41 dX12_round_58 rfl ?_
        exact ih (n + 1) _ (flq α q) _ _ (by omega) (by omega) tf2 (flq_in hW hi) k1 k2 k3 hr
  refine ev_aload_0 0 dX12_round_0 ?_
  refine ev_iload_1 1 dX12_round_1 ?_
  refine ev_cVp_1 2 dX12_round_2 kmX12_isThing lk_X12_136 (kd_131 hM) (m_isThing hM hN hV hW (by omega) _) rfl rfl ?_
  try simp only [h10]
  refine ev_ifb_ne 5 10 dX12_round_5 rfl (fun h5 => ?_) (fun h5 => ?_)
  · refine ev_aload_0 10 dX12_round_10 ?_
    refine ev_iconst 11 dX12_round_11 ⟨by decide, by decide⟩ ?_
    refine ev_bipush 12 dX12_round_12 ⟨by decide, by decide⟩ ?_
    refine ev_cVv_2 14 dX12_round_14 kmX12_copies lk_X12_145 (kd_131 hM) (m_copies hM hN (by omega) (by omega) (by omega)) rfl rfl (fun I14 f14 => ?_)
    have tf14 : TF I I14 := by rw [f14]; exact TF.cp
    have r14 : RS (42 * 11) I14 α (stepS α σ 0) := by rw [f14, stepS_0]; exact hR.mv hW (by omega) (fun i a c => by rw [cpN_i ⟨a, c⟩, show 42 * 0 + i = 0 + i by omega])
    have rz14 : RS (42 * 0) I14 α σ := (tf14.rs (by omega) hW (by omega) hR).z
    refine ev_sipush 17 dX12_round_17 ⟨by decide, by decide⟩ ?_
    refine ev_istore_2 20 dX12_round_20 rfl rfl ?_
    refine ev_aload_0 21 dX12_round_21 ?_
    refine ev_getA 22 8 dX12_round_22 fa_X12_29 (kd_131 hM) (pr_131_8 hN) rfl ?_
    refine ev_iload_2 25 dX12_round_25 ?_
    refine ev_bipush 26 dX12_round_26 ⟨by decide, by decide⟩ ?_
    refine ev_iadd 28 dX12_round_28 ⟨by omega, by omega⟩ ?_
    refine ev_iload_1 29 dX12_round_29 ?_
    refine ev_iadd 30 dX12_round_30 ⟨by omega, by omega⟩ ?_
    refine ev_aload_0 31 dX12_round_31 ?_
    refine ev_iconst 32 dX12_round_32 ⟨by decide, by decide⟩ ?_
    refine ev_iload_1 33 dX12_round_33 ?_
    refine ev_iconst 34 dX12_round_34 ⟨by decide, by decide⟩ ?_
    refine ev_cVp_3 35 dX12_round_35 kmX12_tells lk_X12_141 (kd_131 hM) (m_tells hM hN (tf14.vm hV) hW (by omega) rz14 (by omega) hca) rfl rfl ?_
    try simp only [h10]
    refine ev_iast 38 dX12_round_38 (kd_138 hM) ⟨by omega, by have := (ln_138 hM); omega⟩ ?_
    refine ev_iconst 39 dX12_round_39 ⟨by decide, by decide⟩ ?_
    refine ev_istore_3 40 dX12_round_40 rfl rfl ?_
    have hg : 0 ≤ t ∧ t < σ 0 1 := by omega
    obtain ⟨y1, y2, y3, y4⟩ := r14.2.2.2 t hg.1 (by rw [st01]; exact hg.2)
    rw [stepS_0] at y1 y2
    refine loop1 hg 200 0 _ (σ 3 t, σ 4 t, σ 5 t, σ 6 t) _ _ (by omega) (by omega) (tf14.up (by omega)) (hWS.2.2.2.2 t hg.1 hg.2).1 ?_ ?_ ?_ rfl
    · rw [upI_k (by omega)]; exact y1
    · rw [show (462 + 8 + t : Int) = 42 * 11 + 8 + t by omega, upI_s]; rfl
    · rw [upI_k (by omega)]; exact y2
  · refine ev_iconst 8 dX12_round_8 ⟨by decide, by decide⟩ ?_
    refine ev_iret 9 dX12_round_9 ?_ rfl
    exact QM_of ⟨(if_neg (by omega)).symm, TF.rf⟩
