/-! the reference: items of the text -/
theorem let_c (tx : Int → Int) (n p : Int) (h : 0 ≤ p) : (p < n ∧ letF tx n p = tx p) ∨ (n ≤ p ∧ letF tx n p = -4) := by
  unfold letF
  by_cases z : p < n
  · exact Or.inl ⟨z, if_pos ⟨h, z⟩⟩
  · exact Or.inr ⟨by omega, if_neg (fun y => z y.2)⟩
theorem fig_s (tx : Int → Int) (n : Int) (k : Nat) (p : Int) : ((48 ≤ letF tx n p ∧ letF tx n p ≤ 57) ∧ figF tx n (k + 1) p = figF tx n k (p + 1) + 1) ∨ (¬ (48 ≤ letF tx n p ∧ letF tx n p ≤ 57) ∧ figF tx n (k + 1) p = 0) := by
  by_cases z : 48 ≤ letF tx n p ∧ letF tx n p ≤ 57
  · exact Or.inl ⟨z, if_pos z⟩
  · exact Or.inr ⟨z, if_neg z⟩
def GI (I I' : It) : Prop := (∀ j, j < 6 → I' 133 j = I 133 j) ∧ (∀ j, j < 24 → I' 134 j = I 134 j) ∧ (∀ j, j < 24 → I' 135 j = I 135 j) ∧ (∀ j, j < 16 → I' 136 j = I 136 j) ∧ (∀ j, j < 15 → I' 137 j = I 137 j) ∧ (∀ j, j ≠ 2 → I' 131 j = I 131 j) ∧ ∀ a, a ≠ 131 → a ≠ 133 → a ≠ 134 → a ≠ 135 → a ≠ 136 → a ≠ 137 → a ≠ 144 → I' a = I a
theorem GI.rf {I : It} : GI I I := ⟨fun _ _ => rfl, fun _ _ => rfl, fun _ _ => rfl, fun _ _ => rfl, fun _ _ => rfl, fun _ _ => rfl, fun _ _ _ _ _ _ _ _ => rfl⟩
theorem GI.tr {I J K : It} (h : GI I J) (k : GI J K) : GI I K := ⟨fun j a => (k.1 j a).trans (h.1 j a), fun j a => (k.2.1 j a).trans (h.2.1 j a), fun j a => (k.2.2.1 j a).trans (h.2.2.1 j a), fun j a => (k.2.2.2.1 j a).trans (h.2.2.2.1 j a), fun j a => (k.2.2.2.2.1 j a).trans (h.2.2.2.2.1 j a), fun j a => (k.2.2.2.2.2.1 j a).trans (h.2.2.2.2.2.1 j a), fun a a0 a1 a2 a3 a4 a5 a6 => (k.2.2.2.2.2.2 a a0 a1 a2 a3 a4 a5 a6).trans (h.2.2.2.2.2.2 a a0 a1 a2 a3 a4 a5 a6)⟩
theorem GF.gi {I J : It} (h : GF I J) : GI I J := ⟨h.1, h.2.1, h.2.2.1, h.2.2.2.1, h.2.2.2.2.1, fun j _ => by rw [h.2.2.2.2.2 131 (by omega) (by omega) (by omega) (by omega) (by omega)], fun a _ a1 a2 a3 a4 a5 _ => h.2.2.2.2.2 a a1 a2 a3 a4 a5⟩
theorem GI.up2 {I J : It} {x : Int} (h : GI I J) : GI I (upI J 131 2 x) := h.tr ⟨fun j a => by rw [upI_A (by omega)], fun j a => by rw [upI_A (by omega)], fun j a => by rw [upI_A (by omega)], fun j a => by rw [upI_A (by omega)], fun j a => by rw [upI_A (by omega)], fun j a => upI_k a, fun a a0 _ _ _ _ _ _ => upI_A a0⟩
theorem GI.up144 {I J : It} {k x : Int} (h : GI I J) : GI I (upI J 144 k x) := h.tr ⟨fun j a => by rw [upI_A (by omega)], fun j a => by rw [upI_A (by omega)], fun j a => by rw [upI_A (by omega)], fun j a => by rw [upI_A (by omega)], fun j a => by rw [upI_A (by omega)], fun j a => by rw [upI_A (by omega)], fun a _ _ _ _ _ _ a6 => upI_A a6⟩
theorem upI_up {I : It} {a : Nat} {k x y : Int} : upI (upI I a k x) a k y = upI I a k y := by
  funext c j; unfold upI; by_cases z : c = a ∧ j = k
  · rw [if_pos z, if_pos z]
  · rw [if_neg z, if_neg z, if_neg z]
theorem m_number {l : Launch} {g : Gt} {d : Nat} {Z : Zt} {I : It} {P : Pt'} (hM : LayM Z) (hN : LayQ P) {tx : Int → Int} {n : Int} (hx : I 132 = tx) (hn : I 131 0 = n) (hlen : 0 ≤ n ∧ n ≤ 200) (hL : Ltr tx n) {p : Int} (hp : I 131 2 = p) (h1 : 1 ≤ p ∧ p ≤ 2000) : Mt l g mX12_number (d + 1) 0 0 [vA 131] Z I P (QM (fun r I' => r = (if 1 ≤ (figF tx n 200 p) ∧ (figF tx n 200 p) ≤ 2 then numF tx n p (figF tx n 200 p) else -1) ∧ I' = upI I 131 2 (p + (figF tx n 200 p))) Z P) := by
  refine Mt.of kmX12_number (ls := [vA 131, vX, vX]) (fun _ => rfl) (fun _ => rfl) (okf_k (okf_n rfl)) (fun hok => ?_)
  have loop : ∀ (k : Nat) (i v : Int), 0 ≤ i → i + k = 200 → (figF tx n 200 p) = i + figF tx n k (p + i) → ((i = 0 ∧ v = 0) ∨ (i = 1 ∧ v = letF tx n p - 48 ∧ 0 ≤ v ∧ v ≤ 9) ∨ (2 ≤ i ∧ v = (letF tx n p - 48) * 10 + letF tx n (p + 1) - 48 ∧ 0 ≤ v ∧ v ≤ 99)) → Ev l g mX12_number (d + 1) 0 0 Z (upI I 131 2 (p + i)) P 4 [vA 131, vI v, vI i] [] (QM (fun r I' => r = (if 1 ≤ (figF tx n 200 p) ∧ (figF tx n 200 p) ≤ 2 then numF tx n p (figF tx n 200 p) else -1) ∧ I' = upI I 131 2 (p + (figF tx n 200 p))) Z P) := by
    intro k
    induction k with
    | zero =>
      intro i v h0 h1 hf hv
      have lc := let_c tx n (p + i) (by omega)
      have f0 : figF tx n 0 (p + i) = 0 := rfl
      refine ev_aload_0 4 dX12_number_4 ?_
      refine ev_gI 5 2 2 dX12_number_5 fa_X12_70 (kd_131 hM) rfl rfl rfl ?_
      try simp (disch := omega) only [upI_s, upI_a, upI_k]
      try simp only [hx, hn]
      refine ev_aload_0 8 dX12_number_8 ?_
      refine ev_gI 9 0 0 dX12_number_9 fa_X12_66 (kd_131 hM) rfl rfl rfl ?_
      try simp (disch := omega) only [upI_s, upI_a, upI_k]
      try simp only [hx, hn]
      refine ev_icmp_ge 12 80 dX12_number_12 rfl (fun h12 => ?_) (fun h12 => ?_)
      · refine ev_iload_2 80 dX12_number_80 ?_
        refine ev_i2l 81 dX12_number_81 ?_
        refine ev_lconst1 82 dX12_number_82 ?_
        refine ev_ldc2 83 dX12_number_83 kl_X12_77 ⟨by decide, by decide⟩ ?_
        refine ev_cSp_3 86 dX12_number_86 kmX12_in lk_X12_62 (m_in _ _ _) rfl rfl ?_
        try simp (disch := omega) only [upI_s, upI_a, upI_k]
        try simp only [hx, hn]
        refine ev_ifb_eq 89 96 dX12_number_89 rfl (fun h89 => ?_) (fun h89 => ?_)
        · refine ev_iconst 96 dX12_number_96 ⟨by decide, by decide⟩ ?_
          refine ev_iret 97 dX12_number_97 ?_ rfl
          have ef : figF tx n 200 p = i := by omega
          refine QM_of ⟨?_, by rw [ef]⟩
          rw [ef]
          unfold numF
          (repeat' split) <;> omega
        · refine ev_iload_1 92 dX12_number_92 ?_
          refine ev_goto 93 97 dX12_number_93 rfl ?_
          refine ev_iret 97 dX12_number_97 ?_ rfl
          have ef : figF tx n 200 p = i := by omega
          refine QM_of ⟨?_, by rw [ef]⟩
          rw [ef]
          unfold numF
          (repeat' split) <;> omega
      · exfalso; omega
    | succ k ih =>
      intro i v h0 h1 hf hv
      have lc := let_c tx n (p + i) (by omega)
      have fs := fig_s tx n k (p + i)
      have fr := fig_r tx n k (p + i + 1)
      have e0 : i = 0 → letF tx n (p + i) = letF tx n p := fun z => by rw [z, show p + 0 = p by omega]
      have e1 : i = 1 → letF tx n (p + i) = letF tx n (p + 1) := fun z => by rw [z]
      refine ev_aload_0 4 dX12_number_4 ?_
      refine ev_gI 5 2 2 dX12_number_5 fa_X12_70 (kd_131 hM) rfl rfl rfl ?_
      try simp (disch := omega) only [upI_s, upI_a, upI_k]
      try simp only [hx, hn]
      refine ev_aload_0 8 dX12_number_8 ?_
      refine ev_gI 9 0 0 dX12_number_9 fa_X12_66 (kd_131 hM) rfl rfl rfl ?_
      try simp (disch := omega) only [upI_s, upI_a, upI_k]
      try simp only [hx, hn]
      refine ev_icmp_ge 12 80 dX12_number_12 rfl (fun h12 => ?_) (fun h12 => ?_)
      · refine ev_iload_2 80 dX12_number_80 ?_
        refine ev_i2l 81 dX12_number_81 ?_
        refine ev_lconst1 82 dX12_number_82 ?_
        refine ev_ldc2 83 dX12_number_83 kl_X12_77 ⟨by decide, by decide⟩ ?_
        refine ev_cSp_3 86 dX12_number_86 kmX12_in lk_X12_62 (m_in _ _ _) rfl rfl ?_
        try simp (disch := omega) only [upI_s, upI_a, upI_k]
        try simp only [hx, hn]
        refine ev_ifb_eq 89 96 dX12_number_89 rfl (fun h89 => ?_) (fun h89 => ?_)
        · refine ev_iconst 96 dX12_number_96 ⟨by decide, by decide⟩ ?_
          refine ev_iret 97 dX12_number_97 ?_ rfl
          have ef : figF tx n 200 p = i := by omega
          refine QM_of ⟨?_, by rw [ef]⟩
          rw [ef]
          unfold numF
          (repeat' split) <;> omega
        · refine ev_iload_1 92 dX12_number_92 ?_
          refine ev_goto 93 97 dX12_number_93 rfl ?_
          refine ev_iret 97 dX12_number_97 ?_ rfl
          have ef : figF tx n 200 p = i := by omega
          refine QM_of ⟨?_, by rw [ef]⟩
          rw [ef]
          unfold numF
          (repeat' split) <;> omega
      · refine ev_aload_0 15 dX12_number_15 ?_
        refine ev_getA 16 1 dX12_number_16 fa_X12_7 (kd_131 hM) (pr_131_1 hN) rfl ?_
        refine ev_aload_0 19 dX12_number_19 ?_
        refine ev_gI 20 2 2 dX12_number_20 fa_X12_70 (kd_131 hM) rfl rfl rfl ?_
        try simp (disch := omega) only [upI_s, upI_a, upI_k]
        try simp only [hx, hn]
        refine ev_bald 23 dX12_number_23 (kd_132 hM) ⟨by omega, by have := (ln_132 hM); omega⟩ ?_
        try simp (disch := omega) only [upI_s, upI_a, upI_k]
        try simp only [hx, hn]
        refine ev_i2l 24 dX12_number_24 ?_
        refine ev_ldc2 25 dX12_number_25 kl_X12_73 ⟨by decide, by decide⟩ ?_
        refine ev_ldc2 28 dX12_number_28 kl_X12_75 ⟨by decide, by decide⟩ ?_
        refine ev_cSp_3 31 dX12_number_31 kmX12_in lk_X12_62 (m_in _ _ _) rfl rfl ?_
        try simp (disch := omega) only [upI_s, upI_a, upI_k]
        try simp only [hx, hn]
        refine ev_ifb_eq 34 80 dX12_number_34 rfl (fun h34 => ?_) (fun h34 => ?_)
        · refine ev_iload_2 80 dX12_number_80 ?_
          refine ev_i2l 81 dX12_number_81 ?_
          refine ev_lconst1 82 dX12_number_82 ?_
          refine ev_ldc2 83 dX12_number_83 kl_X12_77 ⟨by decide, by decide⟩ ?_
          refine ev_cSp_3 86 dX12_number_86 kmX12_in lk_X12_62 (m_in _ _ _) rfl rfl ?_
          try simp (disch := omega) only [upI_s, upI_a, upI_k]
          try simp only [hx, hn]
          refine ev_ifb_eq 89 96 dX12_number_89 rfl (fun h89 => ?_) (fun h89 => ?_)
          · refine ev_iconst 96 dX12_number_96 ⟨by decide, by decide⟩ ?_
            refine ev_iret 97 dX12_number_97 ?_ rfl
            have ef : figF tx n 200 p = i := by omega
            refine QM_of ⟨?_, by rw [ef]⟩
            rw [ef]
            unfold numF
            (repeat' split) <;> omega
          · refine ev_iload_1 92 dX12_number_92 ?_
            refine ev_goto 93 97 dX12_number_93 rfl ?_
            refine ev_iret 97 dX12_number_97 ?_ rfl
            have ef : figF tx n 200 p = i := by omega
            refine QM_of ⟨?_, by rw [ef]⟩
            rw [ef]
            unfold numF
            (repeat' split) <;> omega
        · refine Ev.join 63 (fun jv => (i < 2 ∧ jv = 10 * v + tx (p + i) - 48) ∨ (2 ≤ i ∧ jv = v)) (fun x63 q63 => ?_) (fun j63 => ?_)
          · try dsimp only at q63
            refine ev_istore_1 63 dX12_number_63 rfl rfl ?_
            refine ev_iinc_2 64 dX12_number_64 ⟨by omega, by omega⟩ rfl rfl ?_
            refine ev_aload_0 67 dX12_number_67 ?_
            refine ev_dupA 68 dX12_number_68 ?_
            refine ev_gI 69 2 2 dX12_number_69 fa_X12_70 (kd_131 hM) rfl rfl rfl ?_
            try simp (disch := omega) only [upI_s, upI_a, upI_k]
            try simp only [hx, hn]
            refine ev_iconst 72 dX12_number_72 ⟨by decide, by decide⟩ ?_
            refine ev_iadd 73 dX12_number_73 ⟨by omega, by omega⟩ ?_
            refine ev_pI 74 2 2 dX12_number_74 fp_X12_70 (kd_131 hM) rfl rfl ?_
            refine ev_goto 77 4 dX12_number_77 rfl ?_
            rw [show p + i + 1 = p + (i + 1) by omega]
            rw [show upI (upI I 131 2 (p + i)) 131 2 (p + (i + 1)) = upI I 131 2 (p + (i + 1)) from upI_up]
            refine ih (i + 1) _ (by omega) (by omega) (by rw [show p + (i + 1) = p + i + 1 by omega]; omega) ?_
            rcases hv with ⟨z1, z2⟩ | ⟨z1, z2, z3⟩ | ⟨z1, z2, z3⟩
            · have := e0 z1; right; left; omega
            · have := e1 z1; right; right; omega
            · right; right; omega
          · refine ev_iload_2 37 dX12_number_37 ?_
            refine ev_iconst 38 dX12_number_38 ⟨by decide, by decide⟩ ?_
            refine ev_icmp_ge 39 62 dX12_number_39 rfl (fun h39 => ?_) (fun h39 => ?_)
            · refine ev_iload_1 62 dX12_number_62 ?_
              exact j63 _ (by omega)
            · refine ev_bipush 42 dX12_number_42 ⟨by decide, by decide⟩ ?_
              refine ev_iload_1 44 dX12_number_44 ?_
              refine ev_imul 45 dX12_number_45 ⟨by omega, by omega⟩ ?_
              refine ev_aload_0 46 dX12_number_46 ?_
              refine ev_getA 47 1 dX12_number_47 fa_X12_7 (kd_131 hM) (pr_131_1 hN) rfl ?_
              refine ev_aload_0 50 dX12_number_50 ?_
              refine ev_gI 51 2 2 dX12_number_51 fa_X12_70 (kd_131 hM) rfl rfl rfl ?_
              try simp (disch := omega) only [upI_s, upI_a, upI_k]
              try simp only [hx, hn]
              refine ev_bald 54 dX12_number_54 (kd_132 hM) ⟨by omega, by have := (ln_132 hM); omega⟩ ?_
              try simp (disch := omega) only [upI_s, upI_a, upI_k]
              try simp only [hx, hn]
              refine ev_iadd 55 dX12_number_55 ⟨by omega, by omega⟩ ?_
              refine ev_bipush 56 dX12_number_56 ⟨by decide, by decide⟩ ?_
              refine ev_isub 58 dX12_number_58 ⟨by omega, by omega⟩ ?_
              refine ev_goto 59 63 dX12_number_59 rfl ?_
              exact j63 _ (by omega)
  refine ev_iconst 0 dX12_number_0 ⟨by decide, by decide⟩ ?_
  refine ev_istore_1 1 dX12_number_1 rfl rfl ?_
  refine ev_iconst 2 dX12_number_2 ⟨by decide, by decide⟩ ?_
  refine ev_istore_2 3 dX12_number_3 rfl rfl ?_
  have := loop 200 0 0 (by omega) (by omega) (by rw [show p + 0 = p by omega]; omega) (Or.inl ⟨rfl, rfl⟩)
  rw [show p + 0 = p by omega] at this
  have e9 : upI I 131 2 p = I := by rw [← hp]; exact upI_same _ _ _
  rw [e9] at this
  exact this
theorem m_isItem {l : Launch} {g : Gt} {d : Nat} {Z : Zt} {I : It} {P : Pt'} (hM : LayM Z) (hN : LayQ P) {tx : Int → Int} {n : Int} (hx : I 132 = tx) (hn : I 131 0 = n) (hlen : 0 ≤ n ∧ n ≤ 200) (hL : Ltr tx n) {D : Nat → Int → Int} (hD : DM I D) (hC : Cn D) {p : Int} (hp2 : I 131 2 = p) (hp : 0 ≤ p ∧ p < n) : Mt l g mX12_isItem (d + 2) 0 0 [vA 131] Z I P (QM (fun r I' => GI I I' ∧ ((∃ D', (itF tx n D p) = some D' ∧ r = 1 ∧ DM I' D' ∧ I' 131 2 = (kF tx n 4 (p + 1) 0).2) ∨ ((itF tx n D p) = none ∧ r = 0))) Z P) := by
  have hD0 := hD
  have nc := nmb_c (tx p)
  have lr := hL p hp.1 hp.2
  refine Mt.of kmX12_isItem (ls := [vA 131, vX, vX, vX, vX]) (fun _ => rfl) (fun _ => rfl) (okf_k (okf_n rfl)) (fun hok => ?_)
  have none_k : (∀ c : Int, (kF tx n 4 (p + 1) 0).1 = c → c ≠ nmb (tx p)) → (itF tx n D p) = none := fun z => by
    unfold itF
    by_cases y : (kF tx n 4 (p + 1) 0).1 = 0
    · rw [if_pos y]
    · rw [if_neg y]; exact addG_k (Or.inl (z _ rfl))
  have none_0 : nmb (tx p) = 0 → (itF tx n D p) = none := fun z => by
    unfold itF
    by_cases y : (kF tx n 4 (p + 1) 0).1 = 0
    · rw [if_pos y]
    · rw [if_neg y]; exact addG_k (Or.inr z)
  have bad144 : ∀ (J : It) (vx : Vv) (x : Int), (itF tx n D p) = none → J 131 2 = x → 0 ≤ x → x ≤ 2000 → (∀ a, a ≠ 131 → a ≠ 144 → J a = I a) → (∀ j, j ≠ 2 → J 131 j = I 131 j) → Ev l g mX12_isItem (d + 2) 0 0 Z J P 144 [vA 131, vI (tx p), vI (nmb (tx p)), vI 0, vx] [] (QM (fun r I' => GI I I' ∧ ((∃ D', (itF tx n D p) = some D' ∧ r = 1 ∧ DM I' D' ∧ I' 131 2 = (kF tx n 4 (p + 1) 0).2) ∨ ((itF tx n D p) = none ∧ r = 0))) Z P) := by
    intro J vx x hz jx2 x0 x1 fr1 fr2
    have gi : GI I J := ⟨fun j _ => by rw [fr1 133 (by omega) (by omega)], fun j _ => by rw [fr1 134 (by omega) (by omega)], fun j _ => by rw [fr1 135 (by omega) (by omega)], fun j _ => by rw [fr1 136 (by omega) (by omega)], fun j _ => by rw [fr1 137 (by omega) (by omega)], fr2, fun a a0 _ _ _ _ _ a6 => fr1 a a0 a6⟩
    have jx : J 132 = tx := by rw [fr1 132 (by omega) (by omega)]; exact hx
    have jn : J 131 0 = n := by rw [fr2 0 (by omega)]; exact hn
    refine ev_iload_3 144 dX12_isItem_144 ?_
    refine ev_if_eq 145 177 dX12_isItem_145 rfl (fun h145 => ?_) (fun h145 => ?_)
    · refine ev_iconst 177 dX12_isItem_177 ⟨by decide, by decide⟩ ?_
      refine ev_istore_3 178 dX12_isItem_178 rfl rfl ?_
      refine ev_aload_0 179 dX12_isItem_179 ?_
      refine ev_dupA 180 dX12_isItem_180 ?_
      refine ev_gI 181 2 2 dX12_isItem_181 fa_X12_70 (kd_131 hM) rfl rfl rfl ?_
      try simp only [jx2]
      refine ev_iconst 184 dX12_isItem_184 ⟨by decide, by decide⟩ ?_
      refine ev_iadd 185 dX12_isItem_185 ⟨by omega, by omega⟩ ?_
      refine ev_pI 186 2 2 dX12_isItem_186 fp_X12_70 (kd_131 hM) rfl rfl ?_
      refine ev_iload_3 189 dX12_isItem_189 ?_
      refine ev_if_eq 190 205 dX12_isItem_190 rfl (fun h190 => ?_) (fun h190 => ?_)
      · refine ev_iconst 205 dX12_isItem_205 ⟨by decide, by decide⟩ ?_
        refine ev_zret 206 dX12_isItem_206 (by first | omega | exact b2_or _) ?_ rfl
        exact QM_of ⟨gi.up2, Or.inr ⟨hz, rfl⟩⟩
      · exfalso; omega
    · exfalso; omega
  have bad38 : ∀ (J : It) (k x : Int), (itF tx n D p) = none → J 131 2 = x → 0 ≤ x → x ≤ 2000 → (∀ a, a ≠ 131 → a ≠ 144 → J a = I a) → (∀ j, j ≠ 2 → J 131 j = I 131 j) → Ev l g mX12_isItem (d + 2) 0 0 Z J P 38 [vA 131, vI (tx p), vI (nmb (tx p)), vI 0, vI k] [] (QM (fun r I' => GI I I' ∧ ((∃ D', (itF tx n D p) = some D' ∧ r = 1 ∧ DM I' D' ∧ I' 131 2 = (kF tx n 4 (p + 1) 0).2) ∨ ((itF tx n D p) = none ∧ r = 0))) Z P) := by
    intro J k x hz jx2 x0 x1 fr1 fr2
    refine ev_iload_4 38 dX12_isItem_38 ?_
    refine ev_iload_2 40 dX12_isItem_40 ?_
    refine ev_icmp_ge 41 144 dX12_isItem_41 rfl (fun h41 => ?_) (fun h41 => ?_)
    · exact bad144 J _ x hz jx2 x0 x1 fr1 fr2
    · refine ev_iload_3 44 dX12_isItem_44 ?_
      refine ev_if_eq 45 144 dX12_isItem_45 rfl (fun h45 => ?_) (fun h45 => ?_)
      · exact bad144 J _ x hz jx2 x0 x1 fr1 fr2
      · exfalso; omega
  have qr : ∀ k : Nat, p + 1 ≤ qF tx n k (p + 1) ∧ qF tx n k (p + 1) ≤ p + 1 + 201 * k := fun k => by
    induction k with
    | zero => exact ⟨Int.le_refl _, by show p + 1 ≤ _; omega⟩
    | succ k ih => rw [qF_s]; have := fig_r tx n 200 (qF tx n k (p + 1)); omega
  have loop : 1 ≤ nmb (tx p) → ∀ (r k : Nat) (J : It), (k : Int) + r = nmb (tx p) → J 131 2 = (qF tx n k (p + 1) - (if k = 0 then 0 else 1)) → (∀ j : Nat, j < k → J 144 j = vF tx n j (p + 1) ∧ 0 ≤ J 144 j) → (1 ≤ k → (kF tx n 4 (p + 1) 0) = (if letF tx n (qF tx n k (p + 1) - 1) = 59 then ((k : Int), qF tx n k (p + 1)) else if letF tx n (qF tx n k (p + 1) - 1) = 44 then kF tx n (4 - k) (qF tx n k (p + 1)) k else (0, 0))) → (∀ a, a ≠ 131 → a ≠ 144 → J a = I a) → (∀ j, j ≠ 2 → J 131 j = I 131 j) → Ev l g mX12_isItem (d + 2) 0 0 Z J P 38 [vA 131, vI (tx p), vI (nmb (tx p)), vI 1, vI k] [] (QM (fun r I' => GI I I' ∧ ((∃ D', (itF tx n D p) = some D' ∧ r = 1 ∧ DM I' D' ∧ I' 131 2 = (kF tx n 4 (p + 1) 0).2) ∨ ((itF tx n D p) = none ∧ r = 0))) Z P) := by
    intro hn1 r
    induction r with
    | zero =>
      intro k J h1 ja jg jk fr1 fr2
      have gi : GI I J := ⟨fun j _ => by rw [fr1 133 (by omega) (by omega)], fun j _ => by rw [fr1 134 (by omega) (by omega)], fun j _ => by rw [fr1 135 (by omega) (by omega)], fun j _ => by rw [fr1 136 (by omega) (by omega)], fun j _ => by rw [fr1 137 (by omega) (by omega)], fr2, fun a a0 _ _ _ _ _ a6 => fr1 a a0 a6⟩
      have jx : J 132 = tx := by rw [fr1 132 (by omega) (by omega)]; exact hx
      have jn : J 131 0 = n := by rw [fr2 0 (by omega)]; exact hn
      by_cases hk0 : k = 0
      · subst hk0
        have hq0 : qF tx n 0 (p + 1) = p + 1 := rfl
        exfalso; omega
      · rw [if_neg hk0] at ja
        have hk1 : 1 ≤ k := by omega
        have jk := jk hk1
        have qk := qr k
        have lc := let_c tx n (qF tx n k (p + 1) - 1) (by omega)
        have kfn := kF_n tx n (4 - k) (qF tx n k (p + 1)) k
        by_cases h59 : letF tx n (qF tx n k (p + 1) - 1) = 59
        · rw [if_pos h59] at jk
          have eit : (itF tx n D p) = addG D (tx p) (nmb (tx p)) (J 144 0) (J 144 1) (J 144 2) (J 144 3) := by
            unfold itF
            rw [jk, if_neg (by dsimp only; omega)]
            dsimp only
            rw [show (k : Int) = nmb (tx p) by omega]
            exact addG_congr (fun z => ((jg 0 (by omega)).1).symm) (fun z => ((jg 1 (by omega)).1).symm) (fun z => ((jg 2 (by omega)).1).symm) (fun z => ((jg 3 (by omega)).1).symm)
          have hD2 : DM (upI J 131 2 (qF tx n k (p + 1))) D := hD0.fr (by rw [upI_A (by omega)]; exact fr1 133 (by omega) (by omega)) (by rw [upI_A (by omega)]; exact fr1 134 (by omega) (by omega)) (by rw [upI_A (by omega)]; exact fr1 135 (by omega) (by omega)) (by rw [upI_A (by omega)]; exact fr1 136 (by omega) (by omega)) (by rw [upI_A (by omega)]; exact fr1 137 (by omega) (by omega))
          have u144 : upI J 131 2 (qF tx n k (p + 1)) 144 = J 144 := upI_A (by omega)
          have eq1 : qF tx n k (p + 1) - 1 + 1 = qF tx n k (p + 1) := by omega
          refine ev_iload_4 38 dX12_isItem_38 ?_
          refine ev_iload_2 40 dX12_isItem_40 ?_
          refine ev_icmp_ge 41 144 dX12_isItem_41 rfl (fun h41 => ?_) (fun h41 => ?_)
          · refine ev_iload_3 144 dX12_isItem_144 ?_
            refine ev_if_eq 145 177 dX12_isItem_145 rfl (fun h145 => ?_) (fun h145 => ?_)
            · exfalso; omega
            · refine ev_aload_0 148 dX12_isItem_148 ?_
              refine ev_gI 149 2 2 dX12_isItem_149 fa_X12_70 (kd_131 hM) rfl rfl rfl ?_
              try simp only [ja, jx, jn]
              refine ev_aload_0 152 dX12_isItem_152 ?_
              refine ev_gI 153 0 0 dX12_isItem_153 fa_X12_66 (kd_131 hM) rfl rfl rfl ?_
              try simp only [ja, jx, jn]
              refine ev_icmp_ge 156 177 dX12_isItem_156 rfl (fun h156 => ?_) (fun h156 => ?_)
              · exfalso; omega
              · refine ev_aload_0 159 dX12_isItem_159 ?_
                refine ev_getA 160 1 dX12_isItem_160 fa_X12_7 (kd_131 hM) (pr_131_1 hN) rfl ?_
                refine ev_aload_0 163 dX12_isItem_163 ?_
                refine ev_gI 164 2 2 dX12_isItem_164 fa_X12_70 (kd_131 hM) rfl rfl rfl ?_
                try simp only [ja, jx, jn]
                refine ev_bald 167 dX12_isItem_167 (kd_132 hM) ⟨by omega, by have := (ln_132 hM); omega⟩ ?_
                try simp only [ja, jx, jn]
                refine ev_bipush 168 dX12_isItem_168 ⟨by decide, by decide⟩ ?_
                refine ev_jne 170 177 dX12_isItem_170 rfl (fun h170 => ?_) (fun h170 => ?_)
                · exfalso; omega
                · refine ev_iconst 173 dX12_isItem_173 ⟨by decide, by decide⟩ ?_
                  refine ev_goto 174 178 dX12_isItem_174 rfl ?_
                  refine ev_istore_3 178 dX12_isItem_178 rfl rfl ?_
                  refine ev_aload_0 179 dX12_isItem_179 ?_
                  refine ev_dupA 180 dX12_isItem_180 ?_
                  refine ev_gI 181 2 2 dX12_isItem_181 fa_X12_70 (kd_131 hM) rfl rfl rfl ?_
                  try simp only [ja, jx, jn]
                  refine ev_iconst 184 dX12_isItem_184 ⟨by decide, by decide⟩ ?_
                  refine ev_iadd 185 dX12_isItem_185 ⟨by omega, by omega⟩ ?_
                  rw [eq1]
                  refine ev_pI 186 2 2 dX12_isItem_186 fp_X12_70 (kd_131 hM) rfl rfl ?_
                  refine ev_iload_3 189 dX12_isItem_189 ?_
                  refine ev_if_eq 190 205 dX12_isItem_190 rfl (fun h190 => ?_) (fun h190 => ?_)
                  · refine ev_iconst 205 dX12_isItem_205 ⟨by decide, by decide⟩ ?_
                    refine ev_zret 206 dX12_isItem_206 (by first | omega | exact b2_or _) ?_ rfl
                    first
                      | (exfalso; omega)
                      | (obtain ⟨g1, g2⟩ := f195
                         rcases g2 with ⟨D', g3, g4, g5⟩ | ⟨g3, g4⟩
                         · first
                             | (exfalso; omega)
                             | exact QM_of ⟨(gi.up2).tr g1.gi, Or.inl ⟨D', eit.trans g3, rfl, g5, by rw [jk]; show _ = qF tx n k (p + 1); rw [g1.2.2.2.2.2 131 (by omega) (by omega) (by omega) (by omega) (by omega), upI_s]⟩⟩
                         · first
                             | (exfalso; omega)
                             | exact QM_of ⟨(gi.up2).tr g1.gi, Or.inr ⟨eit.trans g3, rfl⟩⟩)
                  · refine ev_aload_0 193 dX12_isItem_193 ?_
                    refine ev_iload_1 194 dX12_isItem_194 ?_
                    refine ev_cVm_1 195 dX12_isItem_195 kmX12_isGood lk_X12_87 (kd_131 hM) (m_isGood hM hN hD2 hC (by omega) (by rw [u144]; exact (jg 0 (by omega)).2) (fun z => by rw [u144]; exact (jg 1 (by omega)).2) (fun z => by rw [u144]; exact (jg 2 (by omega)).2) (fun z => by rw [u144]; exact (jg 3 (by omega)).2)) rfl rfl (fun x195 I195 f195 => ?_)
                    rw [u144] at f195
                    refine ev_if_eq 198 205 dX12_isItem_198 rfl (fun h198 => ?_) (fun h198 => ?_)
                    · refine ev_iconst 205 dX12_isItem_205 ⟨by decide, by decide⟩ ?_
                      refine ev_zret 206 dX12_isItem_206 (by first | omega | exact b2_or _) ?_ rfl
                      first
                        | (exfalso; omega)
                        | (obtain ⟨g1, g2⟩ := f195
                           rcases g2 with ⟨D', g3, g4, g5⟩ | ⟨g3, g4⟩
                           · first
                               | (exfalso; omega)
                               | exact QM_of ⟨(gi.up2).tr g1.gi, Or.inl ⟨D', eit.trans g3, rfl, g5, by rw [jk]; show _ = qF tx n k (p + 1); rw [g1.2.2.2.2.2 131 (by omega) (by omega) (by omega) (by omega) (by omega), upI_s]⟩⟩
                           · first
                               | (exfalso; omega)
                               | exact QM_of ⟨(gi.up2).tr g1.gi, Or.inr ⟨eit.trans g3, rfl⟩⟩)
                    · refine ev_iconst 201 dX12_isItem_201 ⟨by decide, by decide⟩ ?_
                      refine ev_goto 202 206 dX12_isItem_202 rfl ?_
                      refine ev_zret 206 dX12_isItem_206 (by first | omega | exact b2_or _) ?_ rfl
                      first
                        | (exfalso; omega)
                        | (obtain ⟨g1, g2⟩ := f195
                           rcases g2 with ⟨D', g3, g4, g5⟩ | ⟨g3, g4⟩
                           · first
                               | (exfalso; omega)
                               | exact QM_of ⟨(gi.up2).tr g1.gi, Or.inl ⟨D', eit.trans g3, rfl, g5, by rw [jk]; show _ = qF tx n k (p + 1); rw [g1.2.2.2.2.2 131 (by omega) (by omega) (by omega) (by omega) (by omega), upI_s]⟩⟩
                           · first
                               | (exfalso; omega)
                               | exact QM_of ⟨(gi.up2).tr g1.gi, Or.inr ⟨eit.trans g3, rfl⟩⟩)
          · refine ev_iload_3 44 dX12_isItem_44 ?_
            refine ev_if_eq 45 144 dX12_isItem_45 rfl (fun h45 => ?_) (fun h45 => ?_)
            · refine ev_iload_3 144 dX12_isItem_144 ?_
              refine ev_if_eq 145 177 dX12_isItem_145 rfl (fun h145 => ?_) (fun h145 => ?_)
              · exfalso; omega
              · refine ev_aload_0 148 dX12_isItem_148 ?_
                refine ev_gI 149 2 2 dX12_isItem_149 fa_X12_70 (kd_131 hM) rfl rfl rfl ?_
                try simp (disch := omega) only [upI_s, upI_a, upI_k]
                try simp only [ja, jx, jn]
                refine ev_aload_0 152 dX12_isItem_152 ?_
                refine ev_gI 153 0 0 dX12_isItem_153 fa_X12_66 (kd_131 hM) rfl rfl rfl ?_
                try simp (disch := omega) only [upI_s, upI_a, upI_k]
                try simp only [ja, jx, jn]
                refine ev_icmp_ge 156 177 dX12_isItem_156 rfl (fun h156 => ?_) (fun h156 => ?_)
                · exfalso; omega
                · refine ev_aload_0 159 dX12_isItem_159 ?_
                  refine ev_getA 160 1 dX12_isItem_160 fa_X12_7 (kd_131 hM) (pr_131_1 hN) rfl ?_
                  refine ev_aload_0 163 dX12_isItem_163 ?_
                  refine ev_gI 164 2 2 dX12_isItem_164 fa_X12_70 (kd_131 hM) rfl rfl rfl ?_
                  try simp (disch := omega) only [upI_s, upI_a, upI_k]
                  try simp only [ja, jx, jn]
                  refine ev_bald 167 dX12_isItem_167 (kd_132 hM) ⟨by omega, by have := (ln_132 hM); omega⟩ ?_
                  try simp (disch := omega) only [upI_s, upI_a, upI_k]
                  try simp only [ja, jx, jn]
                  refine ev_bipush 168 dX12_isItem_168 ⟨by decide, by decide⟩ ?_
                  refine ev_jne 170 177 dX12_isItem_170 rfl (fun h170 => ?_) (fun h170 => ?_)
                  · exfalso; omega
                  · refine ev_iconst 173 dX12_isItem_173 ⟨by decide, by decide⟩ ?_
                    refine ev_goto 174 178 dX12_isItem_174 rfl ?_
                    refine ev_istore_3 178 dX12_isItem_178 rfl rfl ?_
                    refine ev_aload_0 179 dX12_isItem_179 ?_
                    refine ev_dupA 180 dX12_isItem_180 ?_
                    refine ev_gI 181 2 2 dX12_isItem_181 fa_X12_70 (kd_131 hM) rfl rfl rfl ?_
                    try simp (disch := omega) only [upI_s, upI_a, upI_k]
                    try simp only [ja, jx, jn]
                    refine ev_iconst 184 dX12_isItem_184 ⟨by decide, by decide⟩ ?_
                    refine ev_iadd 185 dX12_isItem_185 ⟨by omega, by omega⟩ ?_
                    rw [eq1]
                    refine ev_pI 186 2 2 dX12_isItem_186 fp_X12_70 (kd_131 hM) rfl rfl ?_
                    refine ev_iload_3 189 dX12_isItem_189 ?_
                    refine ev_if_eq 190 205 dX12_isItem_190 rfl (fun h190 => ?_) (fun h190 => ?_)
                    · refine ev_iconst 205 dX12_isItem_205 ⟨by decide, by decide⟩ ?_
                      refine ev_zret 206 dX12_isItem_206 (by first | omega | exact b2_or _) ?_ rfl
                      first
                        | (exfalso; omega)
                        | (obtain ⟨g1, g2⟩ := f195
                           rcases g2 with ⟨D', g3, g4, g5⟩ | ⟨g3, g4⟩
                           · first
                               | (exfalso; omega)
                               | exact QM_of ⟨(gi.up2).tr g1.gi, Or.inl ⟨D', eit.trans g3, rfl, g5, by rw [jk]; show _ = qF tx n k (p + 1); rw [g1.2.2.2.2.2 131 (by omega) (by omega) (by omega) (by omega) (by omega), upI_s]⟩⟩
                           · first
                               | (exfalso; omega)
                               | exact QM_of ⟨(gi.up2).tr g1.gi, Or.inr ⟨eit.trans g3, rfl⟩⟩)
                    · refine ev_aload_0 193 dX12_isItem_193 ?_
                      refine ev_iload_1 194 dX12_isItem_194 ?_
                      refine ev_cVm_1 195 dX12_isItem_195 kmX12_isGood lk_X12_87 (kd_131 hM) (m_isGood hM hN hD2 hC (by omega) (by rw [u144]; exact (jg 0 (by omega)).2) (fun z => by rw [u144]; exact (jg 1 (by omega)).2) (fun z => by rw [u144]; exact (jg 2 (by omega)).2) (fun z => by rw [u144]; exact (jg 3 (by omega)).2)) rfl rfl (fun x195 I195 f195 => ?_)
                      rw [u144] at f195
                      refine ev_if_eq 198 205 dX12_isItem_198 rfl (fun h198 => ?_) (fun h198 => ?_)
                      · refine ev_iconst 205 dX12_isItem_205 ⟨by decide, by decide⟩ ?_
                        refine ev_zret 206 dX12_isItem_206 (by first | omega | exact b2_or _) ?_ rfl
                        first
                          | (exfalso; omega)
                          | (obtain ⟨g1, g2⟩ := f195
                             rcases g2 with ⟨D', g3, g4, g5⟩ | ⟨g3, g4⟩
                             · first
                                 | (exfalso; omega)
                                 | exact QM_of ⟨(gi.up2).tr g1.gi, Or.inl ⟨D', eit.trans g3, rfl, g5, by rw [jk]; show _ = qF tx n k (p + 1); rw [g1.2.2.2.2.2 131 (by omega) (by omega) (by omega) (by omega) (by omega), upI_s]⟩⟩
                             · first
                                 | (exfalso; omega)
                                 | exact QM_of ⟨(gi.up2).tr g1.gi, Or.inr ⟨eit.trans g3, rfl⟩⟩)
                      · refine ev_iconst 201 dX12_isItem_201 ⟨by decide, by decide⟩ ?_
                        refine ev_goto 202 206 dX12_isItem_202 rfl ?_
                        refine ev_zret 206 dX12_isItem_206 (by first | omega | exact b2_or _) ?_ rfl
                        first
                          | (exfalso; omega)
                          | (obtain ⟨g1, g2⟩ := f195
                             rcases g2 with ⟨D', g3, g4, g5⟩ | ⟨g3, g4⟩
                             · first
                                 | (exfalso; omega)
                                 | exact QM_of ⟨(gi.up2).tr g1.gi, Or.inl ⟨D', eit.trans g3, rfl, g5, by rw [jk]; show _ = qF tx n k (p + 1); rw [g1.2.2.2.2.2 131 (by omega) (by omega) (by omega) (by omega) (by omega), upI_s]⟩⟩
                             · first
                                 | (exfalso; omega)
                                 | exact QM_of ⟨(gi.up2).tr g1.gi, Or.inr ⟨eit.trans g3, rfl⟩⟩)
            · exfalso; omega
        · rw [if_neg h59] at jk
          have hz : (itF tx n D p) = none := none_k (fun c hc => by
            rw [jk] at hc
            by_cases h44 : letF tx n (qF tx n k (p + 1) - 1) = 44
            · rw [if_pos h44] at hc; omega
            · rw [if_neg h44] at hc; dsimp only at hc; omega)
          refine ev_iload_4 38 dX12_isItem_38 ?_
          refine ev_iload_2 40 dX12_isItem_40 ?_
          refine ev_icmp_ge 41 144 dX12_isItem_41 rfl (fun h41 => ?_) (fun h41 => ?_)
          · refine ev_iload_3 144 dX12_isItem_144 ?_
            refine ev_if_eq 145 177 dX12_isItem_145 rfl (fun h145 => ?_) (fun h145 => ?_)
            · refine ev_iconst 177 dX12_isItem_177 ⟨by decide, by decide⟩ ?_
              refine ev_istore_3 178 dX12_isItem_178 rfl rfl ?_
              refine ev_aload_0 179 dX12_isItem_179 ?_
              refine ev_dupA 180 dX12_isItem_180 ?_
              refine ev_gI 181 2 2 dX12_isItem_181 fa_X12_70 (kd_131 hM) rfl rfl rfl ?_
              try simp only [ja, jx, jn]
              refine ev_iconst 184 dX12_isItem_184 ⟨by decide, by decide⟩ ?_
              refine ev_iadd 185 dX12_isItem_185 ⟨by omega, by omega⟩ ?_
              refine ev_pI 186 2 2 dX12_isItem_186 fp_X12_70 (kd_131 hM) rfl rfl ?_
              refine ev_iload_3 189 dX12_isItem_189 ?_
              refine ev_if_eq 190 205 dX12_isItem_190 rfl (fun h190 => ?_) (fun h190 => ?_)
              · refine ev_iconst 205 dX12_isItem_205 ⟨by decide, by decide⟩ ?_
                refine ev_zret 206 dX12_isItem_206 (by first | omega | exact b2_or _) ?_ rfl
                exact QM_of ⟨gi.up2, Or.inr ⟨hz, rfl⟩⟩
              · exfalso; omega
            · refine ev_aload_0 148 dX12_isItem_148 ?_
              refine ev_gI 149 2 2 dX12_isItem_149 fa_X12_70 (kd_131 hM) rfl rfl rfl ?_
              try simp (disch := omega) only [upI_s, upI_a, upI_k]
              try simp only [ja, jx, jn]
              refine ev_aload_0 152 dX12_isItem_152 ?_
              refine ev_gI 153 0 0 dX12_isItem_153 fa_X12_66 (kd_131 hM) rfl rfl rfl ?_
              try simp (disch := omega) only [upI_s, upI_a, upI_k]
              try simp only [ja, jx, jn]
              refine ev_icmp_ge 156 177 dX12_isItem_156 rfl (fun h156 => ?_) (fun h156 => ?_)
              · refine ev_iconst 177 dX12_isItem_177 ⟨by decide, by decide⟩ ?_
                refine ev_istore_3 178 dX12_isItem_178 rfl rfl ?_
                refine ev_aload_0 179 dX12_isItem_179 ?_
                refine ev_dupA 180 dX12_isItem_180 ?_
                refine ev_gI 181 2 2 dX12_isItem_181 fa_X12_70 (kd_131 hM) rfl rfl rfl ?_
                try simp (disch := omega) only [upI_s, upI_a, upI_k]
                try simp only [ja, jx, jn]
                refine ev_iconst 184 dX12_isItem_184 ⟨by decide, by decide⟩ ?_
                refine ev_iadd 185 dX12_isItem_185 ⟨by omega, by omega⟩ ?_
                refine ev_pI 186 2 2 dX12_isItem_186 fp_X12_70 (kd_131 hM) rfl rfl ?_
                refine ev_iload_3 189 dX12_isItem_189 ?_
                refine ev_if_eq 190 205 dX12_isItem_190 rfl (fun h190 => ?_) (fun h190 => ?_)
                · refine ev_iconst 205 dX12_isItem_205 ⟨by decide, by decide⟩ ?_
                  refine ev_zret 206 dX12_isItem_206 (by first | omega | exact b2_or _) ?_ rfl
                  exact QM_of ⟨gi.up2, Or.inr ⟨hz, rfl⟩⟩
                · exfalso; omega
              · refine ev_aload_0 159 dX12_isItem_159 ?_
                refine ev_getA 160 1 dX12_isItem_160 fa_X12_7 (kd_131 hM) (pr_131_1 hN) rfl ?_
                refine ev_aload_0 163 dX12_isItem_163 ?_
                refine ev_gI 164 2 2 dX12_isItem_164 fa_X12_70 (kd_131 hM) rfl rfl rfl ?_
                try simp (disch := omega) only [upI_s, upI_a, upI_k]
                try simp only [ja, jx, jn]
                refine ev_bald 167 dX12_isItem_167 (kd_132 hM) ⟨by omega, by have := (ln_132 hM); omega⟩ ?_
                try simp (disch := omega) only [upI_s, upI_a, upI_k]
                try simp only [ja, jx, jn]
                refine ev_bipush 168 dX12_isItem_168 ⟨by decide, by decide⟩ ?_
                refine ev_jne 170 177 dX12_isItem_170 rfl (fun h170 => ?_) (fun h170 => ?_)
                · refine ev_iconst 177 dX12_isItem_177 ⟨by decide, by decide⟩ ?_
                  refine ev_istore_3 178 dX12_isItem_178 rfl rfl ?_
                  refine ev_aload_0 179 dX12_isItem_179 ?_
                  refine ev_dupA 180 dX12_isItem_180 ?_
                  refine ev_gI 181 2 2 dX12_isItem_181 fa_X12_70 (kd_131 hM) rfl rfl rfl ?_
                  try simp (disch := omega) only [upI_s, upI_a, upI_k]
                  try simp only [ja, jx, jn]
                  refine ev_iconst 184 dX12_isItem_184 ⟨by decide, by decide⟩ ?_
                  refine ev_iadd 185 dX12_isItem_185 ⟨by omega, by omega⟩ ?_
                  refine ev_pI 186 2 2 dX12_isItem_186 fp_X12_70 (kd_131 hM) rfl rfl ?_
                  refine ev_iload_3 189 dX12_isItem_189 ?_
                  refine ev_if_eq 190 205 dX12_isItem_190 rfl (fun h190 => ?_) (fun h190 => ?_)
                  · refine ev_iconst 205 dX12_isItem_205 ⟨by decide, by decide⟩ ?_
                    refine ev_zret 206 dX12_isItem_206 (by first | omega | exact b2_or _) ?_ rfl
                    exact QM_of ⟨gi.up2, Or.inr ⟨hz, rfl⟩⟩
                  · exfalso; omega
                · exfalso; omega
          · refine ev_iload_3 44 dX12_isItem_44 ?_
            refine ev_if_eq 45 144 dX12_isItem_45 rfl (fun h45 => ?_) (fun h45 => ?_)
            · refine ev_iload_3 144 dX12_isItem_144 ?_
              refine ev_if_eq 145 177 dX12_isItem_145 rfl (fun h145 => ?_) (fun h145 => ?_)
              · refine ev_iconst 177 dX12_isItem_177 ⟨by decide, by decide⟩ ?_
                refine ev_istore_3 178 dX12_isItem_178 rfl rfl ?_
                refine ev_aload_0 179 dX12_isItem_179 ?_
                refine ev_dupA 180 dX12_isItem_180 ?_
                refine ev_gI 181 2 2 dX12_isItem_181 fa_X12_70 (kd_131 hM) rfl rfl rfl ?_
                try simp (disch := omega) only [upI_s, upI_a, upI_k]
                try simp only [ja, jx, jn]
                refine ev_iconst 184 dX12_isItem_184 ⟨by decide, by decide⟩ ?_
                refine ev_iadd 185 dX12_isItem_185 ⟨by omega, by omega⟩ ?_
                refine ev_pI 186 2 2 dX12_isItem_186 fp_X12_70 (kd_131 hM) rfl rfl ?_
                refine ev_iload_3 189 dX12_isItem_189 ?_
                refine ev_if_eq 190 205 dX12_isItem_190 rfl (fun h190 => ?_) (fun h190 => ?_)
                · refine ev_iconst 205 dX12_isItem_205 ⟨by decide, by decide⟩ ?_
                  refine ev_zret 206 dX12_isItem_206 (by first | omega | exact b2_or _) ?_ rfl
                  exact QM_of ⟨gi.up2, Or.inr ⟨hz, rfl⟩⟩
                · exfalso; omega
              · refine ev_aload_0 148 dX12_isItem_148 ?_
                refine ev_gI 149 2 2 dX12_isItem_149 fa_X12_70 (kd_131 hM) rfl rfl rfl ?_
                try simp (disch := omega) only [upI_s, upI_a, upI_k]
                try simp only [ja, jx, jn]
                refine ev_aload_0 152 dX12_isItem_152 ?_
                refine ev_gI 153 0 0 dX12_isItem_153 fa_X12_66 (kd_131 hM) rfl rfl rfl ?_
                try simp (disch := omega) only [upI_s, upI_a, upI_k]
                try simp only [ja, jx, jn]
                refine ev_icmp_ge 156 177 dX12_isItem_156 rfl (fun h156 => ?_) (fun h156 => ?_)
                · refine ev_iconst 177 dX12_isItem_177 ⟨by decide, by decide⟩ ?_
                  refine ev_istore_3 178 dX12_isItem_178 rfl rfl ?_
                  refine ev_aload_0 179 dX12_isItem_179 ?_
                  refine ev_dupA 180 dX12_isItem_180 ?_
                  refine ev_gI 181 2 2 dX12_isItem_181 fa_X12_70 (kd_131 hM) rfl rfl rfl ?_
                  try simp (disch := omega) only [upI_s, upI_a, upI_k]
                  try simp only [ja, jx, jn]
                  refine ev_iconst 184 dX12_isItem_184 ⟨by decide, by decide⟩ ?_
                  refine ev_iadd 185 dX12_isItem_185 ⟨by omega, by omega⟩ ?_
                  refine ev_pI 186 2 2 dX12_isItem_186 fp_X12_70 (kd_131 hM) rfl rfl ?_
                  refine ev_iload_3 189 dX12_isItem_189 ?_
                  refine ev_if_eq 190 205 dX12_isItem_190 rfl (fun h190 => ?_) (fun h190 => ?_)
                  · refine ev_iconst 205 dX12_isItem_205 ⟨by decide, by decide⟩ ?_
                    refine ev_zret 206 dX12_isItem_206 (by first | omega | exact b2_or _) ?_ rfl
                    exact QM_of ⟨gi.up2, Or.inr ⟨hz, rfl⟩⟩
                  · exfalso; omega
                · refine ev_aload_0 159 dX12_isItem_159 ?_
                  refine ev_getA 160 1 dX12_isItem_160 fa_X12_7 (kd_131 hM) (pr_131_1 hN) rfl ?_
                  refine ev_aload_0 163 dX12_isItem_163 ?_
                  refine ev_gI 164 2 2 dX12_isItem_164 fa_X12_70 (kd_131 hM) rfl rfl rfl ?_
                  try simp (disch := omega) only [upI_s, upI_a, upI_k]
                  try simp only [ja, jx, jn]
                  refine ev_bald 167 dX12_isItem_167 (kd_132 hM) ⟨by omega, by have := (ln_132 hM); omega⟩ ?_
                  try simp (disch := omega) only [upI_s, upI_a, upI_k]
                  try simp only [ja, jx, jn]
                  refine ev_bipush 168 dX12_isItem_168 ⟨by decide, by decide⟩ ?_
                  refine ev_jne 170 177 dX12_isItem_170 rfl (fun h170 => ?_) (fun h170 => ?_)
                  · refine ev_iconst 177 dX12_isItem_177 ⟨by decide, by decide⟩ ?_
                    refine ev_istore_3 178 dX12_isItem_178 rfl rfl ?_
                    refine ev_aload_0 179 dX12_isItem_179 ?_
                    refine ev_dupA 180 dX12_isItem_180 ?_
                    refine ev_gI 181 2 2 dX12_isItem_181 fa_X12_70 (kd_131 hM) rfl rfl rfl ?_
                    try simp (disch := omega) only [upI_s, upI_a, upI_k]
                    try simp only [ja, jx, jn]
                    refine ev_iconst 184 dX12_isItem_184 ⟨by decide, by decide⟩ ?_
                    refine ev_iadd 185 dX12_isItem_185 ⟨by omega, by omega⟩ ?_
                    refine ev_pI 186 2 2 dX12_isItem_186 fp_X12_70 (kd_131 hM) rfl rfl ?_
                    refine ev_iload_3 189 dX12_isItem_189 ?_
                    refine ev_if_eq 190 205 dX12_isItem_190 rfl (fun h190 => ?_) (fun h190 => ?_)
                    · refine ev_iconst 205 dX12_isItem_205 ⟨by decide, by decide⟩ ?_
                      refine ev_zret 206 dX12_isItem_206 (by first | omega | exact b2_or _) ?_ rfl
                      exact QM_of ⟨gi.up2, Or.inr ⟨hz, rfl⟩⟩
                    · exfalso; omega
                  · exfalso; omega
            · exfalso; omega
    | succ r ih =>
      intro k J h1 ja jg jk fr1 fr2
      have gi : GI I J := ⟨fun j _ => by rw [fr1 133 (by omega) (by omega)], fun j _ => by rw [fr1 134 (by omega) (by omega)], fun j _ => by rw [fr1 135 (by omega) (by omega)], fun j _ => by rw [fr1 136 (by omega) (by omega)], fun j _ => by rw [fr1 137 (by omega) (by omega)], fr2, fun a a0 _ _ _ _ _ a6 => fr1 a a0 a6⟩
      have jx : J 132 = tx := by rw [fr1 132 (by omega) (by omega)]; exact hx
      have jn : J 131 0 = n := by rw [fr2 0 (by omega)]; exact hn
      have qk := qr k
      have qk1 := qr (k + 1)
      have qs := qF_s tx n k (p + 1)
      have fr0 := fig_r tx n 200 (qF tx n k (p + 1))
      have vq := vF_q tx n k (p + 1)
      have n103 : (k = 0 ∨ letF tx n (qF tx n k (p + 1) - 1) = 44) → ∀ (x : Int), x = qF tx n k (p + 1) → Ev l g mX12_isItem (d + 2) 0 0 Z (upI J 131 2 x) P 103 [vA 131, vI (tx p), vI (nmb (tx p)), vI 1, vI k] [] (QM (fun r I' => GI I I' ∧ ((∃ D', (itF tx n D p) = some D' ∧ r = 1 ∧ DM I' D' ∧ I' 131 2 = (kF tx n 4 (p + 1) 0).2) ∨ ((itF tx n D p) = none ∧ r = 0))) Z P) := by
        intro hs x hxx
        subst hxx
        have ux : upI J 131 2 (qF tx n k (p + 1)) 132 = tx := by rw [upI_A (by omega)]; exact jx
        have un : upI J 131 2 (qF tx n k (p + 1)) 131 0 = n := by rw [upI_k (by omega)]; exact jn
        have nr := fun z => numF_r (tx := tx) (n := n) (p := qF tx n k (p + 1)) z
        have kstep : (kF tx n 4 (p + 1) 0) = kF tx n (4 - k) (qF tx n k (p + 1)) k := by
          by_cases z : k = 0
          · subst z; rfl
          · have h44 : letF tx n (qF tx n k (p + 1) - 1) = 44 := by omega
            rw [jk (by omega), if_neg (by omega), if_pos h44]
        refine ev_aload_0 103 dX12_isItem_103 ?_
        refine ev_getA 104 21 dX12_isItem_104 fa_X12_49 (kd_131 hM) (pr_131_21 hN) rfl ?_
        refine ev_iload_4 107 dX12_isItem_107 ?_
        refine ev_iload_3 109 dX12_isItem_109 ?_
        refine ev_if_eq 110 120 dX12_isItem_110 rfl (fun h110 => ?_) (fun h110 => ?_)
        · exfalso; omega
        · refine ev_aload_0 113 dX12_isItem_113 ?_
          refine ev_cVm_0 114 dX12_isItem_114 kmX12_number lk_X12_83 (kd_131 hM) (m_number hM hN ux un hlen hL (upI_s _ _ _ _) (by omega)) rfl rfl (fun x114 I114 f114 => ?_)
          obtain ⟨f1, f2⟩ := f114
          rw [upI_up] at f2
          subst f2
          refine ev_goto 117 121 dX12_isItem_117 rfl ?_
          refine ev_iast 121 dX12_isItem_121 (kd_144 hM) ⟨by omega, by have := (ln_144 hM); omega⟩ ?_
          have e9 : upI (upI J 131 2 (qF tx n k (p + 1) + figF tx n 200 (qF tx n k (p + 1)))) 144 (k : Int) x114 144 (k : Int) = x114 := upI_s _ _ _ _
          refine ev_aload_0 122 dX12_isItem_122 ?_
          refine ev_getA 123 21 dX12_isItem_123 fa_X12_49 (kd_131 hM) (pr_131_21 hN) rfl ?_
          refine ev_iload_4 126 dX12_isItem_126 ?_
          refine ev_iald 128 dX12_isItem_128 (kd_144 hM) ⟨by omega, by have := (ln_144 hM); omega⟩ ?_
          try simp (disch := omega) only [upI_s, upI_a, upI_k]
          try simp only [e9]
          refine ev_if_lt 129 136 dX12_isItem_129 rfl (fun h129 => ?_) (fun h129 => ?_)
          · refine ev_iconst 136 dX12_isItem_136 ⟨by decide, by decide⟩ ?_
            refine ev_istore_3 137 dX12_isItem_137 rfl rfl ?_
            refine ev_iinc_4 138 dX12_isItem_138 ⟨by omega, by omega⟩ rfl rfl ?_
            refine ev_goto 141 38 dX12_isItem_141 rfl ?_
            by_cases hf : 1 ≤ figF tx n 200 (qF tx n k (p + 1)) ∧ figF tx n 200 (qF tx n k (p + 1)) ≤ 2
            · rw [if_pos hf] at f1
              have nr := nr hf
              first
                | (exfalso; omega)
                | (rw [show (k : Int) + 1 = ((k + 1 : Nat) : Int) by omega]
                   refine ih (k + 1) _ (by omega) ?_ (fun j hj => ?_) (fun _ => ?_) (fun a z1 z2 => by rw [upI_A z2, upI_A z1]; exact fr1 a z1 z2) (fun j z => by rw [upI_A (by omega), upI_k z]; exact fr2 j z)
                   · rw [upI_A (by omega), upI_s, if_neg (by omega), qs]; omega
                   · by_cases z : j = k
                     · subst z; rw [upI_s, vq]; exact ⟨f1, by omega⟩
                     · rw [upI_k (by omega), upI_A (by omega)]; exact jg j (by omega)
                   · rw [kstep, qs, show 4 - k = (4 - (k + 1)) + 1 by omega, kF_1 tx n hf, show qF tx n k (p + 1) + figF tx n 200 (qF tx n k (p + 1)) + 1 - 1 = qF tx n k (p + 1) + figF tx n 200 (qF tx n k (p + 1)) by omega]; rfl)
            · rw [if_neg hf] at f1
              first
                | (exfalso; omega)
                | exact bad38 _ _ _ (none_k (fun c hc => by rw [kstep, kF_0 tx n hf] at hc; dsimp only at hc; omega)) (by rw [upI_A (by omega), upI_s]) (by omega) (by omega) (fun a z1 z2 => by rw [upI_A z2, upI_A z1]; exact fr1 a z1 z2) (fun j z => by rw [upI_A (by omega), upI_k z]; exact fr2 j z)
          · refine ev_iconst 132 dX12_isItem_132 ⟨by decide, by decide⟩ ?_
            refine ev_goto 133 137 dX12_isItem_133 rfl ?_
            refine ev_istore_3 137 dX12_isItem_137 rfl rfl ?_
            refine ev_iinc_4 138 dX12_isItem_138 ⟨by omega, by omega⟩ rfl rfl ?_
            refine ev_goto 141 38 dX12_isItem_141 rfl ?_
            by_cases hf : 1 ≤ figF tx n 200 (qF tx n k (p + 1)) ∧ figF tx n 200 (qF tx n k (p + 1)) ≤ 2
            · rw [if_pos hf] at f1
              have nr := nr hf
              first
                | (exfalso; omega)
                | (rw [show (k : Int) + 1 = ((k + 1 : Nat) : Int) by omega]
                   refine ih (k + 1) _ (by omega) ?_ (fun j hj => ?_) (fun _ => ?_) (fun a z1 z2 => by rw [upI_A z2, upI_A z1]; exact fr1 a z1 z2) (fun j z => by rw [upI_A (by omega), upI_k z]; exact fr2 j z)
                   · rw [upI_A (by omega), upI_s, if_neg (by omega), qs]; omega
                   · by_cases z : j = k
                     · subst z; rw [upI_s, vq]; exact ⟨f1, by omega⟩
                     · rw [upI_k (by omega), upI_A (by omega)]; exact jg j (by omega)
                   · rw [kstep, qs, show 4 - k = (4 - (k + 1)) + 1 by omega, kF_1 tx n hf, show qF tx n k (p + 1) + figF tx n 200 (qF tx n k (p + 1)) + 1 - 1 = qF tx n k (p + 1) + figF tx n 200 (qF tx n k (p + 1)) by omega]; rfl)
            · rw [if_neg hf] at f1
              first
                | (exfalso; omega)
                | exact bad38 _ _ _ (none_k (fun c hc => by rw [kstep, kF_0 tx n hf] at hc; dsimp only at hc; omega)) (by rw [upI_A (by omega), upI_s]) (by omega) (by omega) (fun a z1 z2 => by rw [upI_A z2, upI_A z1]; exact fr1 a z1 z2) (fun j z => by rw [upI_A (by omega), upI_k z]; exact fr2 j z)
      by_cases hk0 : k = 0
      · have ja2 : J 131 2 = qF tx n k (p + 1) := by rw [ja, if_pos hk0]; omega
        have kc : (k : Int) = 0 := by omega
        refine ev_iload_4 38 dX12_isItem_38 ?_
        refine ev_iload_2 40 dX12_isItem_40 ?_
        refine ev_icmp_ge 41 144 dX12_isItem_41 rfl (fun h41 => ?_) (fun h41 => ?_)
        · exfalso; omega
        · refine ev_iload_3 44 dX12_isItem_44 ?_
          refine ev_if_eq 45 144 dX12_isItem_45 rfl (fun h45 => ?_) (fun h45 => ?_)
          · exfalso; omega
          · refine ev_iload_4 48 dX12_isItem_48 ?_
            refine ev_if_eq 50 78 dX12_isItem_50 rfl (fun h50 => ?_) (fun h50 => ?_)
            · refine ev_iconst 78 dX12_isItem_78 ⟨by decide, by decide⟩ ?_
              refine ev_goto 79 83 dX12_isItem_79 rfl ?_
              refine ev_istore_3 83 dX12_isItem_83 rfl rfl ?_
              refine ev_aload_0 84 dX12_isItem_84 ?_
              refine ev_dupA 85 dX12_isItem_85 ?_
              refine ev_gI 86 2 2 dX12_isItem_86 fa_X12_70 (kd_131 hM) rfl rfl rfl ?_
              try simp only [ja2]
              refine ev_iload_4 89 dX12_isItem_89 ?_
              refine ev_zne 91 98 dX12_isItem_91 rfl (fun h91 => ?_) (fun h91 => ?_)
              · exfalso; omega
              · refine ev_iconst 94 dX12_isItem_94 ⟨by decide, by decide⟩ ?_
                refine ev_goto 95 99 dX12_isItem_95 rfl ?_
                refine ev_iadd 99 dX12_isItem_99 ⟨by omega, by omega⟩ ?_
                refine ev_pI 100 2 2 dX12_isItem_100 fp_X12_70 (kd_131 hM) rfl rfl ?_
                exact n103 (Or.inl hk0) _ (by omega)
            · exfalso; omega
      · have hk1 : 1 ≤ k := by omega
        rw [if_neg hk0] at ja
        have jk := jk hk1
        have lc := let_c tx n (qF tx n k (p + 1) - 1) (by omega)
        have kc : (k : Int) ≠ 0 := by omega
        have n83 : ∀ y : Int, (y = 0 ∨ y = 1) → (y = 1 ↔ letF tx n (qF tx n k (p + 1) - 1) = 44) → ∀ vx : Vv, Ev l g mX12_isItem (d + 2) 0 0 Z J P 83 [vA 131, vI (tx p), vI (nmb (tx p)), vx, vI k] [vI y] (QM (fun r I' => GI I I' ∧ ((∃ D', (itF tx n D p) = some D' ∧ r = 1 ∧ DM I' D' ∧ I' 131 2 = (kF tx n 4 (p + 1) 0).2) ∨ ((itF tx n D p) = none ∧ r = 0))) Z P) := by
          intro y hy hq vx
          by_cases h44 : letF tx n (qF tx n k (p + 1) - 1) = 44
          · obtain rfl : y = 1 := hq.mpr h44
            refine ev_istore_3 83 dX12_isItem_83 rfl rfl ?_
            refine ev_aload_0 84 dX12_isItem_84 ?_
            refine ev_dupA 85 dX12_isItem_85 ?_
            refine ev_gI 86 2 2 dX12_isItem_86 fa_X12_70 (kd_131 hM) rfl rfl rfl ?_
            try simp only [ja]
            refine ev_iload_4 89 dX12_isItem_89 ?_
            refine ev_zne 91 98 dX12_isItem_91 rfl (fun h91 => ?_) (fun h91 => ?_)
            · refine ev_iconst 98 dX12_isItem_98 ⟨by decide, by decide⟩ ?_
              refine ev_iadd 99 dX12_isItem_99 ⟨by omega, by omega⟩ ?_
              refine ev_pI 100 2 2 dX12_isItem_100 fp_X12_70 (kd_131 hM) rfl rfl ?_
              exact n103 (Or.inr h44) _ (by omega)
            · exfalso; omega
          · obtain rfl : y = 0 := by rcases hy with z | z; exact z; exact absurd (hq.mp z) h44
            have hz : (itF tx n D p) = none := none_k (fun c hc => by
              rw [jk] at hc
              by_cases h59 : letF tx n (qF tx n k (p + 1) - 1) = 59
              · rw [if_pos h59] at hc; dsimp only at hc; omega
              · rw [if_neg h59, if_neg h44] at hc; dsimp only at hc; omega)
            have e8 : upI (upI J 131 2 (qF tx n k (p + 1) - 1 + 1)) 144 (k : Int) (-1) 144 (k : Int) = -1 := upI_s _ _ _ _
            refine ev_istore_3 83 dX12_isItem_83 rfl rfl ?_
            refine ev_aload_0 84 dX12_isItem_84 ?_
            refine ev_dupA 85 dX12_isItem_85 ?_
            refine ev_gI 86 2 2 dX12_isItem_86 fa_X12_70 (kd_131 hM) rfl rfl rfl ?_
            try simp only [ja]
            try simp only [e8]
            refine ev_iload_4 89 dX12_isItem_89 ?_
            refine ev_zne 91 98 dX12_isItem_91 rfl (fun h91 => ?_) (fun h91 => ?_)
            · refine ev_iconst 98 dX12_isItem_98 ⟨by decide, by decide⟩ ?_
              refine ev_iadd 99 dX12_isItem_99 ⟨by omega, by omega⟩ ?_
              refine ev_pI 100 2 2 dX12_isItem_100 fp_X12_70 (kd_131 hM) rfl rfl ?_
              refine ev_aload_0 103 dX12_isItem_103 ?_
              refine ev_getA 104 21 dX12_isItem_104 fa_X12_49 (kd_131 hM) (pr_131_21 hN) rfl ?_
              refine ev_iload_4 107 dX12_isItem_107 ?_
              refine ev_iload_3 109 dX12_isItem_109 ?_
              refine ev_if_eq 110 120 dX12_isItem_110 rfl (fun h110 => ?_) (fun h110 => ?_)
              · refine ev_iconst 120 dX12_isItem_120 ⟨by decide, by decide⟩ ?_
                refine ev_iast 121 dX12_isItem_121 (kd_144 hM) ⟨by omega, by have := (ln_144 hM); omega⟩ ?_
                refine ev_aload_0 122 dX12_isItem_122 ?_
                refine ev_getA 123 21 dX12_isItem_123 fa_X12_49 (kd_131 hM) (pr_131_21 hN) rfl ?_
                refine ev_iload_4 126 dX12_isItem_126 ?_
                refine ev_iald 128 dX12_isItem_128 (kd_144 hM) ⟨by omega, by have := (ln_144 hM); omega⟩ ?_
                try simp (disch := omega) only [upI_s, upI_a, upI_k]
                try simp only [ja]
                try simp only [e8]
                refine ev_if_lt 129 136 dX12_isItem_129 rfl (fun h129 => ?_) (fun h129 => ?_)
                · refine ev_iconst 136 dX12_isItem_136 ⟨by decide, by decide⟩ ?_
                  refine ev_istore_3 137 dX12_isItem_137 rfl rfl ?_
                  refine ev_iinc_4 138 dX12_isItem_138 ⟨by omega, by omega⟩ rfl rfl ?_
                  refine ev_goto 141 38 dX12_isItem_141 rfl ?_
                  exact bad38 _ _ _ hz (by rw [upI_A (by omega), upI_s]) (by omega) (by omega) (fun a z1 z2 => by rw [upI_A z2, upI_A z1]; exact fr1 a z1 z2) (fun j z => by rw [upI_A (by omega), upI_k z]; exact fr2 j z)
                · exfalso; omega
              · exfalso; omega
            · exfalso; omega
        refine ev_iload_4 38 dX12_isItem_38 ?_
        refine ev_iload_2 40 dX12_isItem_40 ?_
        refine ev_icmp_ge 41 144 dX12_isItem_41 rfl (fun h41 => ?_) (fun h41 => ?_)
        · exfalso; omega
        · refine ev_iload_3 44 dX12_isItem_44 ?_
          refine ev_if_eq 45 144 dX12_isItem_45 rfl (fun h45 => ?_) (fun h45 => ?_)
          · exfalso; omega
          · refine ev_iload_4 48 dX12_isItem_48 ?_
            refine ev_if_eq 50 78 dX12_isItem_50 rfl (fun h50 => ?_) (fun h50 => ?_)
            · refine ev_iconst 78 dX12_isItem_78 ⟨by decide, by decide⟩ ?_
              refine ev_goto 79 83 dX12_isItem_79 rfl ?_
              first
                | exact n83 1 (Or.inr rfl) ⟨fun _ => by omega, fun _ => rfl⟩ _
                | exact n83 0 (Or.inl rfl) ⟨fun z => by omega, fun z => by omega⟩ _
                | (exfalso; omega)
            · refine ev_aload_0 53 dX12_isItem_53 ?_
              refine ev_gI 54 2 2 dX12_isItem_54 fa_X12_70 (kd_131 hM) rfl rfl rfl ?_
              try simp only [ja, jx, jn]
              refine ev_aload_0 57 dX12_isItem_57 ?_
              refine ev_gI 58 0 0 dX12_isItem_58 fa_X12_66 (kd_131 hM) rfl rfl rfl ?_
              try simp only [ja, jx, jn]
              refine ev_icmp_ge 61 82 dX12_isItem_61 rfl (fun h61 => ?_) (fun h61 => ?_)
              · refine ev_iconst 82 dX12_isItem_82 ⟨by decide, by decide⟩ ?_
                first
                  | exact n83 1 (Or.inr rfl) ⟨fun _ => by omega, fun _ => rfl⟩ _
                  | exact n83 0 (Or.inl rfl) ⟨fun z => by omega, fun z => by omega⟩ _
                  | (exfalso; omega)
              · refine ev_aload_0 64 dX12_isItem_64 ?_
                refine ev_getA 65 1 dX12_isItem_65 fa_X12_7 (kd_131 hM) (pr_131_1 hN) rfl ?_
                refine ev_aload_0 68 dX12_isItem_68 ?_
                refine ev_gI 69 2 2 dX12_isItem_69 fa_X12_70 (kd_131 hM) rfl rfl rfl ?_
                try simp only [ja, jx, jn]
                refine ev_bald 72 dX12_isItem_72 (kd_132 hM) ⟨by omega, by have := (ln_132 hM); omega⟩ ?_
                try simp only [ja, jx, jn]
                refine ev_bipush 73 dX12_isItem_73 ⟨by decide, by decide⟩ ?_
                refine ev_jne 75 82 dX12_isItem_75 rfl (fun h75 => ?_) (fun h75 => ?_)
                · refine ev_iconst 82 dX12_isItem_82 ⟨by decide, by decide⟩ ?_
                  first
                    | exact n83 1 (Or.inr rfl) ⟨fun _ => by omega, fun _ => rfl⟩ _
                    | exact n83 0 (Or.inl rfl) ⟨fun z => by omega, fun z => by omega⟩ _
                    | (exfalso; omega)
                · refine ev_iconst 78 dX12_isItem_78 ⟨by decide, by decide⟩ ?_
                  refine ev_goto 79 83 dX12_isItem_79 rfl ?_
                  first
                    | exact n83 1 (Or.inr rfl) ⟨fun _ => by omega, fun _ => rfl⟩ _
                    | exact n83 0 (Or.inl rfl) ⟨fun z => by omega, fun z => by omega⟩ _
                    | (exfalso; omega)
  refine ev_aload_0 0 dX12_isItem_0 ?_
  refine ev_getA 1 1 dX12_isItem_1 fa_X12_7 (kd_131 hM) (pr_131_1 hN) rfl ?_
  refine ev_aload_0 4 dX12_isItem_4 ?_
  refine ev_gI 5 2 2 dX12_isItem_5 fa_X12_70 (kd_131 hM) rfl rfl rfl ?_
  try simp only [hp2, hx]
  refine ev_bald 8 dX12_isItem_8 (kd_132 hM) ⟨by omega, by have := (ln_132 hM); omega⟩ ?_
  try simp only [hp2, hx]
  refine ev_istore_1 9 dX12_isItem_9 rfl rfl ?_
  refine ev_aload_0 10 dX12_isItem_10 ?_
  refine ev_dupA 11 dX12_isItem_11 ?_
  refine ev_gI 12 2 2 dX12_isItem_12 fa_X12_70 (kd_131 hM) rfl rfl rfl ?_
  try simp only [hp2, hx]
  refine ev_iconst 15 dX12_isItem_15 ⟨by decide, by decide⟩ ?_
  refine ev_iadd 16 dX12_isItem_16 ⟨by omega, by omega⟩ ?_
  refine ev_pI 17 2 2 dX12_isItem_17 fp_X12_70 (kd_131 hM) rfl rfl ?_
  refine ev_iload_1 20 dX12_isItem_20 ?_
  refine ev_cSp_1 21 dX12_isItem_21 kmX12_numbers lk_X12_79 (m_numbers _) rfl rfl ?_
  try simp (disch := omega) only [upI_s, upI_a, upI_k]
  try simp only [hp2, hx]
  refine ev_istore_2 24 dX12_isItem_24 rfl rfl ?_
  have e20 : upI I 131 2 (p + 1) 131 2 = p + 1 := upI_s _ _ _ _
  refine ev_iload_2 25 dX12_isItem_25 ?_
  refine ev_if_le 26 33 dX12_isItem_26 rfl (fun h26 => ?_) (fun h26 => ?_)
  · refine ev_iconst 33 dX12_isItem_33 ⟨by decide, by decide⟩ ?_
    refine ev_istore_3 34 dX12_isItem_34 rfl rfl ?_
    refine ev_iconst 35 dX12_isItem_35 ⟨by decide, by decide⟩ ?_
    refine ev_istore_4 36 dX12_isItem_36 rfl rfl ?_
    first
      | (obtain ⟨R, hR⟩ : ∃ R : Nat, (R : Int) = nmb (tx p) := ⟨(nmb (tx p)).toNat, by omega⟩
         exact loop (by omega) R 0 _ (by omega) (by rw [upI_s]; show _ = p + 1 - 0; omega) (fun j hj => by omega) (fun z => by omega) (fun a z1 z2 => upI_A z1) (fun j z => upI_k z))
      | exact bad38 _ _ (p + 1) (none_0 (by omega)) (upI_s _ _ _ _) (by omega) (by omega) (fun a z1 z2 => upI_A z1) (fun j z => upI_k z)
  · refine ev_iconst 29 dX12_isItem_29 ⟨by decide, by decide⟩ ?_
    refine ev_goto 30 34 dX12_isItem_30 rfl ?_
    refine ev_istore_3 34 dX12_isItem_34 rfl rfl ?_
    refine ev_iconst 35 dX12_isItem_35 ⟨by decide, by decide⟩ ?_
    refine ev_istore_4 36 dX12_isItem_36 rfl rfl ?_
    first
      | (obtain ⟨R, hR⟩ : ∃ R : Nat, (R : Int) = nmb (tx p) := ⟨(nmb (tx p)).toNat, by omega⟩
         exact loop (by omega) R 0 _ (by omega) (by rw [upI_s]; show _ = p + 1 - 0; omega) (fun j hj => by omega) (fun z => by omega) (fun a z1 z2 => upI_A z1) (fun j z => upI_k z))
      | exact bad38 _ _ (p + 1) (none_0 (by omega)) (upI_s _ _ _ _) (by omega) (by omega) (fun a z1 z2 => upI_A z1) (fun j z => upI_k z)
theorem kF_le (tx : Int → Int) (n : Int) : ∀ (m : Nat) (q i : Int), 0 ≤ q → (kF tx n m q i).1 ≠ 0 → (kF tx n m q i).2 ≤ n
  | 0, q, i, h, z => absurd rfl z
  | m + 1, q, i, h, z => by
    by_cases f : 1 ≤ figF tx n 200 q ∧ figF tx n 200 q ≤ 2
    · rw [kF_1 tx n f] at z ⊢
      have lc := let_c tx n (q + figF tx n 200 q) (by omega)
      by_cases c : letF tx n (q + figF tx n 200 q) = 59
      · rw [if_pos c]; dsimp only; omega
      · rw [if_neg c] at z ⊢
        by_cases c2 : letF tx n (q + figF tx n 200 q) = 44
        · rw [if_pos c2] at z ⊢; exact kF_le tx n m _ _ (by omega) z
        · rw [if_neg c2] at z; exact absurd rfl z
    · rw [kF_0 tx n f] at z; exact absurd rfl z
theorem m_fault {l : Launch} {g : Gt} {d : Nat} {Z : Zt} {I : It} {P : Pt'} (hM : LayM Z) (hN : LayQ P) {tx : Int → Int} {n : Int} (hx : I 132 = tx) (hn : I 131 0 = n) (hlen : 0 ≤ n ∧ n ≤ 200) (hL : Ltr tx n) (D0 : Nat → Int → Int) : Mt l g mX12_fault (d + 3) 0 0 [vA 131] Z I P (QM (fun r I' => r = (rdF tx n 200 (startD D0) 0).1 ∧ GI I I' ∧ (r = -4 → DM I' (rdF tx n 200 (startD D0) 0).2 ∧ Cn (rdF tx n 200 (startD D0) 0).2)) Z P) := by
  refine Mt.of kmX12_fault (ls := [vA 131, vX]) (fun _ => rfl) (fun _ => rfl) (okf_k (okf_n rfl)) (fun hok => ?_)
  have loop : ∀ (k : Nat) (D : Nat → Int → Int) (p : Int) (J : It) (vx : Vv), 0 ≤ p → p ≤ n → 600 ≤ p + 3 * k → (rdF tx n 200 (startD D0) 0) = rdF tx n k D p → J 131 2 = p → DM J D → Cn D → GI I J → Ev l g mX12_fault (d + 3) 0 0 Z J P 9 [vA 131, vx] [] (QM (fun r I' => r = (rdF tx n 200 (startD D0) 0).1 ∧ GI I I' ∧ (r = -4 → DM I' (rdF tx n 200 (startD D0) 0).2 ∧ Cn (rdF tx n 200 (startD D0) 0).2)) Z P) := by
    intro k
    induction k with
    | zero => intro D p J vx h0 h1 h2; exfalso; omega
    | succ k ih =>
      intro D p J vx h0 h1 h2 hr jp hD hC gi
      have jx : J 132 = tx := by rw [gi.2.2.2.2.2.2 132 (by omega) (by omega) (by omega) (by omega) (by omega) (by omega) (by omega)]; exact hx
      have jn : J 131 0 = n := by rw [gi.2.2.2.2.2.1 0 (by omega)]; exact hn
      by_cases hpn : p < n
      · have hr2 := hr.trans (rdF_it tx n k D p hpn)
        have kr := kF_r tx n 4 (p + 1) 0
        refine ev_aload_0 9 dX12_fault_9 ?_
        refine ev_gI 10 2 2 dX12_fault_10 fa_X12_70 (kd_131 hM) rfl rfl rfl ?_
        try simp only [jp, jn]
        refine ev_aload_0 13 dX12_fault_13 ?_
        refine ev_gI 14 0 0 dX12_fault_14 fa_X12_66 (kd_131 hM) rfl rfl rfl ?_
        try simp only [jp, jn]
        refine ev_icmp_ge 17 37 dX12_fault_17 rfl (fun h17 => ?_) (fun h17 => ?_)
        · exfalso; omega
        · refine ev_aload_0 20 dX12_fault_20 ?_
          refine ev_gI 21 2 2 dX12_fault_21 fa_X12_70 (kd_131 hM) rfl rfl rfl ?_
          try simp only [jp, jn]
          refine ev_istore_1 24 dX12_fault_24 rfl rfl ?_
          refine ev_aload_0 25 dX12_fault_25 ?_
          refine ev_cVm_0 26 dX12_fault_26 kmX12_isItem lk_X12_117 (kd_131 hM) (m_isItem hM hN jx jn hlen hL hD hC jp (by omega)) rfl rfl (fun x26 I26 f26 => ?_)
          obtain ⟨g1, g2⟩ := f26
          refine ev_zne 29 34 dX12_fault_29 rfl (fun h29 => ?_) (fun h29 => ?_)
          · refine ev_goto 34 9 dX12_fault_34 rfl ?_
            rcases g2 with ⟨D', g3, g4, g5, g6⟩ | ⟨g3, g4⟩
            · rw [g3] at hr2
              have g3' := g3
              unfold itF at g3'
              by_cases z : (kF tx n 4 (p + 1) 0).1 = 0
              · rw [if_pos z] at g3'; cases g3'
              · rw [if_neg z] at g3'
                have kq : (kF tx n 4 (p + 1) 0).2 ≤ n := kF_le tx n 4 (p + 1) 0 (by omega) z
                rcases kr with e | e
                · rw [e] at z; exact absurd rfl z
                · exact ih D' _ _ _ (by omega) kq (by omega) hr2 g6 g5 (addG_Cn hC g3') (gi.tr g1)
            · exfalso; omega
          · refine ev_iload_1 32 dX12_fault_32 ?_
            refine ev_iret 33 dX12_fault_33 ?_ rfl
            rcases g2 with ⟨D', g3, g4, g5, g6⟩ | ⟨g3, g4⟩
            · exfalso; omega
            · rw [g3] at hr2
              exact QM_of ⟨by rw [hr2], gi.tr g1, fun z => by omega⟩
      · have hr2 : (rdF tx n 200 (startD D0) 0) = (-4, D) := hr.trans (if_neg hpn)
        refine ev_aload_0 9 dX12_fault_9 ?_
        refine ev_gI 10 2 2 dX12_fault_10 fa_X12_70 (kd_131 hM) rfl rfl rfl ?_
        try simp only [jp, jn]
        refine ev_aload_0 13 dX12_fault_13 ?_
        refine ev_gI 14 0 0 dX12_fault_14 fa_X12_66 (kd_131 hM) rfl rfl rfl ?_
        try simp only [jp, jn]
        refine ev_icmp_ge 17 37 dX12_fault_17 rfl (fun h17 => ?_) (fun h17 => ?_)
        · refine ev_bipush 37 dX12_fault_37 ⟨by decide, by decide⟩ ?_
          refine ev_iret 39 dX12_fault_39 ?_ rfl
          exact QM_of ⟨by rw [hr2], gi, fun _ => by rw [hr2]; exact ⟨hD, hC⟩⟩
        · exfalso; omega
  refine ev_aload_0 0 dX12_fault_0 ?_
  refine ev_iconst 1 dX12_fault_1 ⟨by decide, by decide⟩ ?_
  refine ev_pI 2 2 2 dX12_fault_2 fp_X12_70 (kd_131 hM) rfl rfl ?_
  refine ev_aload_0 5 dX12_fault_5 ?_
  refine ev_cVv_0 6 dX12_fault_6 kmX12_begins lk_X12_52 (kd_131 hM) (m_begins hM hN D0) rfl rfl (fun I6 f6 => ?_)
  obtain ⟨g1, g2⟩ := f6
  exact loop 200 (startD D0) 0 _ _ (by omega) (by omega) (by omega) rfl (by rw [g2.2.2.2.2.2 131 (by omega) (by omega) (by omega) (by omega) (by omega), upI_s]) g1 (startD_Cn D0) ((GI.rf.up2).tr g2.gi)
