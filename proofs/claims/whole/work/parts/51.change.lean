/-! the calls that change something -/
theorem Bo.ch {T D : Nat} {α σ : Nat → Int → Int} {U V : Int → Nat → Int → Int} {Z : Zt} {I I' : It} {P : Pt'} (h : Bo T D α σ U V Z I P) (e : ∀ a, a ≠ 1 → a ≠ 2 → a ≠ 106 → a ≠ 107 → a ≠ 108 → a ≠ 112 → (a < 113 ∨ 117 ≤ a) → a ≠ 131 → a ≠ 132 → a ≠ 139 → a ≠ 140 → I' a = I a) (e1 : ∀ j, (j = 9 ∨ j = 10 ∨ j = 16) → I' 131 j = I 131 j) (tx : TXR I') (he : HER I' α) (dr : DRR I' α) : Bo T D α σ U V Z I' P := by
  have ht := h.tt
  have hW := h.w
  have e0 : ∀ a, ((2 < a ∧ a < 106) ∨ (132 < a ∧ a < 139) ∨ 140 < a) → I' a = I a := fun a z => e a (by omega) (by omega) (by omega) (by omega) (by omega) (by omega) (by omega) (by omega) (by omega) (by omega) (by omega)
  have eT : ∀ a, (T ≤ a ∧ a < T + 13) → I' a = I a := fun a z => e a (by omega) (by omega) (by omega) (by omega) (by omega) (by omega) (by omega) (by omega) (by omega) (by omega) (by omega)
  exact ⟨h.sn.fi (fun a z => by
      rcases z with z | z
      · exact eT a z
      · exact e0 a (by omega)), h.d0, h.isd, h.ne, h.lm, h.lq, ⟨h.rb.vs.fr (fun a b c => e0 a (by omega)), h.rb.vm.fr (e0 133 (by omega)) (e0 134 (by omega)) (e0 135 (by omega)) (e0 136 (by omega)), h.rb.now.fr hW (fun i _ _ => by rw [e0 138 (by omega)]), h.rb.hf.fr (e1 16 (by omega)) (e0 141 (by omega)), tx, he, dr, h.rb.un.fr hW (e1 10 (by omega)) (fun q a b => e0 q (by omega)) (fun i _ _ => by rw [e0 138 (by omega)]), h.rb.ke.fr hW (e1 9 (by omega)) (fun q a b => e0 q (by omega)) (fun i _ _ => by rw [e0 138 (by omega)])⟩⟩
section CHG
variable {T D : Nat} {α σ : Nat → Int → Int} {U V : Int → Nat → Int → Int} {Z : Zt} {I : It} {P : Pt'}
theorem Bo.hush (h : Bo T D α σ U V Z I P) : Bo T D α σ U V Z (upI (upI I 106 4 0) 131 11 0) P := by
  refine h.ch (fun a a1 a2 a3 a4 a5 a6 a7 a8 a9 a10 a11 => by rw [upI_A a8, upI_A a3]) (fun j z => by rw [upI_k (by omega), upI_A (by omega)]) (h.rb.tx.fr ?_ ?_ ?_ ?_) ⟨?_, ?_, fun i a b => ?_⟩ (h.rb.dr.fr ?_ ?_ ?_ (fun a b c => ?_))
  all_goals try simp (disch := omega) only [upI_A, upI_k, upI_s, upI_a]
  · omega
  · exfalso
    simp (disch := omega) only [upI_A, upI_k, upI_s, upI_a] at b
    omega
theorem Bo.forget (h : Bo T D α σ U V Z I P) : Bo T D α σ U V Z (upI (upI I 112 4 0) 131 13 0) P := by
  refine h.ch (fun a a1 a2 a3 a4 a5 a6 a7 a8 a9 a10 a11 => by rw [upI_A a8, upI_A a6]) (fun j z => by rw [upI_k (by omega), upI_A (by omega)]) (h.rb.tx.fr ?_ ?_ ?_ ?_) (h.rb.he.fr ?_ ?_ ?_ ?_ ?_) ⟨?_, ?_, fun i a b => ?_⟩
  all_goals try simp (disch := omega) only [upI_A, upI_k, upI_s, upI_a]
  · omega
  · exfalso
    simp (disch := omega) only [upI_A, upI_k, upI_s, upI_a] at b
    omega
theorem Bo.wipe (h : Bo T D α σ U V Z I P) : Bo T D α σ U V Z (upI (upI I 1 3 0) 131 0 0) P := by
  refine h.ch (fun a a1 a2 a3 a4 a5 a6 a7 a8 a9 a10 a11 => by rw [upI_A a8, upI_A a1]) (fun j z => by rw [upI_k (by omega), upI_A (by omega)]) ⟨?_, ?_, fun p a b => ?_, fun i a b => ?_⟩ (h.rb.he.fr ?_ ?_ ?_ ?_ ?_) (h.rb.dr.fr ?_ ?_ ?_ (fun a b c => ?_))
  all_goals try simp (disch := omega) only [upI_A, upI_k, upI_s, upI_a]
  · omega
  all_goals
    exfalso
    simp (disch := omega) only [upI_A, upI_k, upI_s, upI_a] at b
    omega
theorem Bo.write (h : Bo T D α σ U V Z I P) {c : Int} (hc : 32 ≤ c ∧ c ≤ 126) (hn : I 1 3 < 200) : Bo T D α σ U V Z (upI (upI (upI (upI I 2 (I 1 3) c) 1 3 (I 1 3 + 1)) 132 (I 131 0) c) 131 0 (I 131 0 + 1)) P := by
  obtain ⟨x1, x2, x3, x4⟩ := h.rb.tx
  refine h.ch (fun a a1 a2 a3 a4 a5 a6 a7 a8 a9 a10 a11 => by rw [upI_A a8, upI_A a9, upI_A a1, upI_A a2]) (fun j z => by rw [upI_k (by omega), upI_A (by omega), upI_A (by omega), upI_A (by omega)]) ⟨?_, ?_, fun p a b => ?_, fun i a b => ?_⟩ (h.rb.he.fr ?_ ?_ ?_ ?_ ?_) (h.rb.dr.fr ?_ ?_ ?_ (fun a b c => ?_))
  all_goals try simp (disch := omega) only [upI_A, upI_k, upI_s, upI_a]
  · omega
  · omega
  · simp (disch := omega) only [upI_A, upI_k, upI_s, upI_a] at b
    by_cases e : p = I 1 3
    · subst e; rw [upI_s]; exact hc
    · rw [upI_k e]; exact x3 p a (by omega)
  · simp (disch := omega) only [upI_A, upI_k, upI_s, upI_a] at b
    rw [x1]
    by_cases e : i = I 1 3
    · subst e; rw [upI_s, upI_s]
    · rw [upI_k e, upI_k e]; exact x4 i a (by omega)
theorem Bo.heard (h : Bo T D α σ U V Z I P) {t b : Int} (ht : 0 ≤ t ∧ t < α 0 5) (hb : 0 ≤ b ∧ b ≤ 99) (hn : I 106 4 < 6) : Bo T D α σ U V Z (upI (upI (upI (upI (upI (upI I 107 (I 106 4) t) 108 (I 106 4) b) 106 4 (I 106 4 + 1)) 139 (2 * I 131 11) t) 139 (2 * I 131 11 + 1) b) 131 11 (I 131 11 + 1)) P := by
  obtain ⟨x1, x2, x3⟩ := h.rb.he
  refine h.ch (fun a a1 a2 a3 a4 a5 a6 a7 a8 a9 a10 a11 => by rw [upI_A a8, upI_A a10, upI_A a10, upI_A a3, upI_A a5, upI_A a4]) (fun j z => by rw [upI_k (by omega), upI_A (by omega), upI_A (by omega), upI_A (by omega), upI_A (by omega), upI_A (by omega)]) (h.rb.tx.fr ?_ ?_ ?_ ?_) ⟨?_, ?_, fun i a c => ?_⟩ (h.rb.dr.fr ?_ ?_ ?_ (fun a b c => ?_))
  all_goals try simp (disch := omega) only [upI_A, upI_k, upI_s, upI_a]
  · omega
  · omega
  · simp (disch := omega) only [upI_A, upI_k, upI_s, upI_a] at c
    rw [x1]
    by_cases e : i = I 106 4
    · subst e
      simp (disch := omega) only [upI_k, upI_s]
      exact ⟨⟨by trivial, by trivial⟩, ht, hb⟩
    · simp (disch := omega) only [upI_k]
      exact x3 i a (by omega)
theorem Bo.drifted (h : Bo T D α σ U V Z I P) {a b c e : Int} (hb : 0 ≤ b ∧ b < α 0 0) (hc : 0 ≤ c ∧ c < α 0 0) (he : 1 ≤ e ∧ e ≤ 50) (hn : I 112 4 < 6) : Bo T D α σ U V Z (upI (upI (upI (upI (upI (upI (upI (upI (upI (upI I 113 (I 112 4) a) 114 (I 112 4) b) 115 (I 112 4) c) 116 (I 112 4) e) 112 4 (I 112 4 + 1)) 140 (4 * I 131 13) a) 140 (4 * I 131 13 + 1) b) 140 (4 * I 131 13 + 2) c) 140 (4 * I 131 13 + 3) e) 131 13 (I 131 13 + 1)) P := by
  obtain ⟨x1, x2, x3⟩ := h.rb.dr
  have w0 := h.w.1
  refine h.ch (fun a a1 a2 a3 a4 a5 a6 a7 a8 a9 a10 a11 => by simp (disch := omega) only [upI_A]) (fun j z => by simp (disch := omega) only [upI_A, upI_k]) (h.rb.tx.fr ?_ ?_ ?_ ?_) (h.rb.he.fr ?_ ?_ ?_ ?_ ?_) ⟨?_, ?_, fun i y z => ?_⟩
  all_goals try simp (disch := omega) only [upI_A, upI_k, upI_s, upI_a]
  · omega
  · omega
  · simp (disch := omega) only [upI_A, upI_k, upI_s, upI_a] at z
    rw [x1]
    by_cases q : i = I 112 4
    · subst q
      simp (disch := omega) only [upI_k, upI_s]
      exact ⟨⟨by trivial, by trivial, by trivial, by trivial⟩, ⟨by omega, by omega⟩, he, hc⟩
    · simp (disch := omega) only [upI_k]
      exact x3 i y (by omega)
end CHG
theorem b_hush {l : Launch} {g : Gt} {T D : Nat} {α σ : Nat → Int → Int} {U V : Int → Nat → Int → Int} {Z : Zt} {I : It} {P : Pt'} {L i : Int} {X : Int → Int} {Q : Qt} (hX : SCR g L X) (hi : 0 ≤ i ∧ i + 6 ≤ L) (h : Bo T D α σ U V Z I P) (k : NXT l g Q i) : Ev l g mL 9 (2 * nn P) (194 * nn P) Z I P 711 [vS, vA 0, vA 131, vI i] [] Q := by
  have hL := hX.2.1
  have hZ := h.sn.1
  have hM := h.lm
  refine ev_aload_1 711 dL_law_711 ?_
  refine ev_cVm_0 712 dL_law_712 kmX11_hush lk_L_94 (kd_0 hZ) (c_hush (d := 7) h.sn h.rb.vs h.ws) rfl rfl (fun r0 I0 f0 => ?_)
  obtain ⟨rfl, rfl⟩ := f0
  refine ev_aload_2 715 dL_law_715 ?_
  refine ev_cVm_0 716 dL_law_716 kmX12_hush lk_L_97 (kd_131 hM) (m_hush (d := 8) h.lm h.lq) rfl rfl (fun r1 I1 f1 => ?_)
  obtain ⟨rfl, rfl⟩ := f1
  refine ev_icmp_eq 719 1157 dL_law_719 rfl (fun hq => ?_) (fun hq => ?_)
  · exact k _ _ _ _ _ _ _ _ _ h.hush
  · exact absurd (by rw [upI_A (by omega), h.rb.he.1]) hq
theorem b_forget {l : Launch} {g : Gt} {T D : Nat} {α σ : Nat → Int → Int} {U V : Int → Nat → Int → Int} {Z : Zt} {I : It} {P : Pt'} {L i : Int} {X : Int → Int} {Q : Qt} (hX : SCR g L X) (hi : 0 ≤ i ∧ i + 6 ≤ L) (h : Bo T D α σ U V Z I P) (k : NXT l g Q i) : Ev l g mL 9 (2 * nn P) (194 * nn P) Z I P 965 [vS, vA 0, vA 131, vI i] [] Q := by
  have hL := hX.2.1
  have hZ := h.sn.1
  have hM := h.lm
  refine ev_aload_1 965 dL_law_965 ?_
  refine ev_cVm_0 966 dL_law_966 kmX11_forget lk_L_126 (kd_0 hZ) (c_forget (d := 7) h.sn h.rb.vs h.ws) rfl rfl (fun r0 I0 f0 => ?_)
  obtain ⟨rfl, rfl⟩ := f0
  refine ev_aload_2 969 dL_law_969 ?_
  refine ev_cVm_0 970 dL_law_970 kmX12_forget lk_L_129 (kd_131 hM) (m_forget (d := 8) h.lm h.lq) rfl rfl (fun r1 I1 f1 => ?_)
  obtain ⟨rfl, rfl⟩ := f1
  refine ev_icmp_eq 973 1157 dL_law_973 rfl (fun hq => ?_) (fun hq => ?_)
  · exact k _ _ _ _ _ _ _ _ _ h.forget
  · exact absurd (by rw [upI_A (by omega), h.rb.dr.1]) hq
theorem b_wipe {l : Launch} {g : Gt} {T D : Nat} {α σ : Nat → Int → Int} {U V : Int → Nat → Int → Int} {Z : Zt} {I : It} {P : Pt'} {L i : Int} {X : Int → Int} {Q : Qt} (hX : SCR g L X) (hi : 0 ≤ i ∧ i + 6 ≤ L) (h : Bo T D α σ U V Z I P) (k : NXT l g Q i) : Ev l g mL 9 (2 * nn P) (194 * nn P) Z I P 207 [vS, vA 0, vA 131, vI i] [] Q := by
  have hL := hX.2.1
  have hZ := h.sn.1
  have hM := h.lm
  refine ev_aload_1 207 dL_law_207 ?_
  refine ev_cVm_0 208 dL_law_208 kmX11_wipe lk_L_18 (kd_0 hZ) (c_wipe (d := 7) h.sn h.rb.vs h.ws) rfl rfl (fun r0 I0 f0 => ?_)
  obtain ⟨rfl, rfl⟩ := f0
  refine ev_aload_2 211 dL_law_211 ?_
  refine ev_cVm_0 212 dL_law_212 kmX12_wipe lk_L_22 (kd_131 hM) (m_wipe (d := 8) h.lm h.lq) rfl rfl (fun r1 I1 f1 => ?_)
  obtain ⟨rfl, rfl⟩ := f1
  refine ev_icmp_eq 215 1157 dL_law_215 rfl (fun hq => ?_) (fun hq => ?_)
  · exact k _ _ _ _ _ _ _ _ _ h.wipe
  · exact absurd (by rw [upI_A (by omega), h.rb.tx.1]) hq
theorem b_write {l : Launch} {g : Gt} {T D : Nat} {α σ : Nat → Int → Int} {U V : Int → Nat → Int → Int} {Z : Zt} {I : It} {P : Pt'} {L i : Int} {X : Int → Int} {Q : Qt} (hX : SCR g L X) (hi : 0 ≤ i ∧ i + 6 ≤ L) (h : Bo T D α σ U V Z I P) (k : NXT l g Q i) : Ev l g mL 9 (2 * nn P) (194 * nn P) Z I P 184 [vS, vA 0, vA 131, vI i] [] Q := by
  have hL := hX.2.1
  have hZ := h.sn.1
  have hM := h.lm
  refine ev_aload_1 184 dL_law_184 ?_
  refine ev_aloadS_0 185 dL_law_185 ?_
  refine ev_iload_3 186 dL_law_186 ?_
  refine ev_iconst 187 dL_law_187 ⟨by decide, by decide⟩ ?_
  refine ev_iadd 188 dL_law_188 ⟨by omega, by omega⟩ ?_
  refine ev_sald 189 hX dL_law_189 ⟨by omega, by omega⟩ ?_
  refine ev_cVm_1 190 dL_law_190 kmX11_write lk_L_13 (kd_0 hZ) (c_write (d := 7) h.sn h.rb.vs h.ws h.rb.tx.2.1 _) rfl rfl (fun r0 I0 f0 => ?_)
  have e131 : I0 131 = I 131 := by
    rcases f0 with ⟨-, -, z⟩ | ⟨-, ⟨-, -, z⟩ | ⟨-, -, z⟩⟩ <;> rw [z] <;> (try simp (disch := omega) only [upI_A])
  have hn := h.rb.tx.1
  refine ev_aload_2 193 dL_law_193 ?_
  refine ev_aloadS_0 194 dL_law_194 ?_
  refine ev_iload_3 195 dL_law_195 ?_
  refine ev_iconst 196 dL_law_196 ⟨by decide, by decide⟩ ?_
  refine ev_iadd 197 dL_law_197 ⟨by omega, by omega⟩ ?_
  refine ev_sald 198 hX dL_law_198 ⟨by omega, by omega⟩ ?_
  refine ev_cVm_1 199 dL_law_199 kmX12_write lk_L_17 (kd_131 hM) (m_write (d := 7) h.lm h.lq (by rw [e131, h.rb.tx.1]; exact h.rb.tx.2.1) _) rfl rfl (fun r1 I1 f1 => ?_)
  rw [e131] at f1
  refine ev_icmp_eq 202 1157 dL_law_202 rfl (fun hq => ?_) (fun hq => ?_)
  · rcases f0 with ⟨a1, a2, a3⟩ | ⟨a1, ⟨a2, a3, a4⟩ | ⟨a2, a3, a4⟩⟩
    · rcases f1 with ⟨b1, b2, b3⟩ | ⟨b1, ⟨b2, b3, b4⟩ | ⟨b2, b3, b4⟩⟩
      · subst a3; subst b3; exact k _ _ _ _ _ _ _ _ _ h
      · exact absurd b1 a1
      · exact absurd b1 a1
    · rcases f1 with ⟨b1, b2, b3⟩ | ⟨b1, ⟨b2, b3, b4⟩ | ⟨b2, b3, b4⟩⟩
      · exact absurd a1 b1
      · subst a4; subst b4; exact k _ _ _ _ _ _ _ _ _ (h.write a1 a2)
      · omega
    · rcases f1 with ⟨b1, b2, b3⟩ | ⟨b1, ⟨b2, b3, b4⟩ | ⟨b2, b3, b4⟩⟩
      · exact absurd a1 b1
      · omega
      · subst a4; subst b4; exact k _ _ _ _ _ _ _ _ _ h
  · exfalso
    rcases f0 with ⟨a1, a2, a3⟩ | ⟨a1, ⟨a2, a3, a4⟩ | ⟨a2, a3, a4⟩⟩ <;> rcases f1 with ⟨b1, b2, b3⟩ | ⟨b1, ⟨b2, b3, b4⟩ | ⟨b2, b3, b4⟩⟩ <;> omega
theorem b_heard {l : Launch} {g : Gt} {T D : Nat} {α σ : Nat → Int → Int} {U V : Int → Nat → Int → Int} {Z : Zt} {I : It} {P : Pt'} {L i : Int} {X : Int → Int} {Q : Qt} (hX : SCR g L X) (hi : 0 ≤ i ∧ i + 6 ≤ L) (h : Bo T D α σ U V Z I P) (k : NXT l g Q i) : Ev l g mL 9 (2 * nn P) (194 * nn P) Z I P 678 [vS, vA 0, vA 131, vI i] [] Q := by
  have hL := hX.2.1
  have hZ := h.sn.1
  have hM := h.lm
  refine ev_aload_1 678 dL_law_678 ?_
  refine ev_aloadS_0 679 dL_law_679 ?_
  refine ev_iload_3 680 dL_law_680 ?_
  refine ev_iconst 681 dL_law_681 ⟨by decide, by decide⟩ ?_
  refine ev_iadd 682 dL_law_682 ⟨by omega, by omega⟩ ?_
  refine ev_sald 683 hX dL_law_683 ⟨by omega, by omega⟩ ?_
  refine ev_aloadS_0 684 dL_law_684 ?_
  refine ev_iload_3 685 dL_law_685 ?_
  refine ev_iconst 686 dL_law_686 ⟨by decide, by decide⟩ ?_
  refine ev_iadd 687 dL_law_687 ⟨by omega, by omega⟩ ?_
  refine ev_sald 688 hX dL_law_688 ⟨by omega, by omega⟩ ?_
  refine ev_cVm_2 689 dL_law_689 kmX11_heard lk_L_90 (kd_0 hZ) (c_heard (d := 7) h.sn h.rb.vs h.ws h.rb.he.2.1 _ _) rfl rfl (fun r0 I0 f0 => ?_)
  have eB : ∀ a, a ≠ 106 → a ≠ 107 → a ≠ 108 → I0 a = I a := fun a y1 y2 y3 => by
    rcases f0 with ⟨-, -, z⟩ | ⟨-, ⟨-, -, z⟩ | ⟨-, ⟨-, -, z⟩ | ⟨-, -, z⟩⟩⟩ <;> rw [z] <;> (try rw [upI_A y1, upI_A y3, upI_A y2])
  have e131 : I0 131 = I 131 := eB 131 (by omega) (by omega) (by omega)
  have hV := h.rb.vm.fr (eB 133 (by omega) (by omega) (by omega)) (eB 134 (by omega) (by omega) (by omega)) (eB 135 (by omega) (by omega) (by omega)) (eB 136 (by omega) (by omega) (by omega))
  have hRT := h.rt.fr h.w (I' := I0) (fun i _ _ => by rw [eB 138 (by omega) (by omega) (by omega)])
  have hn := h.rb.he.1
  refine ev_aload_2 692 dL_law_692 ?_
  refine ev_aloadS_0 693 dL_law_693 ?_
  refine ev_iload_3 694 dL_law_694 ?_
  refine ev_iconst 695 dL_law_695 ⟨by decide, by decide⟩ ?_
  refine ev_iadd 696 dL_law_696 ⟨by omega, by omega⟩ ?_
  refine ev_sald 697 hX dL_law_697 ⟨by omega, by omega⟩ ?_
  refine ev_aloadS_0 698 dL_law_698 ?_
  refine ev_iload_3 699 dL_law_699 ?_
  refine ev_iconst 700 dL_law_700 ⟨by decide, by decide⟩ ?_
  refine ev_iadd 701 dL_law_701 ⟨by omega, by omega⟩ ?_
  refine ev_sald 702 hX dL_law_702 ⟨by omega, by omega⟩ ?_
  refine ev_cVm_2 703 dL_law_703 kmX12_heard lk_L_93 (kd_131 hM) (m_heard (d := 6) h.lm h.lq hV h.w hRT h.cut (by rw [e131, h.rb.he.1]; exact h.rb.he.2.1) _ _) rfl rfl (fun r1 I1 f1 => ?_)
  rw [e131] at f1
  refine ev_icmp_eq 706 1157 dL_law_706 rfl (fun hq => ?_) (fun hq => ?_)
  · rcases f0 with ⟨a1, a2, a3⟩ | ⟨a1, ⟨a2, a3, a4⟩ | ⟨a2, ⟨a3, a4, a5⟩ | ⟨a3, a4, a5⟩⟩⟩
    · rcases f1 with ⟨b1, b2, b3⟩ | ⟨b1, ⟨b2, b3, b4⟩ | ⟨b2, ⟨b3, b4, b5⟩ | ⟨b3, b4, b5⟩⟩⟩
      · subst a3; subst b3; exact k _ _ _ _ _ _ _ _ _ h
      all_goals exact absurd b1 a1
    · rcases f1 with ⟨b1, b2, b3⟩ | ⟨b1, ⟨b2, b3, b4⟩ | ⟨b2, ⟨b3, b4, b5⟩ | ⟨b3, b4, b5⟩⟩⟩
      · exact absurd a1 b1
      · subst a4; subst b4; exact k _ _ _ _ _ _ _ _ _ h
      all_goals exact absurd b2 a2
    · rcases f1 with ⟨b1, b2, b3⟩ | ⟨b1, ⟨b2, b3, b4⟩ | ⟨b2, ⟨b3, b4, b5⟩ | ⟨b3, b4, b5⟩⟩⟩
      · exact absurd a1 b1
      · exact absurd a2 b2
      · subst a5; subst b5; exact k _ _ _ _ _ _ _ _ _ (h.heard a1.1 a1.2 a3)
      · omega
    · rcases f1 with ⟨b1, b2, b3⟩ | ⟨b1, ⟨b2, b3, b4⟩ | ⟨b2, ⟨b3, b4, b5⟩ | ⟨b3, b4, b5⟩⟩⟩
      · exact absurd a1 b1
      · exact absurd a2 b2
      · omega
      · subst a5; subst b5; exact k _ _ _ _ _ _ _ _ _ h
  · exfalso
    rcases f0 with ⟨a1, a2, a3⟩ | ⟨a1, ⟨a2, a3, a4⟩ | ⟨a2, ⟨a3, a4, a5⟩ | ⟨a3, a4, a5⟩⟩⟩ <;> rcases f1 with ⟨b1, b2, b3⟩ | ⟨b1, ⟨b2, b3, b4⟩ | ⟨b2, ⟨b3, b4, b5⟩ | ⟨b3, b4, b5⟩⟩⟩ <;> omega
theorem b_drifted {l : Launch} {g : Gt} {T D : Nat} {α σ : Nat → Int → Int} {U V : Int → Nat → Int → Int} {Z : Zt} {I : It} {P : Pt'} {L i : Int} {X : Int → Int} {Q : Qt} (hX : SCR g L X) (hi : 0 ≤ i ∧ i + 6 ≤ L) (h : Bo T D α σ U V Z I P) (k : NXT l g Q i) : Ev l g mL 9 (2 * nn P) (194 * nn P) Z I P 912 [vS, vA 0, vA 131, vI i] [] Q := by
  have hL := hX.2.1
  have hZ := h.sn.1
  have hM := h.lm
  refine ev_aload_1 912 dL_law_912 ?_
  refine ev_aloadS_0 913 dL_law_913 ?_
  refine ev_iload_3 914 dL_law_914 ?_
  refine ev_iconst 915 dL_law_915 ⟨by decide, by decide⟩ ?_
  refine ev_iadd 916 dL_law_916 ⟨by omega, by omega⟩ ?_
  refine ev_sald 917 hX dL_law_917 ⟨by omega, by omega⟩ ?_
  refine ev_aloadS_0 918 dL_law_918 ?_
  refine ev_iload_3 919 dL_law_919 ?_
  refine ev_iconst 920 dL_law_920 ⟨by decide, by decide⟩ ?_
  refine ev_iadd 921 dL_law_921 ⟨by omega, by omega⟩ ?_
  refine ev_sald 922 hX dL_law_922 ⟨by omega, by omega⟩ ?_
  refine ev_aloadS_0 923 dL_law_923 ?_
  refine ev_iload_3 924 dL_law_924 ?_
  refine ev_iconst 925 dL_law_925 ⟨by decide, by decide⟩ ?_
  refine ev_iadd 926 dL_law_926 ⟨by omega, by omega⟩ ?_
  refine ev_sald 927 hX dL_law_927 ⟨by omega, by omega⟩ ?_
  refine ev_aloadS_0 928 dL_law_928 ?_
  refine ev_iload_3 929 dL_law_929 ?_
  refine ev_iconst 930 dL_law_930 ⟨by decide, by decide⟩ ?_
  refine ev_iadd 931 dL_law_931 ⟨by omega, by omega⟩ ?_
  refine ev_sald 932 hX dL_law_932 ⟨by omega, by omega⟩ ?_
  refine ev_cVm_4 933 dL_law_933 kmX11_drifted lk_L_122 (kd_0 hZ) (c_drifted (d := 7) h.sn h.rb.vs h.ws h.rb.dr.2.1 _ _ _ _) rfl rfl (fun r0 I0 f0 => ?_)
  have eB : ∀ a, a ≠ 112 → a ≠ 113 → a ≠ 114 → a ≠ 115 → a ≠ 116 → I0 a = I a := fun a y1 y2 y3 y4 y5 => by
    rcases f0 with ⟨-, -, z⟩ | ⟨-, ⟨-, -, z⟩ | ⟨-, -, z⟩⟩ <;> rw [z] <;> (try rw [upI_A y1, upI_A y5, upI_A y4, upI_A y3, upI_A y2])
  have e131 : I0 131 = I 131 := eB 131 (by omega) (by omega) (by omega) (by omega) (by omega)
  have hV := h.rb.vm.fr (eB 133 (by omega) (by omega) (by omega) (by omega) (by omega)) (eB 134 (by omega) (by omega) (by omega) (by omega) (by omega)) (eB 135 (by omega) (by omega) (by omega) (by omega) (by omega)) (eB 136 (by omega) (by omega) (by omega) (by omega) (by omega))
  have hn := h.rb.dr.1
  refine ev_aload_2 936 dL_law_936 ?_
  refine ev_aloadS_0 937 dL_law_937 ?_
  refine ev_iload_3 938 dL_law_938 ?_
  refine ev_iconst 939 dL_law_939 ⟨by decide, by decide⟩ ?_
  refine ev_iadd 940 dL_law_940 ⟨by omega, by omega⟩ ?_
  refine ev_sald 941 hX dL_law_941 ⟨by omega, by omega⟩ ?_
  refine ev_aloadS_0 942 dL_law_942 ?_
  refine ev_iload_3 943 dL_law_943 ?_
  refine ev_iconst 944 dL_law_944 ⟨by decide, by decide⟩ ?_
  refine ev_iadd 945 dL_law_945 ⟨by omega, by omega⟩ ?_
  refine ev_sald 946 hX dL_law_946 ⟨by omega, by omega⟩ ?_
  refine ev_aloadS_0 947 dL_law_947 ?_
  refine ev_iload_3 948 dL_law_948 ?_
  refine ev_iconst 949 dL_law_949 ⟨by decide, by decide⟩ ?_
  refine ev_iadd 950 dL_law_950 ⟨by omega, by omega⟩ ?_
  refine ev_sald 951 hX dL_law_951 ⟨by omega, by omega⟩ ?_
  refine ev_aloadS_0 952 dL_law_952 ?_
  refine ev_iload_3 953 dL_law_953 ?_
  refine ev_iconst 954 dL_law_954 ⟨by decide, by decide⟩ ?_
  refine ev_iadd 955 dL_law_955 ⟨by omega, by omega⟩ ?_
  refine ev_sald 956 hX dL_law_956 ⟨by omega, by omega⟩ ?_
  refine ev_cVm_4 957 dL_law_957 kmX12_drifted lk_L_125 (kd_131 hM) (m_drifted (d := 6) h.lm h.lq hV h.w (by rw [e131, h.rb.dr.1]; exact h.rb.dr.2.1) _ _ _ _) rfl rfl (fun r1 I1 f1 => ?_)
  rw [e131] at f1
  refine ev_icmp_eq 960 1157 dL_law_960 rfl (fun hq => ?_) (fun hq => ?_)
  · rcases f0 with ⟨a1, a2, a3⟩ | ⟨a1, ⟨a2, a3, a4⟩ | ⟨a2, a3, a4⟩⟩
    · rcases f1 with ⟨b1, b2, b3⟩ | ⟨b1, ⟨b2, b3, b4⟩ | ⟨b2, b3, b4⟩⟩
      · subst a3; subst b3; exact k _ _ _ _ _ _ _ _ _ h
      all_goals exact absurd b1 a1
    · rcases f1 with ⟨b1, b2, b3⟩ | ⟨b1, ⟨b2, b3, b4⟩ | ⟨b2, b3, b4⟩⟩
      · exact absurd a1 b1
      · subst a4; subst b4; exact k _ _ _ _ _ _ _ _ _ (h.drifted a1.2.1 a1.2.2.1 a1.2.2.2 a2)
      · omega
    · rcases f1 with ⟨b1, b2, b3⟩ | ⟨b1, ⟨b2, b3, b4⟩ | ⟨b2, b3, b4⟩⟩
      · exact absurd a1 b1
      · omega
      · subst a4; subst b4; exact k _ _ _ _ _ _ _ _ _ h
  · exfalso
    rcases f0 with ⟨a1, a2, a3⟩ | ⟨a1, ⟨a2, a3, a4⟩ | ⟨a2, a3, a4⟩⟩ <;> rcases f1 with ⟨b1, b2, b3⟩ | ⟨b1, ⟨b2, b3, b4⟩ | ⟨b2, b3, b4⟩⟩ <;> omega
theorem b_steps {l : Launch} {g : Gt} {T D : Nat} {α σ : Nat → Int → Int} {U V : Int → Nat → Int → Int} {Z : Zt} {I : It} {P : Pt'} {L i : Int} {X : Int → Int} {Q : Qt} (hX : SCR g L X) (hi : 0 ≤ i ∧ i + 6 ≤ L) (h : Bo T D α σ U V Z I P) (k : NXT l g Q i) : Ev l g mL 9 (2 * nn P) (194 * nn P) Z I P 345 [vS, vA 0, vA 131, vI i] [] Q := by
  have hL := hX.2.1
  have hZ := h.sn.1
  have hM := h.lm
  refine ev_aload_1 345 dL_law_345 ?_
  refine ev_aloadS_0 346 dL_law_346 ?_
  refine ev_iload_3 347 dL_law_347 ?_
  refine ev_iconst 348 dL_law_348 ⟨by decide, by decide⟩ ?_
  refine ev_iadd 349 dL_law_349 ⟨by omega, by omega⟩ ?_
  refine ev_sald 350 hX dL_law_350 ⟨by omega, by omega⟩ ?_
  refine ev_cVm_1 351 dL_law_351 kmX11_steps lk_L_44 (kd_0 hZ) (c_steps (d := 2) h.sn h.rb.vs h.ws h.rb.un.2.1 _) rfl rfl (fun r0 I0 f0 => ?_)
  have hu := h.rb.un.1
  have eB : ∀ a, 101 ≤ a → I0 a = I a := fun a y => by
    rcases f0 with ⟨-, -, z⟩ | ⟨-, ⟨-, -, z⟩ | ⟨-, -, z⟩⟩
    · rw [z]
    · rw [z]
    · exact z.2.2.2 a (by omega) (by omega) (by omega)
  have e131 : I0 131 = I 131 := eB 131 (by omega)
  have hV := h.rb.vm.fr (eB 133 (by omega)) (eB 134 (by omega)) (eB 135 (by omega)) (eB 136 (by omega))
  have hRS := h.rs.fr h.w h.ws.2.1.2 (I' := I0) (fun i _ _ => by rw [eB 138 (by omega)])
  have hUk : ∀ k, 0 ≤ k → k < I 25 2 → RS (42 * (3 + k)) I0 α (U k) := fun k a b => (h.rb.un.2.2 k a b).1.fr h.w (h.rb.un.2.2 k a b).2.1.2.1.2 (fun i _ _ => by rw [eB 138 (by omega)])
  refine ev_aload_2 354 dL_law_354 ?_
  refine ev_aloadS_0 355 dL_law_355 ?_
  refine ev_iload_3 356 dL_law_356 ?_
  refine ev_iconst 357 dL_law_357 ⟨by decide, by decide⟩ ?_
  refine ev_iadd 358 dL_law_358 ⟨by omega, by omega⟩ ?_
  refine ev_sald 359 hX dL_law_359 ⟨by omega, by omega⟩ ?_
  refine ev_cVm_1 360 dL_law_360 kmX12_steps lk_L_47 (kd_131 hM) (m_steps (d := 4) h.lm h.lq hV h.w hRS h.ws (U := U) (by rw [e131, hu]; exact h.rb.un.2.1.2.1) (fun k a b => hUk k a (by rw [e131, hu] at b; exact b)) (fun k a b => (h.rb.un.2.2 k a (by rw [e131, hu] at b; exact b)).2.1.2.1.2) _) rfl rfl (fun r1 I1 f1 => ?_)
  refine ev_icmp_eq 363 1157 dL_law_363 rfl (fun hq => ?_) (fun hq => ?_)
  · rcases f0 with ⟨a1, a2, a3⟩ | ⟨a1, ⟨a2, a3, a4⟩ | ⟨a2, a3, a4⟩⟩
    · rcases f1 with ⟨b1, b2, b3⟩ | ⟨b1, ⟨b2, b3, b4⟩ | ⟨b2, b3, b4⟩⟩
      · subst a3; subst b3; exact k _ _ _ _ _ _ _ _ _ h
      all_goals exact absurd b1 a1
    · rcases f1 with ⟨b1, b2, b3⟩ | ⟨b1, ⟨b2, b3, b4⟩ | ⟨b2, b3, b4⟩⟩
      · exact absurd a1 b1
      · subst a4; subst b4; exact k _ _ _ _ _ _ _ _ _ h
      · omega
    · rcases f1 with ⟨b1, b2, b3⟩ | ⟨b1, ⟨b2, b3, b4⟩ | ⟨b2, b3, b4⟩⟩
      · exact absurd a1 b1
      · omega
      · exact k _ _ _ _ _ _ _ _ _ (h.ps a4 b4 (WS.st h.w h.ws ⟨by omega, a2⟩) (h.ap.st _) (CA.st h.w h.ca _))
  · exfalso
    rcases f0 with ⟨a1, a2, a3⟩ | ⟨a1, ⟨a2, a3, a4⟩ | ⟨a2, a3, a4⟩⟩ <;> rcases f1 with ⟨b1, b2, b3⟩ | ⟨b1, ⟨b2, b3, b4⟩ | ⟨b2, b3, b4⟩⟩ <;> omega
theorem b_letGo {l : Launch} {g : Gt} {T D : Nat} {α σ : Nat → Int → Int} {U V : Int → Nat → Int → Int} {Z : Zt} {I : It} {P : Pt'} {L i : Int} {X : Int → Int} {Q : Qt} (hX : SCR g L X) (hi : 0 ≤ i ∧ i + 6 ≤ L) (h : Bo T D α σ U V Z I P) (k : NXT l g Q i) : Ev l g mL 9 (2 * nn P) (194 * nn P) Z I P 368 [vS, vA 0, vA 131, vI i] [] Q := by
  have hL := hX.2.1
  have hZ := h.sn.1
  have hM := h.lm
  refine ev_aload_1 368 dL_law_368 ?_
  refine ev_aloadS_0 369 dL_law_369 ?_
  refine ev_iload_3 370 dL_law_370 ?_
  refine ev_iconst 371 dL_law_371 ⟨by decide, by decide⟩ ?_
  refine ev_iadd 372 dL_law_372 ⟨by omega, by omega⟩ ?_
  refine ev_sald 373 hX dL_law_373 ⟨by omega, by omega⟩ ?_
  refine ev_aloadS_0 374 dL_law_374 ?_
  refine ev_iload_3 375 dL_law_375 ?_
  refine ev_iconst 376 dL_law_376 ⟨by decide, by decide⟩ ?_
  refine ev_iadd 377 dL_law_377 ⟨by omega, by omega⟩ ?_
  refine ev_sald 378 hX dL_law_378 ⟨by omega, by omega⟩ ?_
  refine ev_cVm_2 379 dL_law_379 kmX11_letGo lk_L_48 (kd_0 hZ) (c_letGo (d := 6) h.sn h.rb.vs h.ws h.rb.un.2.1 _ _) rfl rfl (fun r0 I0 f0 => ?_)
  have hu := h.rb.un.1
  have eB : ∀ a, 101 ≤ a → I0 a = I a := fun a y => by
    rcases f0 with ⟨-, -, z⟩ | ⟨-, ⟨-, -, z⟩ | ⟨-, -, -, z⟩ | ⟨-, -, -, z⟩⟩
    · rw [z]
    · rw [z]
    · rw [z]
    · exact z.2.2.2 a (by omega) (by omega) (by omega)
  have e131 : I0 131 = I 131 := eB 131 (by omega)
  have hV := h.rb.vm.fr (eB 133 (by omega)) (eB 134 (by omega)) (eB 135 (by omega)) (eB 136 (by omega))
  have hRS := h.rs.fr h.w h.ws.2.1.2 (I' := I0) (fun i _ _ => by rw [eB 138 (by omega)])
  have hUk : ∀ k, 0 ≤ k → k < I 25 2 → RS (42 * (3 + k)) I0 α (U k) := fun k a b => (h.rb.un.2.2 k a b).1.fr h.w (h.rb.un.2.2 k a b).2.1.2.1.2 (fun i _ _ => by rw [eB 138 (by omega)])
  refine ev_aload_2 382 dL_law_382 ?_
  refine ev_aloadS_0 383 dL_law_383 ?_
  refine ev_iload_3 384 dL_law_384 ?_
  refine ev_iconst 385 dL_law_385 ⟨by decide, by decide⟩ ?_
  refine ev_iadd 386 dL_law_386 ⟨by omega, by omega⟩ ?_
  refine ev_sald 387 hX dL_law_387 ⟨by omega, by omega⟩ ?_
  refine ev_aloadS_0 388 dL_law_388 ?_
  refine ev_iload_3 389 dL_law_389 ?_
  refine ev_iconst 390 dL_law_390 ⟨by decide, by decide⟩ ?_
  refine ev_iadd 391 dL_law_391 ⟨by omega, by omega⟩ ?_
  refine ev_sald 392 hX dL_law_392 ⟨by omega, by omega⟩ ?_
  refine ev_cVm_2 393 dL_law_393 kmX12_letGo lk_L_51 (kd_131 hM) (m_letGo (d := 6) h.lm h.lq hV h.w hRS h.ws (U := U) (by rw [e131, hu]; exact h.rb.un.2.1.2.1) (fun k a b => hUk k a (by rw [e131, hu] at b; exact b)) (fun k a b => (h.rb.un.2.2 k a (by rw [e131, hu] at b; exact b)).2.1.2.1.2) _ _) rfl rfl (fun r1 I1 f1 => ?_)
  refine ev_icmp_eq 396 1157 dL_law_396 rfl (fun hq => ?_) (fun hq => ?_)
  · rcases f0 with ⟨a1, a2, a3⟩ | ⟨a1, ⟨a2, a3, a4⟩ | ⟨a2, a3, a4, a5⟩ | ⟨a2, a3, a4, a5⟩⟩
    · rcases f1 with ⟨b1, b2, b3⟩ | ⟨b1, ⟨b2, b3, b4⟩ | ⟨b2, b3, b4, b5⟩ | ⟨b2, b3, b4, b5⟩⟩
      · subst a3; subst b3; exact k _ _ _ _ _ _ _ _ _ h
      all_goals exact absurd b1 a1
    · rcases f1 with ⟨b1, b2, b3⟩ | ⟨b1, ⟨b2, b3, b4⟩ | ⟨b2, b3, b4, b5⟩ | ⟨b2, b3, b4, b5⟩⟩
      · exact absurd a1 b1
      · subst a4; subst b4; exact k _ _ _ _ _ _ _ _ _ h
      all_goals exact absurd b2 a2
    · rcases f1 with ⟨b1, b2, b3⟩ | ⟨b1, ⟨b2, b3, b4⟩ | ⟨b2, b3, b4, b5⟩ | ⟨b2, b3, b4, b5⟩⟩
      · exact absurd a1 b1
      · exact absurd a2 b2
      · subst a5; subst b5; exact k _ _ _ _ _ _ _ _ _ h
      · omega
    · rcases f1 with ⟨b1, b2, b3⟩ | ⟨b1, ⟨b2, b3, b4⟩ | ⟨b2, b3, b4, b5⟩ | ⟨b2, b3, b4, b5⟩⟩
      · exact absurd a1 b1
      · exact absurd a2 b2
      · omega
      · have tw := h.w.2.2.2.2.2.2.1 _ a1.1.1 a1.1.2
        have tx := h.ws.2.2.1 _ a1.1.1 a1.1.2
        exact k _ _ _ _ _ _ _ _ _ (h.ps a5 b5 (WS.ad h.ws a3 tw.1 tx a1.2) (AP.ad h.ap) (CA.ad h.ca))
  · exfalso
    rcases f0 with ⟨a1, a2, a3⟩ | ⟨a1, ⟨a2, a3, a4⟩ | ⟨a2, a3, a4, a5⟩ | ⟨a2, a3, a4, a5⟩⟩ <;> rcases f1 with ⟨b1, b2, b3⟩ | ⟨b1, ⟨b2, b3, b4⟩ | ⟨b2, b3, b4, b5⟩ | ⟨b2, b3, b4, b5⟩⟩ <;> omega
theorem b_cut {l : Launch} {g : Gt} {T D : Nat} {α σ : Nat → Int → Int} {U V : Int → Nat → Int → Int} {Z : Zt} {I : It} {P : Pt'} {L i : Int} {X : Int → Int} {Q : Qt} (hX : SCR g L X) (hi : 0 ≤ i ∧ i + 6 ≤ L) (h : Bo T D α σ U V Z I P) (k : NXT l g Q i) : Ev l g mL 9 (2 * nn P) (194 * nn P) Z I P 434 [vS, vA 0, vA 131, vI i] [] Q := by
  have hL := hX.2.1
  have hZ := h.sn.1
  have hM := h.lm
  refine ev_aload_1 434 dL_law_434 ?_
  refine ev_aloadS_0 435 dL_law_435 ?_
  refine ev_iload_3 436 dL_law_436 ?_
  refine ev_iconst 437 dL_law_437 ⟨by decide, by decide⟩ ?_
  refine ev_iadd 438 dL_law_438 ⟨by omega, by omega⟩ ?_
  refine ev_sald 439 hX dL_law_439 ⟨by omega, by omega⟩ ?_
  refine ev_cVm_1 440 dL_law_440 kmX11_cut lk_L_56 (kd_0 hZ) (c_cut (d := 6) h.sn h.rb.vs h.ws h.rb.un.2.1 _) rfl rfl (fun r0 I0 f0 => ?_)
  have hu := h.rb.un.1
  have eB : ∀ a, 101 ≤ a → I0 a = I a := fun a y => by
    rcases f0 with ⟨-, -, z⟩ | ⟨-, ⟨-, -, z⟩ | ⟨-, -, -, z⟩ | ⟨-, -, -, z⟩⟩
    · rw [z]
    · rw [z]
    · rw [z]
    · exact z.2.2.2 a (by omega) (by omega) (by omega)
  have e131 : I0 131 = I 131 := eB 131 (by omega)
  have hV := h.rb.vm.fr (eB 133 (by omega)) (eB 134 (by omega)) (eB 135 (by omega)) (eB 136 (by omega))
  have hRS := h.rs.fr h.w h.ws.2.1.2 (I' := I0) (fun i _ _ => by rw [eB 138 (by omega)])
  have hUk : ∀ k, 0 ≤ k → k < I 25 2 → RS (42 * (3 + k)) I0 α (U k) := fun k a b => (h.rb.un.2.2 k a b).1.fr h.w (h.rb.un.2.2 k a b).2.1.2.1.2 (fun i _ _ => by rw [eB 138 (by omega)])
  refine ev_aload_2 443 dL_law_443 ?_
  refine ev_aloadS_0 444 dL_law_444 ?_
  refine ev_iload_3 445 dL_law_445 ?_
  refine ev_iconst 446 dL_law_446 ⟨by decide, by decide⟩ ?_
  refine ev_iadd 447 dL_law_447 ⟨by omega, by omega⟩ ?_
  refine ev_sald 448 hX dL_law_448 ⟨by omega, by omega⟩ ?_
  refine ev_cVm_1 449 dL_law_449 kmX12_cut lk_L_59 (kd_131 hM) (m_cut (d := 6) h.lm h.lq hV h.w hRS h.ws (U := U) (by rw [e131, hu]; exact h.rb.un.2.1.2.1) (fun k a b => hUk k a (by rw [e131, hu] at b; exact b)) (fun k a b => (h.rb.un.2.2 k a (by rw [e131, hu] at b; exact b)).2.1.2.1.2) h.ca _) rfl rfl (fun r1 I1 f1 => ?_)
  refine ev_icmp_eq 452 1157 dL_law_452 rfl (fun hq => ?_) (fun hq => ?_)
  · rcases f0 with ⟨a1, a2, a3⟩ | ⟨a1, ⟨a2, a3, a4⟩ | ⟨a2, a3, a4, a5⟩ | ⟨a2, a3, a4, a5⟩⟩
    · rcases f1 with ⟨b1, b2, b3⟩ | ⟨b1, ⟨b2, b3, b4⟩ | ⟨b2, b3, b4, b5⟩ | ⟨b2, b3, b4, b5⟩⟩
      · subst a3; subst b3; exact k _ _ _ _ _ _ _ _ _ h
      all_goals exact absurd b1 a1
    · rcases f1 with ⟨b1, b2, b3⟩ | ⟨b1, ⟨b2, b3, b4⟩ | ⟨b2, b3, b4, b5⟩ | ⟨b2, b3, b4, b5⟩⟩
      · exact absurd a1 b1
      · subst a4; subst b4; exact k _ _ _ _ _ _ _ _ _ h
      all_goals exact absurd b2 a2
    · rcases f1 with ⟨b1, b2, b3⟩ | ⟨b1, ⟨b2, b3, b4⟩ | ⟨b2, b3, b4, b5⟩ | ⟨b2, b3, b4, b5⟩⟩
      · exact absurd a1 b1
      · exact absurd a2 b2
      · subst a5; subst b5; exact k _ _ _ _ _ _ _ _ _ h
      · omega
    · rcases f1 with ⟨b1, b2, b3⟩ | ⟨b1, ⟨b2, b3, b4⟩ | ⟨b2, b3, b4, b5⟩ | ⟨b2, b3, b4, b5⟩⟩
      · exact absurd a1 b1
      · exact absurd a2 b2
      · omega
      · have tw := h.w.2.2.2.2.2.2.1 _ a1.1 a1.2
        have tx := h.ws.2.2.1 _ a1.1 a1.2
        exact k _ _ _ _ _ _ _ _ _ (h.ps a5 b5 (WS.ad (h.ws.ct _) (by rw [ct_o _ _ (by omega) (by omega)]; exact a3) tw.1 tx (by omega)) (AP.ad (h.ap.ct _)) (CA.ad (h.ca.ct _)))
  · exfalso
    rcases f0 with ⟨a1, a2, a3⟩ | ⟨a1, ⟨a2, a3, a4⟩ | ⟨a2, a3, a4, a5⟩ | ⟨a2, a3, a4, a5⟩⟩ <;> rcases f1 with ⟨b1, b2, b3⟩ | ⟨b1, ⟨b2, b3, b4⟩ | ⟨b2, b3, b4, b5⟩ | ⟨b2, b3, b4, b5⟩⟩ <;> omega
theorem b_hang {l : Launch} {g : Gt} {T D : Nat} {α σ : Nat → Int → Int} {U V : Int → Nat → Int → Int} {Z : Zt} {I : It} {P : Pt'} {L i : Int} {X : Int → Int} {Q : Qt} (hX : SCR g L X) (hi : 0 ≤ i ∧ i + 6 ≤ L) (h : Bo T D α σ U V Z I P) (k : NXT l g Q i) : Ev l g mL 9 (2 * nn P) (194 * nn P) Z I P 401 [vS, vA 0, vA 131, vI i] [] Q := by
  have hL := hX.2.1
  have hZ := h.sn.1
  have hM := h.lm
  refine ev_aload_1 401 dL_law_401 ?_
  refine ev_aloadS_0 402 dL_law_402 ?_
  refine ev_iload_3 403 dL_law_403 ?_
  refine ev_iconst 404 dL_law_404 ⟨by decide, by decide⟩ ?_
  refine ev_iadd 405 dL_law_405 ⟨by omega, by omega⟩ ?_
  refine ev_sald 406 hX dL_law_406 ⟨by omega, by omega⟩ ?_
  refine ev_aloadS_0 407 dL_law_407 ?_
  refine ev_iload_3 408 dL_law_408 ?_
  refine ev_iconst 409 dL_law_409 ⟨by decide, by decide⟩ ?_
  refine ev_iadd 410 dL_law_410 ⟨by omega, by omega⟩ ?_
  refine ev_sald 411 hX dL_law_411 ⟨by omega, by omega⟩ ?_
  refine ev_cVm_2 412 dL_law_412 kmX11_hang lk_L_52 (kd_0 hZ) (c_hang (d := 6) h.sn h.rb.vs h.ws h.rb.un.2.1 _ _) rfl rfl (fun r0 I0 f0 => ?_)
  have hu := h.rb.un.1
  have eB : ∀ a, 101 ≤ a → I0 a = I a := fun a y => by
    rcases f0 with ⟨-, -, z⟩ | ⟨-, ⟨-, -, z⟩ | ⟨-, -, z⟩⟩
    · rw [z]
    · rw [z]
    · exact z.2.2.2 a (by omega) (by omega) (by omega)
  have e131 : I0 131 = I 131 := eB 131 (by omega)
  have hV := h.rb.vm.fr (eB 133 (by omega)) (eB 134 (by omega)) (eB 135 (by omega)) (eB 136 (by omega))
  have hRS := h.rs.fr h.w h.ws.2.1.2 (I' := I0) (fun i _ _ => by rw [eB 138 (by omega)])
  have hUk : ∀ k, 0 ≤ k → k < I 25 2 → RS (42 * (3 + k)) I0 α (U k) := fun k a b => (h.rb.un.2.2 k a b).1.fr h.w (h.rb.un.2.2 k a b).2.1.2.1.2 (fun i _ _ => by rw [eB 138 (by omega)])
  refine ev_aload_2 415 dL_law_415 ?_
  refine ev_aloadS_0 416 dL_law_416 ?_
  refine ev_iload_3 417 dL_law_417 ?_
  refine ev_iconst 418 dL_law_418 ⟨by decide, by decide⟩ ?_
  refine ev_iadd 419 dL_law_419 ⟨by omega, by omega⟩ ?_
  refine ev_sald 420 hX dL_law_420 ⟨by omega, by omega⟩ ?_
  refine ev_aloadS_0 421 dL_law_421 ?_
  refine ev_iload_3 422 dL_law_422 ?_
  refine ev_iconst 423 dL_law_423 ⟨by decide, by decide⟩ ?_
  refine ev_iadd 424 dL_law_424 ⟨by omega, by omega⟩ ?_
  refine ev_sald 425 hX dL_law_425 ⟨by omega, by omega⟩ ?_
  refine ev_cVm_2 426 dL_law_426 kmX12_hang lk_L_55 (kd_131 hM) (m_hang (d := 6) h.lm h.lq hV h.w hRS h.ws (U := U) (by rw [e131, hu]; exact h.rb.un.2.1.2.1) (fun k a b => hUk k a (by rw [e131, hu] at b; exact b)) (fun k a b => (h.rb.un.2.2 k a (by rw [e131, hu] at b; exact b)).2.1.2.1.2) _ _) rfl rfl (fun r1 I1 f1 => ?_)
  refine ev_icmp_eq 429 1157 dL_law_429 rfl (fun hq => ?_) (fun hq => ?_)
  · rcases f0 with ⟨a1, a2, a3⟩ | ⟨a1, ⟨a2, a3, a4⟩ | ⟨a2, a3, a4⟩⟩
    · rcases f1 with ⟨b1, b2, b3⟩ | ⟨b1, ⟨b2, b3, b4⟩ | ⟨b2, b3, b4⟩⟩
      · subst a3; subst b3; exact k _ _ _ _ _ _ _ _ _ h
      all_goals exact absurd b1 a1
    · rcases f1 with ⟨b1, b2, b3⟩ | ⟨b1, ⟨b2, b3, b4⟩ | ⟨b2, b3, b4⟩⟩
      · exact absurd a1 b1
      · subst a4; subst b4; exact k _ _ _ _ _ _ _ _ _ h
      · exact absurd b2 a2
    · rcases f1 with ⟨b1, b2, b3⟩ | ⟨b1, ⟨b2, b3, b4⟩ | ⟨b2, b3, b4⟩⟩
      · exact absurd a1 b1
      · exact absurd a2 b2
      · exact k _ _ _ _ _ _ _ _ _ (h.ps a4 b4 (WS.hg h.ws a1.2) (AP.hg h.w h.ap a2.2.2) (CA.hg h.ca))
  · exfalso
    rcases f0 with ⟨a1, a2, a3⟩ | ⟨a1, ⟨a2, a3, a4⟩ | ⟨a2, a3, a4⟩⟩ <;> rcases f1 with ⟨b1, b2, b3⟩ | ⟨b1, ⟨b2, b3, b4⟩ | ⟨b2, b3, b4⟩⟩
    all_goals first
      | omega
      | exact absurd b1 a1
      | exact absurd a1 b1
      | exact absurd b2 a2
      | exact absurd a2 b2
