/-! a row is filled: sweeps to and fro -/
def SwI (cap : Int) (α : Nat → Int → Int) (s : Int) (β0 β : Int → Int) (pd : Int → Prop) : Prop :=
  (∀ v, 0 ≤ v → v < 192 → β v = cap ∨ Rch α s v (β v)) ∧ (∀ v, 0 ≤ v → v < 192 → 0 ≤ β v ∧ β v ≤ cap) ∧ β s = 0 ∧ (∀ v, 0 ≤ v → v < 192 → β v ≤ β0 v) ∧ ∀ v, pd v → ∀ u w, Ed α u v w → β v ≤ β0 u + w
theorem SwI.ch {cap : Int} {α : Nat → Int → Int} {s : Int} {β0 β : Int → Int} {pd pd' : Int → Prop} (h : SwI cap α s β0 β pd) (k : ∀ v, gr α v → pd' v → pd v) : SwI cap α s β0 β pd' :=
  ⟨h.1, h.2.1, h.2.2.1, h.2.2.2.1, fun v hv u w e => h.2.2.2.2 v (k v e.2.1.1 hv) u w e⟩
theorem SwI.skip {cap : Int} {α : Nat → Int → Int} {s : Int} {β0 β : Int → Int} {pd : Int → Prop} {v0 : Int} (h : SwI cap α s β0 β pd) (hv : ¬ op α v0) : SwI cap α s β0 β (fun v => pd v ∨ v = v0) :=
  ⟨h.1, h.2.1, h.2.2.1, h.2.2.2.1, fun v hp u w e => by
    rcases hp with q | q
    · exact h.2.2.2.2 v q u w e
    · subst q; exact absurd e.2.1 hv⟩
theorem SwI.keep {cap : Int} {α : Nat → Int → Int} {s : Int} {β0 β : Int → Int} {pd : Int → Prop} {l x : Int} (hW : WF α) (hl : 0 ≤ l ∧ l < α 0 1) (hx : 0 ≤ x ∧ x < α 0 0) (h : SwI cap α s β0 β pd) (hb : β (24 * l + x) ≤ im2 α β l x) : SwI cap α s β0 β (fun v => pd v ∨ v = 24 * l + x) :=
  ⟨h.1, h.2.1, h.2.2.1, h.2.2.2.1, fun v hp u w e => by
    rcases hp with q | q
    · exact h.2.2.2.2 v q u w e
    · subst q
      have h1 := im_le (β := β) hW hl hx e
      have h2 := gr_192 hW e.1
      have h3 := h.2.2.2.1 u h2.1 h2.2
      omega⟩
theorem SwI.set {α : Nat → Int → Int} {s : Int} {β0 β β' : Int → Int} {pd : Int → Prop} {l x : Int} (hW : WF α) (hl : 0 ≤ l ∧ l < α 0 1) (hx : 0 ≤ x ∧ x < α 0 0) (ho : op α (24 * l + x)) (h : SwI 1000000 α s β0 β pd) (hb : im2 α β l x < β (24 * l + x)) (h1 : β' (24 * l + x) = im2 α β l x) (h2 : ∀ v, v ≠ 24 * l + x → β' v = β v) : SwI 1000000 α s β0 β' (fun v => pd v ∨ v = 24 * l + x) := by
  have w0 := hW.1
  have w1 := hW.2.1
  have hm := (im_b (β := β) hW hl hx h.2.1).2.2
  obtain ⟨u0, w0', e0, e1⟩ := im_ed (β := β) hW hl hx ho
  have hw := Ed_w hW e0
  have hu := gr_192 hW e0.1
  have hv := h.2.1 (24 * l + x) (by omega) (by omega)
  refine ⟨fun v a b => ?_, fun v a b => ?_, ?_, fun v a b => ?_, fun v hp u w e => ?_⟩
  · by_cases q : v = 24 * l + x
    · subst q; rw [h1]; right
      rcases h.1 u0 hu.1 hu.2 with z | ⟨n, z⟩
      · have := h.2.1 u0 hu.1 hu.2; omega
      · exact ⟨n + 1, u0, w0', by rw [e1, Int.add_sub_cancel]; exact z, e0⟩
    · rw [h2 v q]; exact h.1 v a b
  · by_cases q : v = 24 * l + x
    · subst q; rw [h1]; omega
    · rw [h2 v q]; exact h.2.1 v a b
  · by_cases q : s = 24 * l + x
    · have := h.2.2.1; rw [q] at this; omega
    · rw [h2 s q]; exact h.2.2.1
  · by_cases q : v = 24 * l + x
    · subst q; rw [h1]; have := h.2.2.2.1 _ a b; omega
    · rw [h2 v q]; exact h.2.2.2.1 v a b
  · by_cases q : v = 24 * l + x
    · subst q; rw [h1]
      have h3 := im_le (β := β) hW hl hx e
      have h4 := gr_192 hW e.1
      have h5 := h.2.2.2.1 u h4.1 h4.2
      omega
    · rw [h2 v q]
      rcases hp with z | z
      · exact h.2.2.2.2 v z u w e
      · exact absurd z q
/-- the spots before a place of a sweep -/
def pdL (α : Nat → Int → Int) (dn i : Int) (v : Int) : Prop := (dn = 1 ∧ v / 24 < i) ∨ (dn = 0 ∧ α 0 1 - 1 - v / 24 < i)
def pdX (α : Nat → Int → Int) (dn i j : Int) (v : Int) : Prop := pdL α dn i v ∨ (dn = 1 ∧ v / 24 = i ∧ v % 24 < j) ∨ (dn = 0 ∧ α 0 1 - 1 - v / 24 = i ∧ α 0 0 - 1 - v % 24 < j)
/-- what a step of the sweep does -/
def ImS (α : Nat → Int → Int) (R : Nat) (I I' : It) (v B r : Int) : Prop := (I 105 v ≠ 0 ∧ r = 0 ∧ I' = I) ∨ (I 105 v = 0 ∧ B < I (R + 1) v ∧ r = 1 ∧ I' = upI I (R + 1) v B) ∨ (I 105 v = 0 ∧ I (R + 1) v ≤ B ∧ r = 0 ∧ I' = I)
theorem step_in {α : Nat → Int → Int} {R : Nat} {I I' : It} {s l x r : Int} {β0 : Int → Int} {pd : Int → Prop} (hR : R = 103 ∨ 145 ≤ R) (hW : WF α) (hl : 0 ≤ l ∧ l < α 0 1) (hx : 0 ≤ x ∧ x < α 0 0) (hsh : ∀ v, gr α v → (I 105 v = 0 ↔ ¬ mkt α v)) (h : SwI 1000000 α s β0 (I (R + 1)) pd) (hs : ImS α R I I' (24 * l + x) (im2 α (I (R + 1)) l x) r) :
    SwI 1000000 α s β0 (I' (R + 1)) (fun v => pd v ∨ v = 24 * l + x) ∧ (∀ a, a ≠ R + 1 → I' a = I a) ∧ (r = 0 → I' = I) ∧ (r = 0 ∨ r = 1) := by
  have w0 := hW.1
  have w1 := hW.2.1
  have hg : gr α (24 * l + x) := ⟨by omega, by omega, by omega⟩
  have hm := hsh _ hg
  rcases hs with ⟨h1, h2, h3⟩ | ⟨h1, h2, h3, h4⟩ | ⟨h1, h2, h3, h4⟩
  · subst h3
    exact ⟨h.skip (fun ho => h1 (hm.mpr ho.2)), fun _ _ => rfl, fun _ => rfl, Or.inl h2⟩
  · subst h4
    exact ⟨h.set hW hl hx ⟨hg, hm.mp h1⟩ h2 (upI_s _ _ _ _) (fun v hv => upI_k hv), fun a ha => upI_A ha, fun q => by omega, Or.inr h3⟩
  · subst h4
    exact ⟨h.keep hW hl hx h2, fun _ _ => rfl, fun _ => rfl, Or.inl h3⟩
theorem c_fill {l : Launch} {g : Gt} {d : Nat} {Z : Zt} {I : It} {P : Pt'} (hZ : LayC Z) (hP : LayP P) {T : Nat} (hT0 : P 4 0 = some T) (hT : IsT T) {R : Nat} (hr : RowAt Z P R) (hRT : R = 103 ∨ 145 ≤ R) {α : Nat → Int → Int} (hA : VT T I α) (hW : WF α) {s : Int} (ho : op α s) (hsh : ∀ v, gr α v → (I 105 v = 0 ↔ ¬ mkt α v)) : Mt l g mX7_fill (d + 1) 0 0 [vA 101, vA R, vI s] Z I P (QV (fun I' => (∀ v, 0 ≤ v → v < 192 → I' (R + 1) v = dS 1000000 α s v) ∧ I' R 1 = 1 ∧ (∀ j, j ≠ 1 → I' R j = I R j) ∧ ∀ a, a ≠ R → a ≠ R + 1 → I' a = I a) Z P) := by
  have w0 := hW.1
  have w1 := hW.2.1
  have hs := gr_192 hW ho.1
  have a0 := hA.at 0
  have a1 := hA.at 1
  have ht : T = 5 ∨ T = 118 := hT
  refine Mt.of kmX7_fill (ls := [vA 101, vA R, vI s, vX, vX, vX, vX, vX, vX, vX]) (fun _ => rfl) (fun _ => rfl) (okf_k (okf_k (okf_k (okf_n rfl)))) (fun hok => ?_)
  have inner1 : ∀ (I1 : It) (β0 : Int → Int) (sw' i : Int), 0 ≤ i → i < α 0 1 → β0 = I1 (R + 1) →
      (∀ (I3 : It) (bt : Int), (∀ a, a ≠ R + 1 → I3 a = I a) → SwI 1000000 α s β0 (I3 (R + 1)) (pdL α 1 (i + 1)) → (bt = 0 ∨ bt = 1) → (bt = 0 → I3 = I1) → Ev l g mX7_fill (d + 1) 0 0 Z I3 P 142 [vA 101, vA R, vI s, vI (α 0 1 - 1), vI (α 0 0 - 1), vI bt, vI sw', vI 1, vI i, vX] [] (QV (fun I' => (∀ v, 0 ≤ v → v < 192 → I' (R + 1) v = dS 1000000 α s v) ∧ I' R 1 = 1 ∧ (∀ j, j ≠ 1 → I' R j = I R j) ∧ ∀ a, a ≠ R → a ≠ R + 1 → I' a = I a) Z P)) →
      ∀ (k : Nat) (j : Int) (I3 : It) (bt : Int), 0 ≤ j → j + k = α 0 0 → (∀ a, a ≠ R + 1 → I3 a = I a) → SwI 1000000 α s β0 (I3 (R + 1)) (pdX α 1 i j) → (bt = 0 ∨ bt = 1) → (bt = 0 → I3 = I1) →
        Ev l g mX7_fill (d + 1) 0 0 Z I3 P 86 [vA 101, vA R, vI s, vI (α 0 1 - 1), vI (α 0 0 - 1), vI bt, vI sw', vI 1, vI i, vI j] [] (QV (fun I' => (∀ v, 0 ≤ v → v < 192 → I' (R + 1) v = dS 1000000 α s v) ∧ I' R 1 = 1 ∧ (∀ j, j ≠ 1 → I' R j = I R j) ∧ ∀ a, a ≠ R → a ≠ R + 1 → I' a = I a) Z P) := by
    intro I1 β0 sw' i hi0 hi1 hb0 kq k
    induction k with
    | zero =>
      intro j I3 bt h0 h1 fr sw hbt bt0
      refine ev_iload_9 86 dX7_fill_86 ?_
      refine ev_iload_4 88 dX7_fill_88 ?_
      refine ev_icmp_gt 90 142 dX7_fill_90 rfl (fun h90 => ?_) (fun h90 => ?_)
      · refine ev_forget (fg_k (fg_k (fg_k (fg_k (fg_k (fg_k (fg_k (fg_k (fg_k (fg_x fg_n)))))))))) ?_
        exact kq I3 bt fr (sw.ch (fun v hv hp => by
          obtain ⟨z1, z2, z3⟩ := hv
          unfold pdX
          unfold pdL at hp ⊢
          omega)) hbt bt0
      · exfalso; omega
    | succ k ih =>
      intro j I3 bt h0 h1 fr sw hbt bt0
      have hAI3 : VT T I3 α := fun c hc => by rw [fr _ (by omega)]; exact hA c hc
      have shI3 : ∀ v, gr α v → (I3 105 v = 0 ↔ ¬ mkt α v) := fun v hv => by rw [fr 105 (by omega)]; exact hsh v hv
      have hbd : ∀ v, 0 ≤ v → v < 192 → 0 ≤ I3 (R + 1) v ∧ I3 (R + 1) v ≤ 1000000 := sw.2.1
      refine ev_iload_9 86 dX7_fill_86 ?_
      refine ev_iload_4 88 dX7_fill_88 ?_
      refine ev_icmp_gt 90 142 dX7_fill_90 rfl (fun h90 => ?_) (fun h90 => ?_)
      · exfalso; omega
      · refine ev_aload_0 93 dX7_fill_93 ?_
        refine ev_aload_1 94 dX7_fill_94 ?_
        refine ev_getA 95 0 dX7_fill_95 fa_X7_74 hr.1 hr.2.1 rfl ?_
        refine ev_iload_7 98 dX7_fill_98 ?_
        refine ev_if_eq 100 108 dX7_fill_100 rfl (fun h100 => ?_) (fun h100 => ?_)
        · exfalso; omega
        · refine ev_iload_8 103 dX7_fill_103 ?_
          refine ev_goto 105 112 dX7_fill_105 rfl ?_
          refine ev_iload_7 112 dX7_fill_112 ?_
          refine ev_if_eq 114 122 dX7_fill_114 rfl (fun h114 => ?_) (fun h114 => ?_)
          · exfalso; omega
          · refine ev_iload_9 117 dX7_fill_117 ?_
            refine ev_goto 119 127 dX7_fill_119 rfl ?_
            refine ev_cVm_3 127 dX7_fill_127 kmX7_improve lk_X7_77 (kd_101 hZ) (c_improve hZ hP hT0 hT hr hRT hAI3 hW (by omega) (by omega) hbd) rfl rfl (fun x127 I127 f127 => ?_)
            obtain ⟨q1, q2, q3, q4⟩ := step_in (l := i) (x := j) hRT hW (by omega) (by omega) shI3 sw f127
            have sw2 : SwI 1000000 α s β0 (I127 (R + 1)) (pdX α 1 i (j + 1)) := q1.ch (fun v hv hp => by
              obtain ⟨z1, z2, z3⟩ := hv
              unfold pdX pdL at hp ⊢
              omega)
            have fr2 : ∀ a, a ≠ R + 1 → I127 a = I a := fun a ha => by rw [q2 a ha]; exact fr a ha
            refine ev_if_eq 130 136 dX7_fill_130 rfl (fun h130 => ?_) (fun h130 => ?_)
            · refine ev_iinc_9 136 dX7_fill_136 ⟨by omega, by omega⟩ rfl rfl ?_
              refine ev_goto 139 86 dX7_fill_139 rfl ?_
              first
                | exact ih _ _ _ (by omega) (by omega) fr2 sw2 (Or.inr rfl) (fun z => by omega)
                | exact ih _ _ _ (by omega) (by omega) fr2 sw2 hbt (fun z => by rw [q3 (by assumption)]; exact bt0 z)
            · refine ev_iconst 133 dX7_fill_133 ⟨by decide, by decide⟩ ?_
              refine ev_istore_5 134 dX7_fill_134 rfl rfl ?_
              refine ev_iinc_9 136 dX7_fill_136 ⟨by omega, by omega⟩ rfl rfl ?_
              refine ev_goto 139 86 dX7_fill_139 rfl ?_
              first
                | exact ih _ _ _ (by omega) (by omega) fr2 sw2 (Or.inr rfl) (fun z => by omega)
                | exact ih _ _ _ (by omega) (by omega) fr2 sw2 hbt (fun z => by rw [q3 (by assumption)]; exact bt0 z)
  have inner0 : ∀ (I1 : It) (β0 : Int → Int) (sw' i : Int), 0 ≤ i → i < α 0 1 → β0 = I1 (R + 1) →
      (∀ (I3 : It) (bt : Int), (∀ a, a ≠ R + 1 → I3 a = I a) → SwI 1000000 α s β0 (I3 (R + 1)) (pdL α 0 (i + 1)) → (bt = 0 ∨ bt = 1) → (bt = 0 → I3 = I1) → Ev l g mX7_fill (d + 1) 0 0 Z I3 P 142 [vA 101, vA R, vI s, vI (α 0 1 - 1), vI (α 0 0 - 1), vI bt, vI sw', vI 0, vI i, vX] [] (QV (fun I' => (∀ v, 0 ≤ v → v < 192 → I' (R + 1) v = dS 1000000 α s v) ∧ I' R 1 = 1 ∧ (∀ j, j ≠ 1 → I' R j = I R j) ∧ ∀ a, a ≠ R → a ≠ R + 1 → I' a = I a) Z P)) →
      ∀ (k : Nat) (j : Int) (I3 : It) (bt : Int), 0 ≤ j → j + k = α 0 0 → (∀ a, a ≠ R + 1 → I3 a = I a) → SwI 1000000 α s β0 (I3 (R + 1)) (pdX α 0 i j) → (bt = 0 ∨ bt = 1) → (bt = 0 → I3 = I1) →
        Ev l g mX7_fill (d + 1) 0 0 Z I3 P 86 [vA 101, vA R, vI s, vI (α 0 1 - 1), vI (α 0 0 - 1), vI bt, vI sw', vI 0, vI i, vI j] [] (QV (fun I' => (∀ v, 0 ≤ v → v < 192 → I' (R + 1) v = dS 1000000 α s v) ∧ I' R 1 = 1 ∧ (∀ j, j ≠ 1 → I' R j = I R j) ∧ ∀ a, a ≠ R → a ≠ R + 1 → I' a = I a) Z P) := by
    intro I1 β0 sw' i hi0 hi1 hb0 kq k
    induction k with
    | zero =>
      intro j I3 bt h0 h1 fr sw hbt bt0
      refine ev_iload_9 86 dX7_fill_86 ?_
      refine ev_iload_4 88 dX7_fill_88 ?_
      refine ev_icmp_gt 90 142 dX7_fill_90 rfl (fun h90 => ?_) (fun h90 => ?_)
      · refine ev_forget (fg_k (fg_k (fg_k (fg_k (fg_k (fg_k (fg_k (fg_k (fg_k (fg_x fg_n)))))))))) ?_
        exact kq I3 bt fr (sw.ch (fun v hv hp => by
          obtain ⟨z1, z2, z3⟩ := hv
          unfold pdX
          unfold pdL at hp ⊢
          omega)) hbt bt0
      · exfalso; omega
    | succ k ih =>
      intro j I3 bt h0 h1 fr sw hbt bt0
      have hAI3 : VT T I3 α := fun c hc => by rw [fr _ (by omega)]; exact hA c hc
      have shI3 : ∀ v, gr α v → (I3 105 v = 0 ↔ ¬ mkt α v) := fun v hv => by rw [fr 105 (by omega)]; exact hsh v hv
      have hbd : ∀ v, 0 ≤ v → v < 192 → 0 ≤ I3 (R + 1) v ∧ I3 (R + 1) v ≤ 1000000 := sw.2.1
      refine ev_iload_9 86 dX7_fill_86 ?_
      refine ev_iload_4 88 dX7_fill_88 ?_
      refine ev_icmp_gt 90 142 dX7_fill_90 rfl (fun h90 => ?_) (fun h90 => ?_)
      · exfalso; omega
      · refine ev_aload_0 93 dX7_fill_93 ?_
        refine ev_aload_1 94 dX7_fill_94 ?_
        refine ev_getA 95 0 dX7_fill_95 fa_X7_74 hr.1 hr.2.1 rfl ?_
        refine ev_iload_7 98 dX7_fill_98 ?_
        refine ev_if_eq 100 108 dX7_fill_100 rfl (fun h100 => ?_) (fun h100 => ?_)
        · refine ev_iload_3 108 dX7_fill_108 ?_
          refine ev_iload_8 109 dX7_fill_109 ?_
          refine ev_isub 111 dX7_fill_111 ⟨by omega, by omega⟩ ?_
          refine ev_iload_7 112 dX7_fill_112 ?_
          refine ev_if_eq 114 122 dX7_fill_114 rfl (fun h114 => ?_) (fun h114 => ?_)
          · refine ev_iload_4 122 dX7_fill_122 ?_
            refine ev_iload_9 124 dX7_fill_124 ?_
            refine ev_isub 126 dX7_fill_126 ⟨by omega, by omega⟩ ?_
            refine ev_cVm_3 127 dX7_fill_127 kmX7_improve lk_X7_77 (kd_101 hZ) (c_improve hZ hP hT0 hT hr hRT hAI3 hW (by omega) (by omega) hbd) rfl rfl (fun x127 I127 f127 => ?_)
            obtain ⟨q1, q2, q3, q4⟩ := step_in (l := (α 0 1 - 1 - i)) (x := (α 0 0 - 1 - j)) hRT hW (by omega) (by omega) shI3 sw f127
            have sw2 : SwI 1000000 α s β0 (I127 (R + 1)) (pdX α 0 i (j + 1)) := q1.ch (fun v hv hp => by
              obtain ⟨z1, z2, z3⟩ := hv
              unfold pdX pdL at hp ⊢
              omega)
            have fr2 : ∀ a, a ≠ R + 1 → I127 a = I a := fun a ha => by rw [q2 a ha]; exact fr a ha
            refine ev_if_eq 130 136 dX7_fill_130 rfl (fun h130 => ?_) (fun h130 => ?_)
            · refine ev_iinc_9 136 dX7_fill_136 ⟨by omega, by omega⟩ rfl rfl ?_
              refine ev_goto 139 86 dX7_fill_139 rfl ?_
              first
                | exact ih _ _ _ (by omega) (by omega) fr2 sw2 (Or.inr rfl) (fun z => by omega)
                | exact ih _ _ _ (by omega) (by omega) fr2 sw2 hbt (fun z => by rw [q3 (by assumption)]; exact bt0 z)
            · refine ev_iconst 133 dX7_fill_133 ⟨by decide, by decide⟩ ?_
              refine ev_istore_5 134 dX7_fill_134 rfl rfl ?_
              refine ev_iinc_9 136 dX7_fill_136 ⟨by omega, by omega⟩ rfl rfl ?_
              refine ev_goto 139 86 dX7_fill_139 rfl ?_
              first
                | exact ih _ _ _ (by omega) (by omega) fr2 sw2 (Or.inr rfl) (fun z => by omega)
                | exact ih _ _ _ (by omega) (by omega) fr2 sw2 hbt (fun z => by rw [q3 (by assumption)]; exact bt0 z)
          · exfalso; omega
        · exfalso; omega
  have sweep1 : ∀ (I1 : It) (β0 : Int → Int) (sw' : Int), β0 = I1 (R + 1) →
      (∀ (I3 : It) (bt : Int), (∀ a, a ≠ R + 1 → I3 a = I a) → SwI 1000000 α s β0 (I3 (R + 1)) (fun v => gr α v) → (bt = 0 ∨ bt = 1) → (bt = 0 → I3 = I1) → Ev l g mX7_fill (d + 1) 0 0 Z I3 P 148 [vA 101, vA R, vI s, vI (α 0 1 - 1), vI (α 0 0 - 1), vI bt, vI sw', vX, vX, vX] [] (QV (fun I' => (∀ v, 0 ≤ v → v < 192 → I' (R + 1) v = dS 1000000 α s v) ∧ I' R 1 = 1 ∧ (∀ j, j ≠ 1 → I' R j = I R j) ∧ ∀ a, a ≠ R → a ≠ R + 1 → I' a = I a) Z P)) →
      ∀ (k : Nat) (i : Int) (I3 : It) (bt : Int), 0 ≤ i → i + k = α 0 1 → (∀ a, a ≠ R + 1 → I3 a = I a) → SwI 1000000 α s β0 (I3 (R + 1)) (pdL α 1 i) → (bt = 0 ∨ bt = 1) → (bt = 0 → I3 = I1) →
        Ev l g mX7_fill (d + 1) 0 0 Z I3 P 77 [vA 101, vA R, vI s, vI (α 0 1 - 1), vI (α 0 0 - 1), vI bt, vI sw', vI 1, vI i, vX] [] (QV (fun I' => (∀ v, 0 ≤ v → v < 192 → I' (R + 1) v = dS 1000000 α s v) ∧ I' R 1 = 1 ∧ (∀ j, j ≠ 1 → I' R j = I R j) ∧ ∀ a, a ≠ R → a ≠ R + 1 → I' a = I a) Z P) := by
    intro I1 β0 sw' hb0 kq k
    induction k with
    | zero =>
      intro i I3 bt h0 h1 fr sw hbt bt0
      refine ev_iload_8 77 dX7_fill_77 ?_
      refine ev_iload_3 79 dX7_fill_79 ?_
      refine ev_icmp_gt 80 148 dX7_fill_80 rfl (fun h80 => ?_) (fun h80 => ?_)
      · refine ev_forget (fg_k (fg_k (fg_k (fg_k (fg_k (fg_k (fg_k (fg_x (fg_x (fg_k fg_n)))))))))) ?_
        exact kq I3 bt fr (sw.ch (fun v hv _ => by
          obtain ⟨z1, z2, z3⟩ := hv
          unfold pdL
          omega)) hbt bt0
      · exfalso; omega
    | succ k ih =>
      intro i I3 bt h0 h1 fr sw hbt bt0
      refine ev_iload_8 77 dX7_fill_77 ?_
      refine ev_iload_3 79 dX7_fill_79 ?_
      refine ev_icmp_gt 80 148 dX7_fill_80 rfl (fun h80 => ?_) (fun h80 => ?_)
      · exfalso; omega
      · refine ev_iconst 83 dX7_fill_83 ⟨by decide, by decide⟩ ?_
        refine ev_istore_9 84 dX7_fill_84 rfl rfl ?_
        refine inner1 I1 β0 sw' i h0 (by omega) hb0 (fun I4 bt4 g1 g2 g3 g4 => ?_) (α 0 0).toNat 0 I3 bt (by omega) (by omega) fr (sw.ch (fun v hv hp => by
          obtain ⟨z1, z2, z3⟩ := hv
          unfold pdX at hp
          unfold pdL at hp ⊢
          omega)) hbt bt0
        refine ev_iinc_8 142 dX7_fill_142 ⟨by omega, by omega⟩ rfl rfl ?_
        refine ev_goto 145 77 dX7_fill_145 rfl ?_
        exact ih (i + 1) I4 bt4 (by omega) (by omega) g1 g2 g3 g4
  have sweep0 : ∀ (I1 : It) (β0 : Int → Int) (sw' : Int), β0 = I1 (R + 1) →
      (∀ (I3 : It) (bt : Int), (∀ a, a ≠ R + 1 → I3 a = I a) → SwI 1000000 α s β0 (I3 (R + 1)) (fun v => gr α v) → (bt = 0 ∨ bt = 1) → (bt = 0 → I3 = I1) → Ev l g mX7_fill (d + 1) 0 0 Z I3 P 148 [vA 101, vA R, vI s, vI (α 0 1 - 1), vI (α 0 0 - 1), vI bt, vI sw', vX, vX, vX] [] (QV (fun I' => (∀ v, 0 ≤ v → v < 192 → I' (R + 1) v = dS 1000000 α s v) ∧ I' R 1 = 1 ∧ (∀ j, j ≠ 1 → I' R j = I R j) ∧ ∀ a, a ≠ R → a ≠ R + 1 → I' a = I a) Z P)) →
      ∀ (k : Nat) (i : Int) (I3 : It) (bt : Int), 0 ≤ i → i + k = α 0 1 → (∀ a, a ≠ R + 1 → I3 a = I a) → SwI 1000000 α s β0 (I3 (R + 1)) (pdL α 0 i) → (bt = 0 ∨ bt = 1) → (bt = 0 → I3 = I1) →
        Ev l g mX7_fill (d + 1) 0 0 Z I3 P 77 [vA 101, vA R, vI s, vI (α 0 1 - 1), vI (α 0 0 - 1), vI bt, vI sw', vI 0, vI i, vX] [] (QV (fun I' => (∀ v, 0 ≤ v → v < 192 → I' (R + 1) v = dS 1000000 α s v) ∧ I' R 1 = 1 ∧ (∀ j, j ≠ 1 → I' R j = I R j) ∧ ∀ a, a ≠ R → a ≠ R + 1 → I' a = I a) Z P) := by
    intro I1 β0 sw' hb0 kq k
    induction k with
    | zero =>
      intro i I3 bt h0 h1 fr sw hbt bt0
      refine ev_iload_8 77 dX7_fill_77 ?_
      refine ev_iload_3 79 dX7_fill_79 ?_
      refine ev_icmp_gt 80 148 dX7_fill_80 rfl (fun h80 => ?_) (fun h80 => ?_)
      · refine ev_forget (fg_k (fg_k (fg_k (fg_k (fg_k (fg_k (fg_k (fg_x (fg_x (fg_k fg_n)))))))))) ?_
        exact kq I3 bt fr (sw.ch (fun v hv _ => by
          obtain ⟨z1, z2, z3⟩ := hv
          unfold pdL
          omega)) hbt bt0
      · exfalso; omega
    | succ k ih =>
      intro i I3 bt h0 h1 fr sw hbt bt0
      refine ev_iload_8 77 dX7_fill_77 ?_
      refine ev_iload_3 79 dX7_fill_79 ?_
      refine ev_icmp_gt 80 148 dX7_fill_80 rfl (fun h80 => ?_) (fun h80 => ?_)
      · exfalso; omega
      · refine ev_iconst 83 dX7_fill_83 ⟨by decide, by decide⟩ ?_
        refine ev_istore_9 84 dX7_fill_84 rfl rfl ?_
        refine inner0 I1 β0 sw' i h0 (by omega) hb0 (fun I4 bt4 g1 g2 g3 g4 => ?_) (α 0 0).toNat 0 I3 bt (by omega) (by omega) fr (sw.ch (fun v hv hp => by
          obtain ⟨z1, z2, z3⟩ := hv
          unfold pdX at hp
          unfold pdL at hp ⊢
          omega)) hbt bt0
        refine ev_iinc_8 142 dX7_fill_142 ⟨by omega, by omega⟩ rfl rfl ?_
        refine ev_goto 145 77 dX7_fill_145 rfl ?_
        exact ih (i + 1) I4 bt4 (by omega) (by omega) g1 g2 g3 g4
  have fin : ∀ (I1 : It) (f5 f6 : Vv), (∀ a, a ≠ R + 1 → I1 a = I a) → (∀ v, 0 ≤ v → v < 192 → I1 (R + 1) v = dS 1000000 α s v) → Ev l g mX7_fill (d + 1) 0 0 Z I1 P 154 [vA 101, vA R, vI s, vI (α 0 1 - 1), vI (α 0 0 - 1), f5, f6, vX, vX, vX] [] (QV (fun I' => (∀ v, 0 ≤ v → v < 192 → I' (R + 1) v = dS 1000000 α s v) ∧ I' R 1 = 1 ∧ (∀ j, j ≠ 1 → I' R j = I R j) ∧ ∀ a, a ≠ R → a ≠ R + 1 → I' a = I a) Z P) := by
    intro I1 f5 f6 fr hD
    refine ev_aload_1 154 dX7_fill_154 ?_
    refine ev_iconst 155 dX7_fill_155 ⟨by decide, by decide⟩ ?_
    refine ev_pZ 156 1 1 dX7_fill_156 fp_X7_33 hr.1 (by omega) rfl rfl ?_
    refine ev_vret 159 dX7_fill_159 ?_ rfl
    exact QV_of ⟨fun v a b => by rw [upI_a (by omega)]; exact hD v a b, upI_s _ _ _ _, fun j hj => by rw [upI_k hj, fr R (by omega)], fun a ha hb => by rw [upI_A ha]; exact fr a hb⟩
  have loop : ∀ (k : Nat) (sw' : Int) (I1 : It) (bt : Int), 0 ≤ sw' → sw' + k = 193 → (∀ a, a ≠ R + 1 → I1 a = I a) → SwI 1000000 α s (I1 (R + 1)) (I1 (R + 1)) (fun _ => False) → (bt = 0 ∨ bt = 1) → (bt = 0 → ∀ v, 0 ≤ v → v < 192 → I1 (R + 1) v = dS 1000000 α s v) → (Uns 1000000 α s (I1 (R + 1)) = 0 ∨ Uns 1000000 α s (I1 (R + 1)) + sw' ≤ 192) →
      Ev l g mX7_fill (d + 1) 0 0 Z I1 P 44 [vA 101, vA R, vI s, vI (α 0 1 - 1), vI (α 0 0 - 1), vI bt, vI sw', vX, vX, vX] [] (QV (fun I' => (∀ v, 0 ≤ v → v < 192 → I' (R + 1) v = dS 1000000 α s v) ∧ I' R 1 = 1 ∧ (∀ j, j ≠ 1 → I' R j = I R j) ∧ ∀ a, a ≠ R → a ≠ R + 1 → I' a = I a) Z P) := by
    intro k
    induction k with
    | zero =>
      intro sw' I1 bt h0 h1 fr sw hbt bt0 hu
      have hD : ∀ v, 0 ≤ v → v < 192 → I1 (R + 1) v = dS 1000000 α s v := Uns_0 (by have := Uns_r (cap := 1000000) (α := α) (s := s) (β := I1 (R + 1)); omega)
      refine ev_iload_5 44 dX7_fill_44 ?_
      refine ev_if_eq 46 154 dX7_fill_46 rfl (fun h46 => ?_) (fun h46 => ?_)
      · exact fin I1 _ _ fr hD
      · refine ev_iload_6 49 dX7_fill_49 ?_
        refine ev_sipush 51 dX7_fill_51 ⟨by decide, by decide⟩ ?_
        refine ev_icmp_gt 54 154 dX7_fill_54 rfl (fun h54 => ?_) (fun h54 => ?_)
        · exact fin I1 _ _ fr hD
        · exfalso; omega
    | succ k ih =>
      intro sw' I1 bt h0 h1 fr sw hbt bt0 hu
      have next : ∀ (I3 : It) (bt3 : Int), (∀ a, a ≠ R + 1 → I3 a = I a) → SwI 1000000 α s (I1 (R + 1)) (I3 (R + 1)) (fun v => gr α v) → (bt3 = 0 ∨ bt3 = 1) → (bt3 = 0 → I3 = I1) → Ev l g mX7_fill (d + 1) 0 0 Z I3 P 148 [vA 101, vA R, vI s, vI (α 0 1 - 1), vI (α 0 0 - 1), vI bt3, vI sw', vX, vX, vX] [] (QV (fun I' => (∀ v, 0 ≤ v → v < 192 → I' (R + 1) v = dS 1000000 α s v) ∧ I' R 1 = 1 ∧ (∀ j, j ≠ 1 → I' R j = I R j) ∧ ∀ a, a ≠ R → a ≠ R + 1 → I' a = I a) Z P) := by
        intro I3 bt3 g1 g2 g3 g4
        have hSw : Sw 1000000 α s (I1 (R + 1)) (I3 (R + 1)) := ⟨g2.1, g2.2.2.2.1, fun u v w e => g2.2.2.2.2 v e.2.1.1 u w e⟩
        have hun := sweep_u hW (by omega) sw.1 (fun v a b => (sw.2.1 v a b).2) (fun _ => sw.2.2.1) hSw
        have hur := Uns_r (cap := 1000000) (α := α) (s := s) (β := I3 (R + 1))
        refine ev_iinc_6 148 dX7_fill_148 ⟨by omega, by omega⟩ rfl rfl ?_
        refine ev_goto 151 44 dX7_fill_151 rfl ?_
        exact ih _ I3 bt3 (by omega) (by omega) g1 ⟨g2.1, g2.2.1, g2.2.2.1, fun _ _ _ => Int.le_refl _, fun _ h => h.elim⟩ g3 (fun z => by
          have e := g4 z
          rw [e] at hSw ⊢
          exact fix_d hW sw.1 (fun v a b => (sw.2.1 v a b).2) (fun _ => sw.2.2.1) hSw.2.2) (by omega)
      have start : ∀ dn : Int, SwI 1000000 α s (I1 (R + 1)) (I1 (R + 1)) (pdL α dn 0) := fun dn => sw.ch (fun v hv hp => by
        obtain ⟨z1, z2, z3⟩ := hv
        unfold pdL at hp
        omega)
      refine ev_iload_5 44 dX7_fill_44 ?_
      refine ev_if_eq 46 154 dX7_fill_46 rfl (fun h46 => ?_) (fun h46 => ?_)
      · first | exact fin I1 _ _ fr (bt0 (by assumption)) | (exfalso; omega)
      · refine ev_iload_6 49 dX7_fill_49 ?_
        refine ev_sipush 51 dX7_fill_51 ⟨by decide, by decide⟩ ?_
        refine ev_icmp_gt 54 154 dX7_fill_54 rfl (fun h54 => ?_) (fun h54 => ?_)
        · first | exact fin I1 _ _ fr (bt0 (by assumption)) | (exfalso; omega)
        · refine ev_iload_6 57 dX7_fill_57 ?_
          refine ev_iconst 59 dX7_fill_59 ⟨by decide, by decide⟩ ?_
          refine ev_irem 60 dX7_fill_60 (by omega) ?_
          refine ev_zne 61 68 dX7_fill_61 rfl (fun h61 => ?_) (fun h61 => ?_)
          · refine ev_iconst 68 dX7_fill_68 ⟨by decide, by decide⟩ ?_
            refine ev_istore_7 69 dX7_fill_69 rfl rfl ?_
            refine ev_iconst 71 dX7_fill_71 ⟨by decide, by decide⟩ ?_
            refine ev_istore_5 72 dX7_fill_72 rfl rfl ?_
            refine ev_iconst 74 dX7_fill_74 ⟨by decide, by decide⟩ ?_
            refine ev_istore_8 75 dX7_fill_75 rfl rfl ?_
            first
              | exact sweep1 I1 _ sw' rfl next (α 0 1).toNat 0 I1 0 (by omega) (by omega) fr (start 1) (Or.inl rfl) (fun _ => rfl)
              | exact sweep0 I1 _ sw' rfl next (α 0 1).toNat 0 I1 0 (by omega) (by omega) fr (start 0) (Or.inl rfl) (fun _ => rfl)
          · refine ev_iconst 64 dX7_fill_64 ⟨by decide, by decide⟩ ?_
            refine ev_goto 65 69 dX7_fill_65 rfl ?_
            refine ev_istore_7 69 dX7_fill_69 rfl rfl ?_
            refine ev_iconst 71 dX7_fill_71 ⟨by decide, by decide⟩ ?_
            refine ev_istore_5 72 dX7_fill_72 rfl rfl ?_
            refine ev_iconst 74 dX7_fill_74 ⟨by decide, by decide⟩ ?_
            refine ev_istore_8 75 dX7_fill_75 rfl rfl ?_
            first
              | exact sweep1 I1 _ sw' rfl next (α 0 1).toNat 0 I1 0 (by omega) (by omega) fr (start 1) (Or.inl rfl) (fun _ => rfl)
              | exact sweep0 I1 _ sw' rfl next (α 0 1).toNat 0 I1 0 (by omega) (by omega) fr (start 0) (Or.inl rfl) (fun _ => rfl)
  refine ev_aload_0 0 dX7_fill_0 ?_
  refine ev_getA 1 0 dX7_fill_1 fa_X7_26 (kd_101 hZ) (pr_101_0 hP) rfl ?_
  refine ev_getA 4 0 dX7_fill_4 fa_X7_37 (kd_4 hZ) hT0 rfl ?_
  refine ev_gI 7 1 1 dX7_fill_7 fa_X7_68 (kdT_0 hZ hT) rfl rfl rfl ?_
  try simp only [a0, a1]
  refine ev_iconst 10 dX7_fill_10 ⟨by decide, by decide⟩ ?_
  refine ev_isub 11 dX7_fill_11 ⟨by omega, by omega⟩ ?_
  refine ev_istore_3 12 dX7_fill_12 rfl rfl ?_
  refine ev_aload_0 13 dX7_fill_13 ?_
  refine ev_getA 14 0 dX7_fill_14 fa_X7_26 (kd_101 hZ) (pr_101_0 hP) rfl ?_
  refine ev_getA 17 0 dX7_fill_17 fa_X7_37 (kd_4 hZ) hT0 rfl ?_
  refine ev_gI 20 0 0 dX7_fill_20 fa_X7_71 (kdT_0 hZ hT) rfl rfl rfl ?_
  try simp only [a0, a1]
  refine ev_iconst 23 dX7_fill_23 ⟨by decide, by decide⟩ ?_
  refine ev_isub 24 dX7_fill_24 ⟨by omega, by omega⟩ ?_
  refine ev_istore_4 25 dX7_fill_25 rfl rfl ?_
  refine ev_aload_1 27 dX7_fill_27 ?_
  refine ev_cVv_0 28 dX7_fill_28 kmX5_silence lk_X7_30 hr.1 (c_silence hr) rfl rfl (fun I28 f28 => ?_)
  obtain ⟨c1, c2⟩ := f28
  refine ev_aload_1 31 dX7_fill_31 ?_
  refine ev_getA 32 0 dX7_fill_32 fa_X7_74 hr.1 hr.2.1 rfl ?_
  refine ev_iload_2 35 dX7_fill_35 ?_
  refine ev_iconst 36 dX7_fill_36 ⟨by decide, by decide⟩ ?_
  refine ev_iast 37 dX7_fill_37 hr.2.2.1 ⟨by omega, by have := hr.2.2.2; omega⟩ ?_
  refine ev_iconst 38 dX7_fill_38 ⟨by decide, by decide⟩ ?_
  refine ev_istore_5 39 dX7_fill_39 rfl rfl ?_
  refine ev_iconst 41 dX7_fill_41 ⟨by decide, by decide⟩ ?_
  refine ev_istore_6 42 dX7_fill_42 rfl rfl ?_
  refine loop 193 0 _ 1 (by omega) (by omega) (fun a ha => by rw [upI_A ha]; exact c2 a ha) ⟨fun v a b => ?_, fun v a b => ?_, upI_s _ _ _ _, fun _ _ _ => Int.le_refl _, fun _ h => h.elim⟩ (Or.inr rfl) (fun z => by omega) (Or.inr (by have := Uns_r (cap := 1000000) (α := α) (s := s) (β := upI I28 (R + 1) s 0 (R + 1)); omega))
  · by_cases e : v = s
    · subst e; rw [upI_s]; exact Or.inr ⟨0, rfl, rfl, ho⟩
    · rw [upI_k e]; exact Or.inl (c1 v a b)
  · by_cases e : v = s
    · subst e; rw [upI_s]; omega
    · rw [upI_k e, c1 v a b]; omega
