/-! sound spreads: one spot, a sweep, all -/
def nbR (α : Nat → Int → Int) (l x : Int) : Int := if x + 1 < α 0 0 then 24 * l + x + 1 else 24 * l + x - x
def nbL (α : Nat → Int → Int) (l x : Int) : Int := if 0 < x then 24 * l + x - 1 else 24 * l + x + α 0 0 - 1
def im0 (α : Nat → Int → Int) (β : Int → Int) (l x : Int) : Int := if β (nbR α l x) < β (nbL α l x) then β (nbR α l x) + 1 else β (nbL α l x) + 1
def im1 (α : Nat → Int → Int) (β : Int → Int) (l x : Int) : Int := if 0 < l ∧ β (24 * l + x - 24) + α 3 (l - 1) < im0 α β l x then β (24 * l + x - 24) + α 3 (l - 1) else im0 α β l x
def im2 (α : Nat → Int → Int) (β : Int → Int) (l x : Int) : Int := if l + 1 < α 0 1 ∧ β (24 * l + x + 24) + α 3 l < im1 α β l x then β (24 * l + x + 24) + α 3 l else im1 α β l x
theorem im0_r {α : Nat → Int → Int} {β : Int → Int} {l x : Int} (hW : WF α) (hl : 0 ≤ l ∧ l < α 0 1) (hx : 0 ≤ x ∧ x < α 0 0) : (0 ≤ nbR α l x ∧ nbR α l x < 192) ∧ (0 ≤ nbL α l x ∧ nbL α l x < 192) := by
  have := hW.1
  have := hW.2.1
  unfold nbR nbL
  constructor <;> split <;> omega
theorem im_b {α : Nat → Int → Int} {β : Int → Int} {l x : Int} (hW : WF α) (hl : 0 ≤ l ∧ l < α 0 1) (hx : 0 ≤ x ∧ x < α 0 0) (hb : ∀ v, 0 ≤ v → v < 192 → 0 ≤ β v ∧ β v ≤ 1000000) : (0 ≤ im0 α β l x ∧ im0 α β l x ≤ 1000001) ∧ (0 ≤ im1 α β l x ∧ im1 α β l x ≤ 1000001) ∧ (0 ≤ im2 α β l x ∧ im2 α β l x ≤ 1000001) := by
  have h0 := im0_r (β := β) hW hl hx
  have h1 := hb _ h0.1.1 h0.1.2
  have h2 := hb _ h0.2.1 h0.2.2
  have w0 := hW.1
  have w1 := hW.2.1
  have a0 : 0 ≤ im0 α β l x ∧ im0 α β l x ≤ 1000001 := by unfold im0; split <;> omega
  have a1 : 0 ≤ im1 α β l x ∧ im1 α β l x ≤ 1000001 := by
    unfold im1; split
    · have := hW.2.2.2.2.2.1 (l - 1) (by omega) (by omega)
      have := hb (24 * l + x - 24) (by omega) (by omega)
      omega
    · exact a0
  refine ⟨a0, a1, ?_⟩
  unfold im2; split
  · have := hW.2.2.2.2.2.1 l (by omega) (by omega)
    have := hb (24 * l + x + 24) (by omega) (by omega)
    omega
  · exact a1
/-- the best is by an edge; it is no more than by any -/
theorem im_ed {α : Nat → Int → Int} {β : Int → Int} {l x : Int} (hW : WF α) (hl : 0 ≤ l ∧ l < α 0 1) (hx : 0 ≤ x ∧ x < α 0 0) (ho : op α (24 * l + x)) : ∃ u w, Ed α u (24 * l + x) w ∧ im2 α β l x = β u + w := by
  have w0 := hW.1
  have w1 := hW.2.1
  have d1 : (24 * l + x) / 24 = l := by omega
  have d2 : (24 * l + x) % 24 = x := by omega
  have e0 : ∃ u w, Ed α u (24 * l + x) w ∧ im0 α β l x = β u + w := by
    unfold im0; split
    · refine ⟨nbR α l x, 1, ⟨?_, ho, Or.inl ⟨?_, ?_, rfl⟩⟩, rfl⟩
      · unfold nbR gr; split <;> omega
      · rw [d1]; unfold nbR; split <;> omega
      · right; rw [d2]; unfold nbR nx; split <;> omega
    · refine ⟨nbL α l x, 1, ⟨?_, ho, Or.inl ⟨?_, ?_, rfl⟩⟩, rfl⟩
      · unfold nbL gr; split <;> omega
      · rw [d1]; unfold nbL; split <;> omega
      · left; rw [d2]; unfold nbL nx; split <;> omega
  have e1 : ∃ u w, Ed α u (24 * l + x) w ∧ im1 α β l x = β u + w := by
    unfold im1; split
    · have d3 : (24 * l + x - 24) / 24 = l - 1 := by omega
      have d4 : (24 * l + x - 24) % 24 = x := by omega
      refine ⟨24 * l + x - 24, α 3 (l - 1), ⟨⟨by omega, by omega, by omega⟩, ho, Or.inr (Or.inl ⟨by rw [d4, d2], by rw [d3, d1]; omega, by rw [d3]⟩)⟩, rfl⟩
    · exact e0
  unfold im2; split
  · have d3 : (24 * l + x + 24) / 24 = l + 1 := by omega
    have d4 : (24 * l + x + 24) % 24 = x := by omega
    refine ⟨24 * l + x + 24, α 3 l, ⟨⟨by omega, by omega, by omega⟩, ho, Or.inr (Or.inr ⟨by rw [d4, d2], by rw [d3, d1], by rw [d1]⟩)⟩, rfl⟩
  · exact e1
theorem im_le {α : Nat → Int → Int} {β : Int → Int} {l x u w : Int} (hW : WF α) (hl : 0 ≤ l ∧ l < α 0 1) (hx : 0 ≤ x ∧ x < α 0 0) (he : Ed α u (24 * l + x) w) : im2 α β l x ≤ β u + w := by
  have w0 := hW.1
  have w1 := hW.2.1
  have d1 : (24 * l + x) / 24 = l := by omega
  have d2 : (24 * l + x) % 24 = x := by omega
  obtain ⟨⟨g1, g2, g3⟩, ho, h⟩ := he
  rw [d1, d2] at h
  have q2 : im2 α β l x ≤ im1 α β l x := by unfold im2; split <;> omega
  have q1 : im1 α β l x ≤ im0 α β l x := by unfold im1; split <;> omega
  rcases h with ⟨h1, h2, h3⟩ | ⟨h1, h2, h3⟩ | ⟨h1, h2, h3⟩
  · have q0 : im0 α β l x ≤ β u + 1 := by
      rcases h2 with h2 | h2
      · have : u = nbL α l x := by unfold nbL; unfold nx at h2; split <;> omega
        subst this; unfold im0; split <;> omega
      · have : u = nbR α l x := by unfold nbR; unfold nx at h2; split <;> omega
        subst this; unfold im0; split <;> omega
    omega
  · have : u = 24 * l + x - 24 := by omega
    subst this
    have e : (24 * l + x - 24) / 24 = l - 1 := by omega
    rw [e] at h3
    have : im1 α β l x ≤ β (24 * l + x - 24) + α 3 (l - 1) := by unfold im1; split <;> omega
    omega
  · have : u = 24 * l + x + 24 := by omega
    subst this
    have : im2 α β l x ≤ β (24 * l + x + 24) + α 3 l := by unfold im2; split <;> omega
    omega
theorem c_improve {l : Launch} {g : Gt} {d : Nat} {Z : Zt} {I : It} {P : Pt'} (hZ : LayC Z) (hP : LayP P) {T : Nat} (hT0 : P 4 0 = some T) (hT : IsT T) {R : Nat} (hr : RowAt Z P R) (hRT : R = 103 ∨ 145 ≤ R) {α : Nat → Int → Int} (hA : VT T I α) (hW : WF α) {l' x : Int} (hl : 0 ≤ l' ∧ l' < α 0 1) (hx : 0 ≤ x ∧ x < α 0 0) (hbd : ∀ v, 0 ≤ v → v < 192 → 0 ≤ I (R + 1) v ∧ I (R + 1) v ≤ 1000000) : Mt l g mX7_improve d 0 0 [vA 101, vA (R + 1), vI l', vI x] Z I P (QM (fun r I' => (I 105 (24 * l' + x) ≠ 0 ∧ r = 0 ∧ I' = I) ∨ (I 105 (24 * l' + x) = 0 ∧ im2 α (I (R + 1)) l' x < I (R + 1) (24 * l' + x) ∧ r = 1 ∧ I' = upI I (R + 1) (24 * l' + x) (im2 α (I (R + 1)) l' x)) ∨ (I 105 (24 * l' + x) = 0 ∧ I (R + 1) (24 * l' + x) ≤ im2 α (I (R + 1)) l' x ∧ r = 0 ∧ I' = I)) Z P) := by
  have a0 := hA.at 0
  have a1 := hA.at 1
  have e3 : I (T + 3) = α 3 := hA 3 (by omega)
  have w0 := hW.1
  have w1 := hW.2.1
  have hn := im0_r (β := I (R + 1)) hW hl hx
  have hm := im_b (β := I (R + 1)) hW hl hx hbd
  have hvr := hbd (24 * l' + x) (by omega) (by omega)
  have hrr := hbd _ hn.1.1 hn.1.2
  have hlr := hbd _ hn.2.1 hn.2.2
  have hwl := hW.2.2.2.2.2.1 l' hl.1 hl.2
  refine Mt.of kmX7_improve (ls := [vA 101, vA (R + 1), vI l', vI x, vX, vX, vX, vX, vX]) (fun _ => rfl) (fun _ => rfl) (okf_k (okf_k (okf_k (okf_k (okf_n rfl))))) (fun hok => ?_)
  by_cases hs : I 105 (24 * l' + x) = 0
  · have c197 : Ev l g mX7_improve d 0 0 Z I P 197 [vA 101, vA (R + 1), vI l', vI x, vA T, vI (24 * l' + x), vX, vX, vI (im2 α (I (R + 1)) l' x)] [] (QM (fun r I' => (I 105 (24 * l' + x) ≠ 0 ∧ r = 0 ∧ I' = I) ∨ (I 105 (24 * l' + x) = 0 ∧ im2 α (I (R + 1)) l' x < I (R + 1) (24 * l' + x) ∧ r = 1 ∧ I' = upI I (R + 1) (24 * l' + x) (im2 α (I (R + 1)) l' x)) ∨ (I 105 (24 * l' + x) = 0 ∧ I (R + 1) (24 * l' + x) ≤ im2 α (I (R + 1)) l' x ∧ r = 0 ∧ I' = I)) Z P) := by
      refine ev_iload_8 197 dX7_improve_197 ?_
      refine ev_aload_1 199 dX7_improve_199 ?_
      refine ev_iload_5 200 dX7_improve_200 ?_
      refine ev_iald 202 dX7_improve_202 hr.2.2.1 ⟨by omega, by have := hr.2.2.2; omega⟩ ?_
      try simp only [e3]
      refine ev_icmp_lt 203 208 dX7_improve_203 rfl (fun h203 => ?_) (fun h203 => ?_)
      · refine ev_aload_1 208 dX7_improve_208 ?_
        refine ev_iload_5 209 dX7_improve_209 ?_
        refine ev_iload_8 211 dX7_improve_211 ?_
        refine ev_iast 213 dX7_improve_213 hr.2.2.1 ⟨by omega, by have := hr.2.2.2; omega⟩ ?_
        refine ev_iconst 214 dX7_improve_214 ⟨by decide, by decide⟩ ?_
        refine ev_zret 215 dX7_improve_215 (by first | omega | exact b2_or _) ?_ rfl
        first | exact QM_of (Or.inr (Or.inr ⟨hs, by omega, rfl, rfl⟩)) | exact QM_of (Or.inr (Or.inl ⟨hs, by omega, rfl, rfl⟩))
      · refine ev_iconst 206 dX7_improve_206 ⟨by decide, by decide⟩ ?_
        refine ev_zret 207 dX7_improve_207 (by first | omega | exact b2_or _) ?_ rfl
        first | exact QM_of (Or.inr (Or.inr ⟨hs, by omega, rfl, rfl⟩)) | exact QM_of (Or.inr (Or.inl ⟨hs, by omega, rfl, rfl⟩))
    have c149 : Ev l g mX7_improve d 0 0 Z I P 149 [vA 101, vA (R + 1), vI l', vI x, vA T, vI (24 * l' + x), vX, vX, vI (im1 α (I (R + 1)) l' x)] [] (QM (fun r I' => (I 105 (24 * l' + x) ≠ 0 ∧ r = 0 ∧ I' = I) ∨ (I 105 (24 * l' + x) = 0 ∧ im2 α (I (R + 1)) l' x < I (R + 1) (24 * l' + x) ∧ r = 1 ∧ I' = upI I (R + 1) (24 * l' + x) (im2 α (I (R + 1)) l' x)) ∨ (I 105 (24 * l' + x) = 0 ∧ I (R + 1) (24 * l' + x) ≤ im2 α (I (R + 1)) l' x ∧ r = 0 ∧ I' = I)) Z P) := by
      have hdn : l' + 1 < α 0 1 → 0 ≤ I (R + 1) (24 * l' + x + 24) ∧ I (R + 1) (24 * l' + x + 24) ≤ 1000000 := fun h => hbd _ (by omega) (by omega)
      refine ev_iload_2 149 dX7_improve_149 ?_
      refine ev_iconst 150 dX7_improve_150 ⟨by decide, by decide⟩ ?_
      refine ev_iadd 151 dX7_improve_151 ⟨by omega, by omega⟩ ?_
      refine ev_aload_4 152 dX7_improve_152 ?_
      refine ev_gI 154 1 1 dX7_improve_154 fa_X7_68 (kdT_0 hZ hT) rfl rfl rfl ?_
      try simp only [e3]
      refine ev_icmp_ge 157 197 dX7_improve_157 rfl (fun h157 => ?_) (fun h157 => ?_)
      · refine ev_forget (fg_k (fg_k (fg_k (fg_k (fg_k (fg_k (fg_x (fg_x (fg_k fg_n))))))))) ?_
        first
          | (rw [show im1 α (I (R + 1)) l' x = im2 α (I (R + 1)) l' x from (if_neg (by omega)).symm]; exact c197)
          | (rw [show I (R + 1) (24 * l' + x + 24) + α 3 l' = im2 α (I (R + 1)) l' x from (if_pos (by omega)).symm]; exact c197)
      · refine ev_aload_1 160 dX7_improve_160 ?_
        refine ev_iload_5 161 dX7_improve_161 ?_
        refine ev_bipush 163 dX7_improve_163 ⟨by decide, by decide⟩ ?_
        refine ev_iadd 165 dX7_improve_165 ⟨by omega, by omega⟩ ?_
        refine ev_iald 166 dX7_improve_166 hr.2.2.1 ⟨by omega, by have := hr.2.2.2; omega⟩ ?_
        try simp only [e3]
        refine ev_aload_4 167 dX7_improve_167 ?_
        refine ev_getA 169 4 dX7_improve_169 fa_X7_81 (kdT_0 hZ hT) (prT_4 hP hT) rfl ?_
        refine ev_iload_2 172 dX7_improve_172 ?_
        refine ev_iald 173 dX7_improve_173 (kdT_3 hZ hT) ⟨by omega, by have := (lnT_3 hZ hT); omega⟩ ?_
        try simp only [e3]
        refine ev_iadd 174 dX7_improve_174 ⟨by omega, by omega⟩ ?_
        refine ev_iload_8 175 dX7_improve_175 ?_
        refine ev_icmp_ge 177 197 dX7_improve_177 rfl (fun h177 => ?_) (fun h177 => ?_)
        · refine ev_forget (fg_k (fg_k (fg_k (fg_k (fg_k (fg_k (fg_x (fg_x (fg_k fg_n))))))))) ?_
          first
            | (rw [show im1 α (I (R + 1)) l' x = im2 α (I (R + 1)) l' x from (if_neg (by omega)).symm]; exact c197)
            | (rw [show I (R + 1) (24 * l' + x + 24) + α 3 l' = im2 α (I (R + 1)) l' x from (if_pos (by omega)).symm]; exact c197)
        · refine ev_aload_1 180 dX7_improve_180 ?_
          refine ev_iload_5 181 dX7_improve_181 ?_
          refine ev_bipush 183 dX7_improve_183 ⟨by decide, by decide⟩ ?_
          refine ev_iadd 185 dX7_improve_185 ⟨by omega, by omega⟩ ?_
          refine ev_iald 186 dX7_improve_186 hr.2.2.1 ⟨by omega, by have := hr.2.2.2; omega⟩ ?_
          try simp only [e3]
          refine ev_aload_4 187 dX7_improve_187 ?_
          refine ev_getA 189 4 dX7_improve_189 fa_X7_81 (kdT_0 hZ hT) (prT_4 hP hT) rfl ?_
          refine ev_iload_2 192 dX7_improve_192 ?_
          refine ev_iald 193 dX7_improve_193 (kdT_3 hZ hT) ⟨by omega, by have := (lnT_3 hZ hT); omega⟩ ?_
          try simp only [e3]
          refine ev_iadd 194 dX7_improve_194 ⟨by omega, by omega⟩ ?_
          refine ev_istore_8 195 dX7_improve_195 rfl rfl ?_
          refine ev_forget (fg_k (fg_k (fg_k (fg_k (fg_k (fg_k (fg_x (fg_x (fg_k fg_n))))))))) ?_
          first
            | (rw [show im1 α (I (R + 1)) l' x = im2 α (I (R + 1)) l' x from (if_neg (by omega)).symm]; exact c197)
            | (rw [show I (R + 1) (24 * l' + x + 24) + α 3 l' = im2 α (I (R + 1)) l' x from (if_pos (by omega)).symm]; exact c197)
    have c104 : Ev l g mX7_improve d 0 0 Z I P 104 [vA 101, vA (R + 1), vI l', vI x, vA T, vI (24 * l' + x), vX, vX, vI (im0 α (I (R + 1)) l' x)] [] (QM (fun r I' => (I 105 (24 * l' + x) ≠ 0 ∧ r = 0 ∧ I' = I) ∨ (I 105 (24 * l' + x) = 0 ∧ im2 α (I (R + 1)) l' x < I (R + 1) (24 * l' + x) ∧ r = 1 ∧ I' = upI I (R + 1) (24 * l' + x) (im2 α (I (R + 1)) l' x)) ∨ (I 105 (24 * l' + x) = 0 ∧ I (R + 1) (24 * l' + x) ≤ im2 α (I (R + 1)) l' x ∧ r = 0 ∧ I' = I)) Z P) := by
      have hup : 0 < l' → (0 ≤ I (R + 1) (24 * l' + x - 24) ∧ I (R + 1) (24 * l' + x - 24) ≤ 1000000) ∧ (1 ≤ α 3 (l' - 1) ∧ α 3 (l' - 1) ≤ 9) := fun h => ⟨hbd _ (by omega) (by omega), (hW.2.2.2.2.2.1 (l' - 1) (by omega) (by omega)).2.2⟩
      refine ev_iload_2 104 dX7_improve_104 ?_
      refine ev_if_le 105 149 dX7_improve_105 rfl (fun h105 => ?_) (fun h105 => ?_)
      · refine ev_forget (fg_k (fg_k (fg_k (fg_k (fg_k (fg_k (fg_x (fg_x (fg_k fg_n))))))))) ?_
        first
          | (rw [show im0 α (I (R + 1)) l' x = im1 α (I (R + 1)) l' x from (if_neg (by omega)).symm]; exact c149)
          | (rw [show I (R + 1) (24 * l' + x - 24) + α 3 (l' - 1) = im1 α (I (R + 1)) l' x from (if_pos (by omega)).symm]; exact c149)
      · refine ev_aload_1 108 dX7_improve_108 ?_
        refine ev_iload_5 109 dX7_improve_109 ?_
        refine ev_bipush 111 dX7_improve_111 ⟨by decide, by decide⟩ ?_
        refine ev_isub 113 dX7_improve_113 ⟨by omega, by omega⟩ ?_
        refine ev_iald 114 dX7_improve_114 hr.2.2.1 ⟨by omega, by have := hr.2.2.2; omega⟩ ?_
        try simp only [e3]
        refine ev_aload_4 115 dX7_improve_115 ?_
        refine ev_getA 117 4 dX7_improve_117 fa_X7_81 (kdT_0 hZ hT) (prT_4 hP hT) rfl ?_
        refine ev_iload_2 120 dX7_improve_120 ?_
        refine ev_iconst 121 dX7_improve_121 ⟨by decide, by decide⟩ ?_
        refine ev_isub 122 dX7_improve_122 ⟨by omega, by omega⟩ ?_
        refine ev_iald 123 dX7_improve_123 (kdT_3 hZ hT) ⟨by omega, by have := (lnT_3 hZ hT); omega⟩ ?_
        try simp only [e3]
        refine ev_iadd 124 dX7_improve_124 ⟨by omega, by omega⟩ ?_
        refine ev_iload_8 125 dX7_improve_125 ?_
        refine ev_icmp_ge 127 149 dX7_improve_127 rfl (fun h127 => ?_) (fun h127 => ?_)
        · refine ev_forget (fg_k (fg_k (fg_k (fg_k (fg_k (fg_k (fg_x (fg_x (fg_k fg_n))))))))) ?_
          first
            | (rw [show im0 α (I (R + 1)) l' x = im1 α (I (R + 1)) l' x from (if_neg (by omega)).symm]; exact c149)
            | (rw [show I (R + 1) (24 * l' + x - 24) + α 3 (l' - 1) = im1 α (I (R + 1)) l' x from (if_pos (by omega)).symm]; exact c149)
        · refine ev_aload_1 130 dX7_improve_130 ?_
          refine ev_iload_5 131 dX7_improve_131 ?_
          refine ev_bipush 133 dX7_improve_133 ⟨by decide, by decide⟩ ?_
          refine ev_isub 135 dX7_improve_135 ⟨by omega, by omega⟩ ?_
          refine ev_iald 136 dX7_improve_136 hr.2.2.1 ⟨by omega, by have := hr.2.2.2; omega⟩ ?_
          try simp only [e3]
          refine ev_aload_4 137 dX7_improve_137 ?_
          refine ev_getA 139 4 dX7_improve_139 fa_X7_81 (kdT_0 hZ hT) (prT_4 hP hT) rfl ?_
          refine ev_iload_2 142 dX7_improve_142 ?_
          refine ev_iconst 143 dX7_improve_143 ⟨by decide, by decide⟩ ?_
          refine ev_isub 144 dX7_improve_144 ⟨by omega, by omega⟩ ?_
          refine ev_iald 145 dX7_improve_145 (kdT_3 hZ hT) ⟨by omega, by have := (lnT_3 hZ hT); omega⟩ ?_
          try simp only [e3]
          refine ev_iadd 146 dX7_improve_146 ⟨by omega, by omega⟩ ?_
          refine ev_istore_8 147 dX7_improve_147 rfl rfl ?_
          refine ev_forget (fg_k (fg_k (fg_k (fg_k (fg_k (fg_k (fg_x (fg_x (fg_k fg_n))))))))) ?_
          first
            | (rw [show im0 α (I (R + 1)) l' x = im1 α (I (R + 1)) l' x from (if_neg (by omega)).symm]; exact c149)
            | (rw [show I (R + 1) (24 * l' + x - 24) + α 3 (l' - 1) = im1 α (I (R + 1)) l' x from (if_pos (by omega)).symm]; exact c149)
    have c76 : Ev l g mX7_improve d 0 0 Z I P 76 [vA 101, vA (R + 1), vI l', vI x, vA T, vI (24 * l' + x), vI (nbR α l' x), vI (nbL α l' x), vX] [] (QM (fun r I' => (I 105 (24 * l' + x) ≠ 0 ∧ r = 0 ∧ I' = I) ∨ (I 105 (24 * l' + x) = 0 ∧ im2 α (I (R + 1)) l' x < I (R + 1) (24 * l' + x) ∧ r = 1 ∧ I' = upI I (R + 1) (24 * l' + x) (im2 α (I (R + 1)) l' x)) ∨ (I 105 (24 * l' + x) = 0 ∧ I (R + 1) (24 * l' + x) ≤ im2 α (I (R + 1)) l' x ∧ r = 0 ∧ I' = I)) Z P) := by
      refine ev_aload_1 76 dX7_improve_76 ?_
      refine ev_iload_6 77 dX7_improve_77 ?_
      refine ev_iald 79 dX7_improve_79 hr.2.2.1 ⟨by omega, by have := hr.2.2.2; omega⟩ ?_
      try simp only [e3]
      refine ev_aload_1 80 dX7_improve_80 ?_
      refine ev_iload_7 81 dX7_improve_81 ?_
      refine ev_iald 83 dX7_improve_83 hr.2.2.1 ⟨by omega, by have := hr.2.2.2; omega⟩ ?_
      try simp only [e3]
      refine ev_icmp_ge 84 96 dX7_improve_84 rfl (fun h84 => ?_) (fun h84 => ?_)
      · refine ev_aload_1 96 dX7_improve_96 ?_
        refine ev_iload_7 97 dX7_improve_97 ?_
        refine ev_iald 99 dX7_improve_99 hr.2.2.1 ⟨by omega, by have := hr.2.2.2; omega⟩ ?_
        try simp only [e3]
        refine ev_iconst 100 dX7_improve_100 ⟨by decide, by decide⟩ ?_
        refine ev_iadd 101 dX7_improve_101 ⟨by omega, by omega⟩ ?_
        refine ev_istore_8 102 dX7_improve_102 rfl rfl ?_
        refine ev_forget (fg_k (fg_k (fg_k (fg_k (fg_k (fg_k (fg_x (fg_x (fg_k fg_n))))))))) ?_
        first
          | (rw [show I (R + 1) (nbR α l' x) + 1 = im0 α (I (R + 1)) l' x from (if_pos (by omega)).symm]; exact c104)
          | (rw [show I (R + 1) (nbL α l' x) + 1 = im0 α (I (R + 1)) l' x from (if_neg (by omega)).symm]; exact c104)
      · refine ev_aload_1 87 dX7_improve_87 ?_
        refine ev_iload_6 88 dX7_improve_88 ?_
        refine ev_iald 90 dX7_improve_90 hr.2.2.1 ⟨by omega, by have := hr.2.2.2; omega⟩ ?_
        try simp only [e3]
        refine ev_iconst 91 dX7_improve_91 ⟨by decide, by decide⟩ ?_
        refine ev_iadd 92 dX7_improve_92 ⟨by omega, by omega⟩ ?_
        refine ev_goto 93 102 dX7_improve_93 rfl ?_
        refine ev_istore_8 102 dX7_improve_102 rfl rfl ?_
        refine ev_forget (fg_k (fg_k (fg_k (fg_k (fg_k (fg_k (fg_x (fg_x (fg_k fg_n))))))))) ?_
        first
          | (rw [show I (R + 1) (nbR α l' x) + 1 = im0 α (I (R + 1)) l' x from (if_pos (by omega)).symm]; exact c104)
          | (rw [show I (R + 1) (nbL α l' x) + 1 = im0 α (I (R + 1)) l' x from (if_neg (by omega)).symm]; exact c104)
    have c53 : Ev l g mX7_improve d 0 0 Z I P 53 [vA 101, vA (R + 1), vI l', vI x, vA T, vI (24 * l' + x), vI (nbR α l' x), vX, vX] [] (QM (fun r I' => (I 105 (24 * l' + x) ≠ 0 ∧ r = 0 ∧ I' = I) ∨ (I 105 (24 * l' + x) = 0 ∧ im2 α (I (R + 1)) l' x < I (R + 1) (24 * l' + x) ∧ r = 1 ∧ I' = upI I (R + 1) (24 * l' + x) (im2 α (I (R + 1)) l' x)) ∨ (I 105 (24 * l' + x) = 0 ∧ I (R + 1) (24 * l' + x) ≤ im2 α (I (R + 1)) l' x ∧ r = 0 ∧ I' = I)) Z P) := by
      refine ev_iload_3 53 dX7_improve_53 ?_
      refine ev_if_le 54 64 dX7_improve_54 rfl (fun h54 => ?_) (fun h54 => ?_)
      · refine ev_iload_5 64 dX7_improve_64 ?_
        refine ev_aload_4 66 dX7_improve_66 ?_
        refine ev_gI 68 0 0 dX7_improve_68 fa_X7_71 (kdT_0 hZ hT) rfl rfl rfl ?_
        try simp only [e3]
        refine ev_iadd 71 dX7_improve_71 ⟨by omega, by omega⟩ ?_
        refine ev_iconst 72 dX7_improve_72 ⟨by decide, by decide⟩ ?_
        refine ev_isub 73 dX7_improve_73 ⟨by omega, by omega⟩ ?_
        refine ev_istore_7 74 dX7_improve_74 rfl rfl ?_
        first
          | (rw [show 24 * l' + x - 1 = nbL α l' x from (if_pos (by omega)).symm]; exact c76)
          | (rw [show 24 * l' + x + I T 0 - 1 = nbL α l' x by rw [a0]; exact (if_neg (by omega)).symm]; exact c76)
      · refine ev_iload_5 57 dX7_improve_57 ?_
        refine ev_iconst 59 dX7_improve_59 ⟨by decide, by decide⟩ ?_
        refine ev_isub 60 dX7_improve_60 ⟨by omega, by omega⟩ ?_
        refine ev_goto 61 74 dX7_improve_61 rfl ?_
        refine ev_istore_7 74 dX7_improve_74 rfl rfl ?_
        first
          | (rw [show 24 * l' + x - 1 = nbL α l' x from (if_pos (by omega)).symm]; exact c76)
          | (rw [show 24 * l' + x + I T 0 - 1 = nbL α l' x by rw [a0]; exact (if_neg (by omega)).symm]; exact c76)
    refine ev_aload_0 0 dX7_improve_0 ?_
    refine ev_getA 1 0 dX7_improve_1 fa_X7_26 (kd_101 hZ) (pr_101_0 hP) rfl ?_
    refine ev_getA 4 0 dX7_improve_4 fa_X7_37 (kd_4 hZ) hT0 rfl ?_
    refine ev_astore_4 7 dX7_improve_7 rfl rfl ?_
    refine ev_bipush 9 dX7_improve_9 ⟨by decide, by decide⟩ ?_
    refine ev_iload_2 11 dX7_improve_11 ?_
    refine ev_imul 12 dX7_improve_12 ⟨by omega, by omega⟩ ?_
    refine ev_iload_3 13 dX7_improve_13 ?_
    refine ev_iadd 14 dX7_improve_14 ⟨by omega, by omega⟩ ?_
    refine ev_istore_5 15 dX7_improve_15 rfl rfl ?_
    refine ev_aload_0 17 dX7_improve_17 ?_
    refine ev_getA 18 3 dX7_improve_18 fa_X7_22 (kd_101 hZ) (pr_101_3 hP) rfl ?_
    refine ev_iload_5 21 dX7_improve_21 ?_
    refine ev_zald 23 dX7_improve_23 (kd_105 hZ) ⟨by omega, by have := (ln_105 hZ); omega⟩ ?_
    try simp only [e3]
    refine ev_if_eq 24 29 dX7_improve_24 rfl (fun h24 => ?_) (fun h24 => ?_)
    · refine ev_iload_3 29 dX7_improve_29 ?_
      refine ev_iconst 30 dX7_improve_30 ⟨by decide, by decide⟩ ?_
      refine ev_iadd 31 dX7_improve_31 ⟨by omega, by omega⟩ ?_
      refine ev_aload_4 32 dX7_improve_32 ?_
      refine ev_gI 34 0 0 dX7_improve_34 fa_X7_71 (kdT_0 hZ hT) rfl rfl rfl ?_
      try simp only [e3]
      refine ev_icmp_ge 37 47 dX7_improve_37 rfl (fun h37 => ?_) (fun h37 => ?_)
      · refine ev_iload_5 47 dX7_improve_47 ?_
        refine ev_iload_3 49 dX7_improve_49 ?_
        refine ev_isub 50 dX7_improve_50 ⟨by omega, by omega⟩ ?_
        refine ev_istore_6 51 dX7_improve_51 rfl rfl ?_
        first
          | (rw [show 24 * l' + x + 1 = nbR α l' x from (if_pos (by omega)).symm]; exact c53)
          | (rw [show 24 * l' + x - x = nbR α l' x from (if_neg (by omega)).symm]; exact c53)
      · refine ev_iload_5 40 dX7_improve_40 ?_
        refine ev_iconst 42 dX7_improve_42 ⟨by decide, by decide⟩ ?_
        refine ev_iadd 43 dX7_improve_43 ⟨by omega, by omega⟩ ?_
        refine ev_goto 44 51 dX7_improve_44 rfl ?_
        refine ev_istore_6 51 dX7_improve_51 rfl rfl ?_
        first
          | (rw [show 24 * l' + x + 1 = nbR α l' x from (if_pos (by omega)).symm]; exact c53)
          | (rw [show 24 * l' + x - x = nbR α l' x from (if_neg (by omega)).symm]; exact c53)
    · exfalso; omega
  · refine ev_aload_0 0 dX7_improve_0 ?_
    refine ev_getA 1 0 dX7_improve_1 fa_X7_26 (kd_101 hZ) (pr_101_0 hP) rfl ?_
    refine ev_getA 4 0 dX7_improve_4 fa_X7_37 (kd_4 hZ) hT0 rfl ?_
    refine ev_astore_4 7 dX7_improve_7 rfl rfl ?_
    refine ev_bipush 9 dX7_improve_9 ⟨by decide, by decide⟩ ?_
    refine ev_iload_2 11 dX7_improve_11 ?_
    refine ev_imul 12 dX7_improve_12 ⟨by omega, by omega⟩ ?_
    refine ev_iload_3 13 dX7_improve_13 ?_
    refine ev_iadd 14 dX7_improve_14 ⟨by omega, by omega⟩ ?_
    refine ev_istore_5 15 dX7_improve_15 rfl rfl ?_
    refine ev_aload_0 17 dX7_improve_17 ?_
    refine ev_getA 18 3 dX7_improve_18 fa_X7_22 (kd_101 hZ) (pr_101_3 hP) rfl ?_
    refine ev_iload_5 21 dX7_improve_21 ?_
    refine ev_zald 23 dX7_improve_23 (kd_105 hZ) ⟨by omega, by have := (ln_105 hZ); omega⟩ ?_
    try simp only [e3]
    refine ev_if_eq 24 29 dX7_improve_24 rfl (fun h24 => ?_) (fun h24 => ?_)
    · exfalso; omega
    · refine ev_iconst 27 dX7_improve_27 ⟨by decide, by decide⟩ ?_
      refine ev_zret 28 dX7_improve_28 (by first | omega | exact b2_or _) ?_ rfl
      exact QM_of (Or.inl ⟨hs, rfl, rfl⟩)

