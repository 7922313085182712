/-! the reference: a sea is laid -/
def sh (f : Int → Int) (n k : Int) : Int → Int := fun i => if 0 ≤ i ∧ i < k then f (n + i) else f i
theorem sh_0 (f : Int → Int) (n : Int) : sh f n 0 = f := by funext i; exact if_neg (fun z => by omega)
theorem sh_o {f : Int → Int} {n k i : Int} (h : i < 0 ∨ k ≤ i) : sh f n k i = f i := if_neg (fun z => by omega)
theorem sh_i {f : Int → Int} {n k i : Int} (h : 0 ≤ i ∧ i < k) : sh f n k i = f (n + i) := if_pos h
theorem sh_u {J : It} {a : Nat} {f : Int → Int} {n k x : Int} (h : J a = sh f n k) (hx : x = f (n + k)) (h0 : 0 ≤ k) : upI J a k x a = sh f n (k + 1) := by
  funext i
  unfold sh
  by_cases z : i = k
  · subst z; rw [upI_s, if_pos (by omega), hx]
  · rw [upI_k z, h]
    unfold sh
    by_cases y : 0 ≤ i ∧ i < k
    · rw [if_pos y, if_pos (by omega)]
    · rw [if_neg y, if_neg (by omega)]
def INI (D σ : Nat → Int → Int) : Prop := σ 0 0 = 0 ∧ σ 0 1 = D 0 13 ∧ (∀ j, 0 ≤ j → j < 6 → σ 1 j = D 5 j ∧ σ 2 j = 0) ∧ ∀ j, 0 ≤ j → j < D 0 13 → σ 3 j = D 10 j ∧ σ 4 j = D 11 j ∧ σ 5 j = D 12 j ∧ σ 6 j = -4
theorem m_isSound {l : Launch} {g : Gt} {d : Nat} {Z : Zt} {I : It} {P : Pt'} (hM : LayM Z) (hN : LayQ P) {D : Nat → Int → Int} (hD : DM I D) (hC : Cn D) : Mt l g mX12_isSound d 0 0 [vA 131] Z I P (QP (b2 (hold D)) Z I P) := by
  obtain ⟨⟨h1, h2, h3, h4, h5, h6, h7⟩, k1, k2, k3, k4⟩ := id hD
  obtain ⟨c1, c2, c3, c4, c5⟩ := id hC
  have hhold : hold D ↔ ((0 < D 0 1 ∧ alB (fun k => D 10 k < D 0 1) (D 0 13) ∧ alB (fun k => D 8 k < D 0 1) (D 0 10)) ∧ alB (fun t => D 4 t < D 0 1 ∧ alB (fun k => ¬ (D 4 t = D 8 k ∧ D 5 t = D 9 k)) (D 0 10) ∧ alB (fun u => ¬ (D 4 t = D 4 u ∧ D 5 t = D 5 u)) t) (D 0 5)) := by
    unfold hold alB
    constructor
    · rintro ⟨a, ⟨b, c, e⟩, f⟩
      exact ⟨⟨a, e, c⟩, fun t x y => ⟨b t x y, (f t x y).2, (f t x y).1⟩⟩
    · rintro ⟨⟨a, e, c⟩, f⟩
      exact ⟨a, ⟨fun t x y => (f t x y).1, c, e⟩, fun t x y => ⟨(f t x y).2.2, (f t x y).2.1⟩⟩
  refine Mt.of kmX12_isSound (ls := [vA 131, vX, vX, vX, vX, vX]) (fun _ => rfl) (fun _ => rfl) (okf_k (okf_n rfl)) (fun hok => ?_)
  have l3 : ∀ (r : Nat) (t y : Int) (va vb vc : Vv), 0 ≤ t → t + r = D 0 5 → (y = 0 ∨ y = 1) → (y = 1 ↔ ((0 < D 0 1 ∧ alB (fun k => D 10 k < D 0 1) (D 0 13) ∧ alB (fun k => D 8 k < D 0 1) (D 0 10)) ∧ alB (fun t => D 4 t < D 0 1 ∧ alB (fun k => ¬ (D 4 t = D 8 k ∧ D 5 t = D 9 k)) (D 0 10) ∧ alB (fun u => ¬ (D 4 t = D 4 u ∧ D 5 t = D 5 u)) t) t)) → Ev l g mX12_isSound d 0 0 Z I P 118 [vA 131, vI y, vI t, va, vb, vc] [] (QP (b2 (hold D)) Z I P) := by
    intro r
    induction r with
    | zero =>
      intro t y va vb vc g0 g1 hy hq
      refine ev_iload_2 118 dX12_isSound_118 ?_
      refine ev_aload_0 119 dX12_isSound_119 ?_
      refine ev_getA 120 3 dX12_isSound_120 fa_X12_13 (kd_131 hM) (pr_131_3 hN) rfl ?_
      refine ev_bipush 123 dX12_isSound_123 ⟨by decide, by decide⟩ ?_
      refine ev_iald 125 dX12_isSound_125 (kd_133 hM) ⟨by omega, by have := (ln_133 hM); omega⟩ ?_
      try simp only [h3]
      refine ev_icmp_ge 126 304 dX12_isSound_126 rfl (fun h126 => ?_) (fun h126 => ?_)
      · refine ev_iload_1 304 dX12_isSound_304 ?_
        refine ev_zret 305 dX12_isSound_305 hy ?_ rfl
        exact QP_of (b2_i hy (hq.trans (by rw [show t = D 0 5 by omega]; exact hhold.symm)))
      · exfalso; omega
    | succ r ih =>
      intro t y va vb vc g0 g1 hy hq
      obtain ⟨m1, m2, m3, m4⟩ := k2 t g0 (by omega)
      have m2' : I 135 (25 + 4 * t) = D 4 t := by rw [show (25 + 4 * t : Int) = 24 + 4 * t + 1 by omega]; exact m2
      have lu : ∀ (s : Nat) (u y : Int), 0 ≤ u → u + s = t → (y = 0 ∨ y = 1) → (y = 1 ↔ (((0 < D 0 1 ∧ alB (fun k => D 10 k < D 0 1) (D 0 13) ∧ alB (fun k => D 8 k < D 0 1) (D 0 10)) ∧ alB (fun t => D 4 t < D 0 1 ∧ alB (fun k => ¬ (D 4 t = D 8 k ∧ D 5 t = D 9 k)) (D 0 10) ∧ alB (fun u => ¬ (D 4 t = D 4 u ∧ D 5 t = D 5 u)) t) t) ∧ D 4 t < D 0 1 ∧ alB (fun k => ¬ (D 4 t = D 8 k ∧ D 5 t = D 9 k)) (D 0 10) ∧ alB (fun u => ¬ (D 4 t = D 4 u ∧ D 5 t = D 5 u)) u)) → Ev l g mX12_isSound d 0 0 Z I P 243 [vA 131, vI y, vI t, vI (D 5 t), vI (D 4 t), vI u] [] (QP (b2 (hold D)) Z I P) := by
        intro s
        induction s with
        | zero =>
          intro u y e0 e1 hy hq
          refine ev_iload_5 243 dX12_isSound_243 ?_
          refine ev_iload_2 245 dX12_isSound_245 ?_
          refine ev_icmp_ge 246 298 dX12_isSound_246 rfl (fun h246 => ?_) (fun h246 => ?_)
          · refine ev_iinc_2 298 dX12_isSound_298 ⟨by omega, by omega⟩ rfl rfl ?_
            refine ev_goto 301 118 dX12_isSound_301 rfl ?_
            exact ih (t + 1) y _ _ _ (by omega) (by omega) hy (by rw [alB_s g0, hq, show u = t by omega]; exact and_assoc)
          · exfalso; omega
        | succ s ih2 =>
          intro u y e0 e1 hy hq
          obtain ⟨n1, n2, n3, n4⟩ := k2 u e0 (by omega)
          have n2' : I 135 (25 + 4 * u) = D 4 u := by rw [show (25 + 4 * u : Int) = 24 + 4 * u + 1 by omega]; exact n2
          refine ev_iload_5 243 dX12_isSound_243 ?_
          refine ev_iload_2 245 dX12_isSound_245 ?_
          refine ev_icmp_ge 246 298 dX12_isSound_246 rfl (fun h246 => ?_) (fun h246 => ?_)
          · exfalso; omega
          · refine Ev.join 291 (fun jv => (jv = 0 ∨ jv = 1) ∧ (jv = 1 ↔ (y = 1 ∧ ¬ (D 4 t = D 4 u ∧ D 5 t = D 5 u)))) (fun x291 q291 => ?_) (fun j291 => ?_)
            · try dsimp only at q291
              refine ev_istore_1 291 dX12_isSound_291 rfl rfl ?_
              refine ev_iinc_5 292 dX12_isSound_292 ⟨by omega, by omega⟩ rfl rfl ?_
              refine ev_goto 295 243 dX12_isSound_295 rfl ?_
              refine ih2 (u + 1) _ (by omega) (by omega) q291.1 ?_
              rw [alB_s e0, q291.2, hq]
              exact ⟨fun z => ⟨z.1.1, z.1.2.1, z.1.2.2.1, z.1.2.2.2, z.2⟩, fun z => ⟨⟨z.1, z.2.1, z.2.2.1, z.2.2.2.1⟩, z.2.2.2.2⟩⟩
            · refine ev_iload_1 249 dX12_isSound_249 ?_
              refine ev_if_eq 250 290 dX12_isSound_250 rfl (fun h250 => ?_) (fun h250 => ?_)
              · refine ev_iconst 290 dX12_isSound_290 ⟨by decide, by decide⟩ ?_
                exact j291 _ (by omega)
              · refine ev_aload_0 253 dX12_isSound_253 ?_
                refine ev_getA 254 5 dX12_isSound_254 fa_X12_20 (kd_131 hM) (pr_131_5 hN) rfl ?_
                refine ev_bipush 257 dX12_isSound_257 ⟨by decide, by decide⟩ ?_
                refine ev_iconst 259 dX12_isSound_259 ⟨by decide, by decide⟩ ?_
                refine ev_iload_5 260 dX12_isSound_260 ?_
                refine ev_imul 262 dX12_isSound_262 ⟨by omega, by omega⟩ ?_
                refine ev_iadd 263 dX12_isSound_263 ⟨by omega, by omega⟩ ?_
                refine ev_iald 264 dX12_isSound_264 (kd_135 hM) ⟨by omega, by have := (ln_135 hM); omega⟩ ?_
                try simp only [n1, n2']
                refine ev_iload_3 265 dX12_isSound_265 ?_
                refine ev_jne 266 286 dX12_isSound_266 rfl (fun h266 => ?_) (fun h266 => ?_)
                · refine ev_iconst 286 dX12_isSound_286 ⟨by decide, by decide⟩ ?_
                  refine ev_goto 287 291 dX12_isSound_287 rfl ?_
                  exact j291 _ (by omega)
                · refine ev_aload_0 269 dX12_isSound_269 ?_
                  refine ev_getA 270 5 dX12_isSound_270 fa_X12_20 (kd_131 hM) (pr_131_5 hN) rfl ?_
                  refine ev_bipush 273 dX12_isSound_273 ⟨by decide, by decide⟩ ?_
                  refine ev_iconst 275 dX12_isSound_275 ⟨by decide, by decide⟩ ?_
                  refine ev_iload_5 276 dX12_isSound_276 ?_
                  refine ev_imul 278 dX12_isSound_278 ⟨by omega, by omega⟩ ?_
                  refine ev_iadd 279 dX12_isSound_279 ⟨by omega, by omega⟩ ?_
                  refine ev_iald 280 dX12_isSound_280 (kd_135 hM) ⟨by omega, by have := (ln_135 hM); omega⟩ ?_
                  try simp only [n1, n2']
                  refine ev_iload_4 281 dX12_isSound_281 ?_
                  refine ev_icmp_eq 283 290 dX12_isSound_283 rfl (fun h283 => ?_) (fun h283 => ?_)
                  · refine ev_iconst 290 dX12_isSound_290 ⟨by decide, by decide⟩ ?_
                    exact j291 _ (by omega)
                  · refine ev_iconst 286 dX12_isSound_286 ⟨by decide, by decide⟩ ?_
                    refine ev_goto 287 291 dX12_isSound_287 rfl ?_
                    exact j291 _ (by omega)
      have lm : ∀ (s : Nat) (k y : Int), 0 ≤ k → k + s = D 0 10 → (y = 0 ∨ y = 1) → (y = 1 ↔ (((0 < D 0 1 ∧ alB (fun k => D 10 k < D 0 1) (D 0 13) ∧ alB (fun k => D 8 k < D 0 1) (D 0 10)) ∧ alB (fun t => D 4 t < D 0 1 ∧ alB (fun k => ¬ (D 4 t = D 8 k ∧ D 5 t = D 9 k)) (D 0 10) ∧ alB (fun u => ¬ (D 4 t = D 4 u ∧ D 5 t = D 5 u)) t) t) ∧ D 4 t < D 0 1 ∧ alB (fun k => ¬ (D 4 t = D 8 k ∧ D 5 t = D 9 k)) k)) → Ev l g mX12_isSound d 0 0 Z I P 179 [vA 131, vI y, vI t, vI (D 5 t), vI (D 4 t), vI k] [] (QP (b2 (hold D)) Z I P) := by
        intro s
        induction s with
        | zero =>
          intro k y e0 e1 hy hq
          refine ev_iload_5 179 dX12_isSound_179 ?_
          refine ev_aload_0 181 dX12_isSound_181 ?_
          refine ev_getA 182 3 dX12_isSound_182 fa_X12_13 (kd_131 hM) (pr_131_3 hN) rfl ?_
          refine ev_bipush 185 dX12_isSound_185 ⟨by decide, by decide⟩ ?_
          refine ev_iald 187 dX12_isSound_187 (kd_133 hM) ⟨by omega, by have := (ln_133 hM); omega⟩ ?_
          try simp only [h4]
          refine ev_icmp_ge 188 240 dX12_isSound_188 rfl (fun h188 => ?_) (fun h188 => ?_)
          · refine ev_iconst 240 dX12_isSound_240 ⟨by decide, by decide⟩ ?_
            refine ev_istore_5 241 dX12_isSound_241 rfl rfl ?_
            refine lu t.toNat 0 y (by omega) (by omega) hy (hq.trans ?_)
            rw [show k = D 0 10 by omega]
            exact ⟨fun z => ⟨z.1, z.2.1, z.2.2, alB_0⟩, fun z => ⟨z.1, z.2.1, z.2.2.1⟩⟩
          · exfalso; omega
        | succ s ih2 =>
          intro k y e0 e1 hy hq
          obtain ⟨n1, n2⟩ := k3 k e0 (by omega)
          have n2' : I 136 (17 + 2 * k) = D 9 k := by rw [show (17 + 2 * k : Int) = 16 + 2 * k + 1 by omega]; exact n2
          refine ev_iload_5 179 dX12_isSound_179 ?_
          refine ev_aload_0 181 dX12_isSound_181 ?_
          refine ev_getA 182 3 dX12_isSound_182 fa_X12_13 (kd_131 hM) (pr_131_3 hN) rfl ?_
          refine ev_bipush 185 dX12_isSound_185 ⟨by decide, by decide⟩ ?_
          refine ev_iald 187 dX12_isSound_187 (kd_133 hM) ⟨by omega, by have := (ln_133 hM); omega⟩ ?_
          try simp only [h4, n1, n2']
          refine ev_icmp_ge 188 240 dX12_isSound_188 rfl (fun h188 => ?_) (fun h188 => ?_)
          · exfalso; omega
          · refine Ev.join 233 (fun jv => (jv = 0 ∨ jv = 1) ∧ (jv = 1 ↔ (y = 1 ∧ ¬ (D 4 t = D 8 k ∧ D 5 t = D 9 k)))) (fun x233 q233 => ?_) (fun j233 => ?_)
            · try dsimp only at q233
              refine ev_istore_1 233 dX12_isSound_233 rfl rfl ?_
              refine ev_iinc_5 234 dX12_isSound_234 ⟨by omega, by omega⟩ rfl rfl ?_
              refine ev_goto 237 179 dX12_isSound_237 rfl ?_
              refine ih2 (k + 1) _ (by omega) (by omega) q233.1 ?_
              rw [alB_s e0, q233.2, hq]
              exact ⟨fun z => ⟨z.1.1, z.1.2.1, z.1.2.2, z.2⟩, fun z => ⟨⟨z.1, z.2.1, z.2.2.1⟩, z.2.2.2⟩⟩
            · refine ev_iload_1 191 dX12_isSound_191 ?_
              refine ev_if_eq 192 232 dX12_isSound_192 rfl (fun h192 => ?_) (fun h192 => ?_)
              · refine ev_iconst 232 dX12_isSound_232 ⟨by decide, by decide⟩ ?_
                exact j233 _ (by omega)
              · refine ev_aload_0 195 dX12_isSound_195 ?_
                refine ev_getA 196 6 dX12_isSound_196 fa_X12_23 (kd_131 hM) (pr_131_6 hN) rfl ?_
                refine ev_bipush 199 dX12_isSound_199 ⟨by decide, by decide⟩ ?_
                refine ev_iconst 201 dX12_isSound_201 ⟨by decide, by decide⟩ ?_
                refine ev_iload_5 202 dX12_isSound_202 ?_
                refine ev_imul 204 dX12_isSound_204 ⟨by omega, by omega⟩ ?_
                refine ev_iadd 205 dX12_isSound_205 ⟨by omega, by omega⟩ ?_
                refine ev_iald 206 dX12_isSound_206 (kd_136 hM) ⟨by omega, by have := (ln_136 hM); omega⟩ ?_
                try simp only [h4, n1, n2']
                refine ev_iload_4 207 dX12_isSound_207 ?_
                refine ev_jne 209 228 dX12_isSound_209 rfl (fun h209 => ?_) (fun h209 => ?_)
                · refine ev_iconst 228 dX12_isSound_228 ⟨by decide, by decide⟩ ?_
                  refine ev_goto 229 233 dX12_isSound_229 rfl ?_
                  exact j233 _ (by omega)
                · refine ev_aload_0 212 dX12_isSound_212 ?_
                  refine ev_getA 213 6 dX12_isSound_213 fa_X12_23 (kd_131 hM) (pr_131_6 hN) rfl ?_
                  refine ev_bipush 216 dX12_isSound_216 ⟨by decide, by decide⟩ ?_
                  refine ev_iconst 218 dX12_isSound_218 ⟨by decide, by decide⟩ ?_
                  refine ev_iload_5 219 dX12_isSound_219 ?_
                  refine ev_imul 221 dX12_isSound_221 ⟨by omega, by omega⟩ ?_
                  refine ev_iadd 222 dX12_isSound_222 ⟨by omega, by omega⟩ ?_
                  refine ev_iald 223 dX12_isSound_223 (kd_136 hM) ⟨by omega, by have := (ln_136 hM); omega⟩ ?_
                  try simp only [h4, n1, n2']
                  refine ev_iload_3 224 dX12_isSound_224 ?_
                  refine ev_icmp_eq 225 232 dX12_isSound_225 rfl (fun h225 => ?_) (fun h225 => ?_)
                  · refine ev_iconst 232 dX12_isSound_232 ⟨by decide, by decide⟩ ?_
                    exact j233 _ (by omega)
                  · refine ev_iconst 228 dX12_isSound_228 ⟨by decide, by decide⟩ ?_
                    refine ev_goto 229 233 dX12_isSound_229 rfl ?_
                    exact j233 _ (by omega)
      refine ev_iload_2 118 dX12_isSound_118 ?_
      refine ev_aload_0 119 dX12_isSound_119 ?_
      refine ev_getA 120 3 dX12_isSound_120 fa_X12_13 (kd_131 hM) (pr_131_3 hN) rfl ?_
      refine ev_bipush 123 dX12_isSound_123 ⟨by decide, by decide⟩ ?_
      refine ev_iald 125 dX12_isSound_125 (kd_133 hM) ⟨by omega, by have := (ln_133 hM); omega⟩ ?_
      try simp only [h3, h2, m1, m2']
      refine ev_icmp_ge 126 304 dX12_isSound_126 rfl (fun h126 => ?_) (fun h126 => ?_)
      · exfalso; omega
      · refine ev_aload_0 129 dX12_isSound_129 ?_
        refine ev_getA 130 5 dX12_isSound_130 fa_X12_20 (kd_131 hM) (pr_131_5 hN) rfl ?_
        refine ev_bipush 133 dX12_isSound_133 ⟨by decide, by decide⟩ ?_
        refine ev_iconst 135 dX12_isSound_135 ⟨by decide, by decide⟩ ?_
        refine ev_iload_2 136 dX12_isSound_136 ?_
        refine ev_imul 137 dX12_isSound_137 ⟨by omega, by omega⟩ ?_
        refine ev_iadd 138 dX12_isSound_138 ⟨by omega, by omega⟩ ?_
        refine ev_iald 139 dX12_isSound_139 (kd_135 hM) ⟨by omega, by have := (ln_135 hM); omega⟩ ?_
        try simp only [h3, h2, m1, m2']
        refine ev_istore_3 140 dX12_isSound_140 rfl rfl ?_
        refine ev_aload_0 141 dX12_isSound_141 ?_
        refine ev_getA 142 5 dX12_isSound_142 fa_X12_20 (kd_131 hM) (pr_131_5 hN) rfl ?_
        refine ev_bipush 145 dX12_isSound_145 ⟨by decide, by decide⟩ ?_
        refine ev_iconst 147 dX12_isSound_147 ⟨by decide, by decide⟩ ?_
        refine ev_iload_2 148 dX12_isSound_148 ?_
        refine ev_imul 149 dX12_isSound_149 ⟨by omega, by omega⟩ ?_
        refine ev_iadd 150 dX12_isSound_150 ⟨by omega, by omega⟩ ?_
        refine ev_iald 151 dX12_isSound_151 (kd_135 hM) ⟨by omega, by have := (ln_135 hM); omega⟩ ?_
        try simp only [h3, h2, m1, m2']
        refine ev_istore_4 152 dX12_isSound_152 rfl rfl ?_
        refine Ev.join 175 (fun jv => (jv = 0 ∨ jv = 1) ∧ (jv = 1 ↔ (y = 1 ∧ D 4 t < D 0 1))) (fun x175 q175 => ?_) (fun j175 => ?_)
        · try dsimp only at q175
          refine ev_istore_1 175 dX12_isSound_175 rfl rfl ?_
          refine ev_iconst 176 dX12_isSound_176 ⟨by decide, by decide⟩ ?_
          refine ev_istore_5 177 dX12_isSound_177 rfl rfl ?_
          refine lm (D 0 10).toNat 0 _ (by omega) (by omega) q175.1 (q175.2.trans ?_)
          rw [hq]
          exact ⟨fun z => ⟨z.1, z.2, alB_0⟩, fun z => ⟨z.1, z.2.1⟩⟩
        · refine ev_iload_1 154 dX12_isSound_154 ?_
          refine ev_if_eq 155 174 dX12_isSound_155 rfl (fun h155 => ?_) (fun h155 => ?_)
          · refine ev_iconst 174 dX12_isSound_174 ⟨by decide, by decide⟩ ?_
            exact j175 _ (by omega)
          · refine ev_iload_4 158 dX12_isSound_158 ?_
            refine ev_aload_0 160 dX12_isSound_160 ?_
            refine ev_getA 161 3 dX12_isSound_161 fa_X12_13 (kd_131 hM) (pr_131_3 hN) rfl ?_
            refine ev_bipush 164 dX12_isSound_164 ⟨by decide, by decide⟩ ?_
            refine ev_iald 166 dX12_isSound_166 (kd_133 hM) ⟨by omega, by have := (ln_133 hM); omega⟩ ?_
            try simp only [h3, h2, m1, m2']
            refine ev_icmp_ge 167 174 dX12_isSound_167 rfl (fun h167 => ?_) (fun h167 => ?_)
            · refine ev_iconst 174 dX12_isSound_174 ⟨by decide, by decide⟩ ?_
              exact j175 _ (by omega)
            · refine ev_iconst 170 dX12_isSound_170 ⟨by decide, by decide⟩ ?_
              refine ev_goto 171 175 dX12_isSound_171 rfl ?_
              exact j175 _ (by omega)
  have l2 : ∀ (r : Nat) (k y : Int) (va vb vc : Vv), 0 ≤ k → k + r = D 0 10 → (y = 0 ∨ y = 1) → (y = 1 ↔ (0 < D 0 1 ∧ alB (fun k => D 10 k < D 0 1) (D 0 13) ∧ alB (fun k => D 8 k < D 0 1) k)) → Ev l g mX12_isSound d 0 0 Z I P 68 [vA 131, vI y, vI k, va, vb, vc] [] (QP (b2 (hold D)) Z I P) := by
    intro r
    induction r with
    | zero =>
      intro k y va vb vc g0 g1 hy hq
      refine ev_iload_2 68 dX12_isSound_68 ?_
      refine ev_aload_0 69 dX12_isSound_69 ?_
      refine ev_getA 70 3 dX12_isSound_70 fa_X12_13 (kd_131 hM) (pr_131_3 hN) rfl ?_
      refine ev_bipush 73 dX12_isSound_73 ⟨by decide, by decide⟩ ?_
      refine ev_iald 75 dX12_isSound_75 (kd_133 hM) ⟨by omega, by have := (ln_133 hM); omega⟩ ?_
      try simp only [h4]
      refine ev_icmp_ge 76 116 dX12_isSound_76 rfl (fun h76 => ?_) (fun h76 => ?_)
      · refine ev_iconst 116 dX12_isSound_116 ⟨by decide, by decide⟩ ?_
        refine ev_istore_2 117 dX12_isSound_117 rfl rfl ?_
        refine l3 (D 0 5).toNat 0 y _ _ _ (by omega) (by omega) hy (hq.trans ?_)
        rw [show k = D 0 10 by omega]
        exact ⟨fun z => ⟨z, alB_0⟩, fun z => z.1⟩
      · exfalso; omega
    | succ r ih =>
      intro k y va vb vc g0 g1 hy hq
      obtain ⟨n1, n2⟩ := k3 k g0 (by omega)
      refine ev_iload_2 68 dX12_isSound_68 ?_
      refine ev_aload_0 69 dX12_isSound_69 ?_
      refine ev_getA 70 3 dX12_isSound_70 fa_X12_13 (kd_131 hM) (pr_131_3 hN) rfl ?_
      refine ev_bipush 73 dX12_isSound_73 ⟨by decide, by decide⟩ ?_
      refine ev_iald 75 dX12_isSound_75 (kd_133 hM) ⟨by omega, by have := (ln_133 hM); omega⟩ ?_
      try simp only [h4, h2, n1]
      refine ev_icmp_ge 76 116 dX12_isSound_76 rfl (fun h76 => ?_) (fun h76 => ?_)
      · exfalso; omega
      · refine Ev.join 109 (fun jv => (jv = 0 ∨ jv = 1) ∧ (jv = 1 ↔ (y = 1 ∧ D 8 k < D 0 1))) (fun x109 q109 => ?_) (fun j109 => ?_)
        · try dsimp only at q109
          refine ev_istore_1 109 dX12_isSound_109 rfl rfl ?_
          refine ev_iinc_2 110 dX12_isSound_110 ⟨by omega, by omega⟩ rfl rfl ?_
          refine ev_goto 113 68 dX12_isSound_113 rfl ?_
          refine ih (k + 1) _ _ _ _ (by omega) (by omega) q109.1 ?_
          rw [alB_s g0, q109.2, hq]
          exact ⟨fun z => ⟨z.1.1, z.1.2.1, z.1.2.2, z.2⟩, fun z => ⟨⟨z.1, z.2.1, z.2.2.1⟩, z.2.2.2⟩⟩
        · refine ev_iload_1 79 dX12_isSound_79 ?_
          refine ev_if_eq 80 108 dX12_isSound_80 rfl (fun h80 => ?_) (fun h80 => ?_)
          · refine ev_iconst 108 dX12_isSound_108 ⟨by decide, by decide⟩ ?_
            exact j109 _ (by omega)
          · refine ev_aload_0 83 dX12_isSound_83 ?_
            refine ev_getA 84 6 dX12_isSound_84 fa_X12_23 (kd_131 hM) (pr_131_6 hN) rfl ?_
            refine ev_bipush 87 dX12_isSound_87 ⟨by decide, by decide⟩ ?_
            refine ev_iconst 89 dX12_isSound_89 ⟨by decide, by decide⟩ ?_
            refine ev_iload_2 90 dX12_isSound_90 ?_
            refine ev_imul 91 dX12_isSound_91 ⟨by omega, by omega⟩ ?_
            refine ev_iadd 92 dX12_isSound_92 ⟨by omega, by omega⟩ ?_
            refine ev_iald 93 dX12_isSound_93 (kd_136 hM) ⟨by omega, by have := (ln_136 hM); omega⟩ ?_
            try simp only [h4, h2, n1]
            refine ev_aload_0 94 dX12_isSound_94 ?_
            refine ev_getA 95 3 dX12_isSound_95 fa_X12_13 (kd_131 hM) (pr_131_3 hN) rfl ?_
            refine ev_bipush 98 dX12_isSound_98 ⟨by decide, by decide⟩ ?_
            refine ev_iald 100 dX12_isSound_100 (kd_133 hM) ⟨by omega, by have := (ln_133 hM); omega⟩ ?_
            try simp only [h4, h2, n1]
            refine ev_icmp_ge 101 108 dX12_isSound_101 rfl (fun h101 => ?_) (fun h101 => ?_)
            · refine ev_iconst 108 dX12_isSound_108 ⟨by decide, by decide⟩ ?_
              exact j109 _ (by omega)
            · refine ev_iconst 104 dX12_isSound_104 ⟨by decide, by decide⟩ ?_
              refine ev_goto 105 109 dX12_isSound_105 rfl ?_
              exact j109 _ (by omega)
  have l1 : ∀ (r : Nat) (k y : Int) (va vb vc : Vv), 0 ≤ k → k + r = D 0 13 → (y = 0 ∨ y = 1) → (y = 1 ↔ (0 < D 0 1 ∧ alB (fun k => D 10 k < D 0 1) k)) → Ev l g mX12_isSound d 0 0 Z I P 18 [vA 131, vI y, vI k, va, vb, vc] [] (QP (b2 (hold D)) Z I P) := by
    intro r
    induction r with
    | zero =>
      intro k y va vb vc g0 g1 hy hq
      refine ev_iload_2 18 dX12_isSound_18 ?_
      refine ev_aload_0 19 dX12_isSound_19 ?_
      refine ev_getA 20 3 dX12_isSound_20 fa_X12_13 (kd_131 hM) (pr_131_3 hN) rfl ?_
      refine ev_bipush 23 dX12_isSound_23 ⟨by decide, by decide⟩ ?_
      refine ev_iald 25 dX12_isSound_25 (kd_133 hM) ⟨by omega, by have := (ln_133 hM); omega⟩ ?_
      try simp only [h5]
      refine ev_icmp_ge 26 66 dX12_isSound_26 rfl (fun h26 => ?_) (fun h26 => ?_)
      · refine ev_iconst 66 dX12_isSound_66 ⟨by decide, by decide⟩ ?_
        refine ev_istore_2 67 dX12_isSound_67 rfl rfl ?_
        refine l2 (D 0 10).toNat 0 y _ _ _ (by omega) (by omega) hy (hq.trans ?_)
        rw [show k = D 0 13 by omega]
        exact ⟨fun z => ⟨z.1, z.2, alB_0⟩, fun z => ⟨z.1, z.2.1⟩⟩
      · exfalso; omega
    | succ r ih =>
      intro k y va vb vc g0 g1 hy hq
      obtain ⟨n1, n2, n3⟩ := k4 k g0 (by omega)
      refine ev_iload_2 18 dX12_isSound_18 ?_
      refine ev_aload_0 19 dX12_isSound_19 ?_
      refine ev_getA 20 3 dX12_isSound_20 fa_X12_13 (kd_131 hM) (pr_131_3 hN) rfl ?_
      refine ev_bipush 23 dX12_isSound_23 ⟨by decide, by decide⟩ ?_
      refine ev_iald 25 dX12_isSound_25 (kd_133 hM) ⟨by omega, by have := (ln_133 hM); omega⟩ ?_
      try simp only [h5, h2, n1]
      refine ev_icmp_ge 26 66 dX12_isSound_26 rfl (fun h26 => ?_) (fun h26 => ?_)
      · exfalso; omega
      · refine Ev.join 59 (fun jv => (jv = 0 ∨ jv = 1) ∧ (jv = 1 ↔ (y = 1 ∧ D 10 k < D 0 1))) (fun x59 q59 => ?_) (fun j59 => ?_)
        · try dsimp only at q59
          refine ev_istore_1 59 dX12_isSound_59 rfl rfl ?_
          refine ev_iinc_2 60 dX12_isSound_60 ⟨by omega, by omega⟩ rfl rfl ?_
          refine ev_goto 63 18 dX12_isSound_63 rfl ?_
          refine ih (k + 1) _ _ _ _ (by omega) (by omega) q59.1 ?_
          rw [alB_s g0, q59.2, hq]
          exact and_assoc
        · refine ev_iload_1 29 dX12_isSound_29 ?_
          refine ev_if_eq 30 58 dX12_isSound_30 rfl (fun h30 => ?_) (fun h30 => ?_)
          · refine ev_iconst 58 dX12_isSound_58 ⟨by decide, by decide⟩ ?_
            exact j59 _ (by omega)
          · refine ev_aload_0 33 dX12_isSound_33 ?_
            refine ev_getA 34 7 dX12_isSound_34 fa_X12_26 (kd_131 hM) (pr_131_7 hN) rfl ?_
            refine ev_bipush 37 dX12_isSound_37 ⟨by decide, by decide⟩ ?_
            refine ev_iconst 39 dX12_isSound_39 ⟨by decide, by decide⟩ ?_
            refine ev_iload_2 40 dX12_isSound_40 ?_
            refine ev_imul 41 dX12_isSound_41 ⟨by omega, by omega⟩ ?_
            refine ev_iadd 42 dX12_isSound_42 ⟨by omega, by omega⟩ ?_
            refine ev_iald 43 dX12_isSound_43 (kd_137 hM) ⟨by omega, by have := (ln_137 hM); omega⟩ ?_
            try simp only [h5, h2, n1]
            refine ev_aload_0 44 dX12_isSound_44 ?_
            refine ev_getA 45 3 dX12_isSound_45 fa_X12_13 (kd_131 hM) (pr_131_3 hN) rfl ?_
            refine ev_bipush 48 dX12_isSound_48 ⟨by decide, by decide⟩ ?_
            refine ev_iald 50 dX12_isSound_50 (kd_133 hM) ⟨by omega, by have := (ln_133 hM); omega⟩ ?_
            try simp only [h5, h2, n1]
            refine ev_icmp_ge 51 58 dX12_isSound_51 rfl (fun h51 => ?_) (fun h51 => ?_)
            · refine ev_iconst 58 dX12_isSound_58 ⟨by decide, by decide⟩ ?_
              exact j59 _ (by omega)
            · refine ev_iconst 54 dX12_isSound_54 ⟨by decide, by decide⟩ ?_
              refine ev_goto 55 59 dX12_isSound_55 rfl ?_
              exact j59 _ (by omega)
  refine Ev.join 15 (fun jv => (jv = 0 ∨ jv = 1) ∧ (jv = 1 ↔ (0 < D 0 1))) (fun x15 q15 => ?_) (fun j15 => ?_)
  · try dsimp only at q15
    refine ev_istore_1 15 dX12_isSound_15 rfl rfl ?_
    refine ev_iconst 16 dX12_isSound_16 ⟨by decide, by decide⟩ ?_
    refine ev_istore_2 17 dX12_isSound_17 rfl rfl ?_
    exact l1 (D 0 13).toNat 0 _ _ _ _ (by omega) (by omega) q15.1 (q15.2.trans ⟨fun z => ⟨z, alB_0⟩, fun z => z.1⟩)
  · refine ev_aload_0 0 dX12_isSound_0 ?_
    refine ev_getA 1 3 dX12_isSound_1 fa_X12_13 (kd_131 hM) (pr_131_3 hN) rfl ?_
    refine ev_bipush 4 dX12_isSound_4 ⟨by decide, by decide⟩ ?_
    refine ev_iald 6 dX12_isSound_6 (kd_133 hM) ⟨by omega, by have := (ln_133 hM); omega⟩ ?_
    try simp only [h2]
    refine ev_if_le 7 14 dX12_isSound_7 rfl (fun h7 => ?_) (fun h7 => ?_)
    · refine ev_iconst 14 dX12_isSound_14 ⟨by decide, by decide⟩ ?_
      exact j15 _ (by omega)
    · refine ev_iconst 10 dX12_isSound_10 ⟨by decide, by decide⟩ ?_
      refine ev_goto 11 15 dX12_isSound_11 rfl ?_
      exact j15 _ (by omega)
/-- as DM, but for the mark that something was told -/
def DMw (I : It) (D : Nat → Int → Int) : Prop := (I 133 6 = D 0 0 ∧ I 133 7 = D 0 1 ∧ I 133 8 = D 0 5 ∧ I 133 9 = D 0 10 ∧ I 133 10 = D 0 13) ∧
  (∀ t, 0 ≤ t → t < D 0 1 → I 134 (24 + 3 * t) = D 1 t ∧ I 134 (24 + 3 * t + 1) = D 2 t ∧ I 134 (24 + 3 * t + 2) = D 3 t) ∧
  (∀ t, 0 ≤ t → t < D 0 5 → I 135 (24 + 4 * t) = D 5 t ∧ I 135 (24 + 4 * t + 1) = D 4 t ∧ I 135 (24 + 4 * t + 2) = D 6 t ∧ I 135 (24 + 4 * t + 3) = D 7 t) ∧
  (∀ t, 0 ≤ t → t < D 0 10 → I 136 (16 + 2 * t) = D 8 t ∧ I 136 (16 + 2 * t + 1) = D 9 t) ∧
  (∀ t, 0 ≤ t → t < D 0 13 → I 137 (15 + 3 * t) = D 10 t ∧ I 137 (15 + 3 * t + 1) = D 11 t ∧ I 137 (15 + 3 * t + 2) = D 12 t)
theorem DM.w {I : It} {D : Nat → Int → Int} (h : DM I D) : DMw I D := ⟨⟨h.1.1, h.1.2.1, h.1.2.2.1, h.1.2.2.2.1, h.1.2.2.2.2.1⟩, h.2⟩
theorem m_takes {l : Launch} {g : Gt} {d : Nat} {Z : Zt} {I : It} {P : Pt'} (hM : LayM Z) (hN : LayQ P) {D : Nat → Int → Int} (hD : DMw I D) (hC : Cn D) : Mt l g mX12_takes d 0 0 [vA 131] Z I P (QV (fun I' => VM I' D ∧ (∀ σ, INI D σ → RS 0 I' D σ) ∧ (I' 131 16 = 0 ∧ I' 131 11 = 0 ∧ I' 131 13 = 0 ∧ I' 131 10 = 0 ∧ I' 131 9 = 0) ∧ (∀ j, j ≠ 16 → j ≠ 11 → j ≠ 13 → j ≠ 10 → j ≠ 9 → I' 131 j = I 131 j) ∧ I' 132 = I 132 ∧ ∀ a, (a < 131 ∨ 145 ≤ a) → I' a = I a) Z P) := by
  refine Mt.of kmX12_takes (ls := [vA 131, vX]) (fun _ => rfl) (fun _ => rfl) (okf_k (okf_n rfl)) (fun hok => ?_)
  have towns : ∀ (J1 : It), (J1 134 = sh (I 134) 24 24 ∧ J1 135 = sh (I 135) 24 24 ∧ J1 136 = sh (I 136) 16 16 ∧ J1 137 = sh (I 137) 15 15 ∧ J1 133 = sh (I 133) 6 6 ∧ (∀ a, a ≠ 133 → a ≠ 134 → a ≠ 135 → a ≠ 136 → a ≠ 137 → J1 a = I a)) → ∀ (r : Nat) (t : Int) (J : It), 0 ≤ t → t + r = D 0 5 → J 138 0 = D 0 13 → (∀ j, 0 ≤ j → j < D 0 13 → J 138 (1 + j) = D 10 j ∧ J 138 (15 + j) = D 12 j ∧ J 138 (8 + j) = D 11 j) → (∀ i, 22 ≤ i → (i < 29 ∨ 29 + t ≤ i) → i < 42 → J 138 i = 0) → (∀ u, 0 ≤ u → u < t → J 138 (29 + u) = D 5 u) → (∀ a, a ≠ 138 → J a = J1 a) → Ev l g mX12_takes d 0 0 Z J P 214 [vA 131, vI t] [] (QV (fun I' => VM I' D ∧ (∀ σ, INI D σ → RS 0 I' D σ) ∧ (I' 131 16 = 0 ∧ I' 131 11 = 0 ∧ I' 131 13 = 0 ∧ I' 131 10 = 0 ∧ I' 131 9 = 0) ∧ (∀ j, j ≠ 16 → j ≠ 11 → j ≠ 13 → j ≠ 10 → j ≠ 9 → I' 131 j = I 131 j) ∧ I' 132 = I 132 ∧ ∀ a, (a < 131 ∨ 145 ≤ a) → I' a = I a) Z P) := by
    intro J1 ⟨b1, b2, b3, b4, b5, b6⟩ r
    obtain ⟨h1, h2, h3, h4, h5⟩ := hD.1
    obtain ⟨-, k1, k2, k3, k4⟩ := id hD
    obtain ⟨c1, c2, c3, c4, c5⟩ := id hC
    have t4 : J1 133 4 = D 0 13 := by rw [b5, sh_i (by omega)]; exact h5
    have t2 : J1 133 2 = D 0 5 := by rw [b5, sh_i (by omega)]; exact h3
    induction r with
    | zero =>
      intro t J g0 g1 q1 q2 q3 q4 fr
      have j2 : J 133 2 = D 0 5 := by rw [fr 133 (by omega)]; exact t2
      refine ev_iload_1 214 dX12_takes_214 ?_
      refine ev_aload_0 215 dX12_takes_215 ?_
      refine ev_getA 216 3 dX12_takes_216 fa_X12_13 (kd_131 hM) (pr_131_3 hN) rfl ?_
      refine ev_iconst 219 dX12_takes_219 ⟨by decide, by decide⟩ ?_
      refine ev_iald 220 dX12_takes_220 (kd_133 hM) ⟨by omega, by have := (ln_133 hM); omega⟩ ?_
      try simp only [j2]
      refine ev_icmp_ge 221 247 dX12_takes_221 rfl (fun h221 => ?_) (fun h221 => ?_)
      · refine ev_aload_0 247 dX12_takes_247 ?_
        refine ev_iconst 248 dX12_takes_248 ⟨by decide, by decide⟩ ?_
        refine ev_pZ 249 16 16 dX12_takes_249 fp_X12_101 (kd_131 hM) (by omega) rfl rfl ?_
        refine ev_aload_0 252 dX12_takes_252 ?_
        refine ev_iconst 253 dX12_takes_253 ⟨by decide, by decide⟩ ?_
        refine ev_pI 254 11 11 dX12_takes_254 fp_X12_105 (kd_131 hM) rfl rfl ?_
        refine ev_aload_0 257 dX12_takes_257 ?_
        refine ev_iconst 258 dX12_takes_258 ⟨by decide, by decide⟩ ?_
        refine ev_pI 259 13 13 dX12_takes_259 fp_X12_108 (kd_131 hM) rfl rfl ?_
        refine ev_aload_0 262 dX12_takes_262 ?_
        refine ev_iconst 263 dX12_takes_263 ⟨by decide, by decide⟩ ?_
        refine ev_pI 264 10 10 dX12_takes_264 fp_X12_111 (kd_131 hM) rfl rfl ?_
        refine ev_aload_0 267 dX12_takes_267 ?_
        refine ev_iconst 268 dX12_takes_268 ⟨by decide, by decide⟩ ?_
        refine ev_pI 269 9 9 dX12_takes_269 fp_X12_114 (kd_131 hM) rfl rfl ?_
        refine ev_vret 272 dX12_takes_272 ?_ rfl
        have e133 : J 133 = J1 133 := fr 133 (by omega)
        have e134 : J 134 = J1 134 := fr 134 (by omega)
        have e135 : J 135 = J1 135 := fr 135 (by omega)
        have e136 : J 136 = J1 136 := fr 136 (by omega)
        refine QV_of ⟨⟨⟨?_, ?_, ?_, ?_, ?_⟩, fun i a c => ?_, fun i a c => ?_, fun i a c => ?_⟩, fun σ hs => ?_, ⟨?_, ?_, ?_, ?_, ?_⟩, fun j z1 z2 z3 z4 z5 => ?_, ?_, fun a za => ?_⟩
        · simp (disch := omega) only [upI_A]; rw [e133, b5, sh_i (by omega)]; exact h1
        · simp (disch := omega) only [upI_A]; rw [e133, b5, sh_i (by omega)]; exact h2
        · simp (disch := omega) only [upI_A]; rw [e133, b5, sh_i (by omega)]; exact h3
        · simp (disch := omega) only [upI_A]; rw [e133, b5, sh_i (by omega)]; exact h4
        · simp (disch := omega) only [upI_A]; rw [e133, b5, sh_i (by omega)]; exact h5
        · simp (disch := omega) only [upI_A]
          obtain ⟨z1, z2, z3⟩ := k1 i a c
          rw [e134, b1, sh_i (by omega), sh_i (by omega), sh_i (by omega), show 24 + (3 * i + 1) = 24 + 3 * i + 1 by omega, show 24 + (3 * i + 2) = 24 + 3 * i + 2 by omega]
          exact ⟨z1, z2, z3⟩
        · simp (disch := omega) only [upI_A]
          obtain ⟨z0, z1, z2, z3⟩ := k2 i a c
          rw [e135, b2, sh_i (by omega), sh_i (by omega), sh_i (by omega), show 24 + (4 * i + 1) = 24 + 4 * i + 1 by omega, show 24 + (4 * i + 2) = 24 + 4 * i + 2 by omega, show 24 + (4 * i + 3) = 24 + 4 * i + 3 by omega]
          exact ⟨z1, z2, z3⟩
        · simp (disch := omega) only [upI_A]
          obtain ⟨z1, z2⟩ := k3 i a c
          rw [e136, b3, sh_i (by omega), sh_i (by omega), show 16 + (2 * i + 1) = 16 + 2 * i + 1 by omega]
          exact ⟨z1, z2⟩
        · obtain ⟨s1, s2, s3, s4⟩ := hs
          refine ⟨by (try simp (disch := omega) only [upI_A]); rw [q1, s2], by (try simp (disch := omega) only [upI_A]); rw [show (0 + 41 : Int) = 41 by omega, q3 41 (by omega) (by omega) (by omega), s1], fun u a c => ?_, fun j a c => ?_⟩
          · (try simp (disch := omega) only [upI_A])
            obtain ⟨y1, y2⟩ := s3 u a (by omega)
            rw [show (0 + 29 + u : Int) = 29 + u by omega, show (0 + 35 + u : Int) = 35 + u by omega, q4 u a (by omega), q3 (35 + u) (by omega) (by omega) (by omega), y1, y2]
            exact ⟨rfl, rfl⟩
          · (try simp (disch := omega) only [upI_A])
            rw [s2] at c
            obtain ⟨y1, y2, y3, y4⟩ := s4 j a c
            obtain ⟨x1, x2, x3⟩ := q2 j a (by omega)
            rw [show (0 + 1 + j : Int) = 1 + j by omega, show (0 + 15 + j : Int) = 15 + j by omega, show (0 + 22 + j : Int) = 22 + j by omega, show (0 + 8 + j : Int) = 8 + j by omega, x1, x2, x3, q3 (22 + j) (by omega) (by omega) (by omega), y1, y2, y3, y4]
            exact ⟨rfl, rfl, by simp [cg], fun _ => rfl⟩
        · simp (disch := omega) only [upI_k, upI_s]
        · simp (disch := omega) only [upI_k, upI_s]
        · simp (disch := omega) only [upI_k, upI_s]
        · simp (disch := omega) only [upI_k, upI_s]
        · simp (disch := omega) only [upI_k, upI_s]
        · simp (disch := omega) only [upI_k]
          rw [fr 131 (by omega), b6 131 (by omega) (by omega) (by omega) (by omega) (by omega)]
        · simp (disch := omega) only [upI_A]
          rw [fr 132 (by omega), b6 132 (by omega) (by omega) (by omega) (by omega) (by omega)]
        · simp (disch := omega) only [upI_A]
          rw [fr a (by omega), b6 a (by omega) (by omega) (by omega) (by omega) (by omega)]
      · exfalso; omega
    | succ r ih =>
      intro t J g0 g1 q1 q2 q3 q4 fr
      have j2 : J 133 2 = D 0 5 := by rw [fr 133 (by omega)]; exact t2
      have jt : J 135 (4 * t) = D 5 t := by rw [fr 135 (by omega), b2, sh_i (by omega)]; exact (k2 t g0 (by omega)).1
      refine ev_iload_1 214 dX12_takes_214 ?_
      refine ev_aload_0 215 dX12_takes_215 ?_
      refine ev_getA 216 3 dX12_takes_216 fa_X12_13 (kd_131 hM) (pr_131_3 hN) rfl ?_
      refine ev_iconst 219 dX12_takes_219 ⟨by decide, by decide⟩ ?_
      refine ev_iald 220 dX12_takes_220 (kd_133 hM) ⟨by omega, by have := (ln_133 hM); omega⟩ ?_
      try simp only [j2, jt]
      refine ev_icmp_ge 221 247 dX12_takes_221 rfl (fun h221 => ?_) (fun h221 => ?_)
      · exfalso; omega
      · refine ev_aload_0 224 dX12_takes_224 ?_
        refine ev_getA 225 8 dX12_takes_225 fa_X12_29 (kd_131 hM) (pr_131_8 hN) rfl ?_
        refine ev_bipush 228 dX12_takes_228 ⟨by decide, by decide⟩ ?_
        refine ev_iload_1 230 dX12_takes_230 ?_
        refine ev_iadd 231 dX12_takes_231 ⟨by omega, by omega⟩ ?_
        refine ev_aload_0 232 dX12_takes_232 ?_
        refine ev_getA 233 5 dX12_takes_233 fa_X12_20 (kd_131 hM) (pr_131_5 hN) rfl ?_
        refine ev_iconst 236 dX12_takes_236 ⟨by decide, by decide⟩ ?_
        refine ev_iload_1 237 dX12_takes_237 ?_
        refine ev_imul 238 dX12_takes_238 ⟨by omega, by omega⟩ ?_
        refine ev_iald 239 dX12_takes_239 (kd_135 hM) ⟨by omega, by have := (ln_135 hM); omega⟩ ?_
        try simp only [j2, jt]
        refine ev_iast 240 dX12_takes_240 (kd_138 hM) ⟨by omega, by have := (ln_138 hM); omega⟩ ?_
        refine ev_iinc_1 241 dX12_takes_241 ⟨by omega, by omega⟩ rfl rfl ?_
        refine ev_goto 244 214 dX12_takes_244 rfl ?_
        refine ih (t + 1) _ (by omega) (by omega) (by rw [upI_k (by omega)]; exact q1) (fun j a c => ?_) (fun i a c e => by rw [upI_k (by omega)]; exact q3 i a (by omega) e) (fun u a c => ?_) (fun a z => by rw [upI_A z]; exact fr a z)
        · rw [upI_k (by omega), upI_k (by omega), upI_k (by omega)]; exact q2 j a c
        · by_cases z : u = t
          · subst z; exact upI_s _ _ _ _
          · rw [upI_k (by omega)]; exact q4 u a (by omega)
  have things : ∀ (J1 : It), (J1 134 = sh (I 134) 24 24 ∧ J1 135 = sh (I 135) 24 24 ∧ J1 136 = sh (I 136) 16 16 ∧ J1 137 = sh (I 137) 15 15 ∧ J1 133 = sh (I 133) 6 6 ∧ (∀ a, a ≠ 133 → a ≠ 134 → a ≠ 135 → a ≠ 136 → a ≠ 137 → J1 a = I a)) → ∀ (r : Nat) (t : Int) (J : It), 0 ≤ t → t + r = D 0 13 → J 138 0 = D 0 13 → (∀ j, 0 ≤ j → j < t → J 138 (1 + j) = D 10 j ∧ J 138 (15 + j) = D 12 j ∧ J 138 (8 + j) = D 11 j) → (∀ i, 22 ≤ i → i < 42 → J 138 i = 0) → (∀ a, a ≠ 138 → J a = J1 a) → Ev l g mX12_takes d 0 0 Z J P 142 [vA 131, vI t] [] (QV (fun I' => VM I' D ∧ (∀ σ, INI D σ → RS 0 I' D σ) ∧ (I' 131 16 = 0 ∧ I' 131 11 = 0 ∧ I' 131 13 = 0 ∧ I' 131 10 = 0 ∧ I' 131 9 = 0) ∧ (∀ j, j ≠ 16 → j ≠ 11 → j ≠ 13 → j ≠ 10 → j ≠ 9 → I' 131 j = I 131 j) ∧ I' 132 = I 132 ∧ ∀ a, (a < 131 ∨ 145 ≤ a) → I' a = I a) Z P) := by
    intro J1 hb r
    have ⟨b1, b2, b3, b4, b5, b6⟩ := hb
    obtain ⟨h1, h2, h3, h4, h5⟩ := hD.1
    obtain ⟨-, k1, k2, k3, k4⟩ := id hD
    obtain ⟨c1, c2, c3, c4, c5⟩ := id hC
    have t4 : J1 133 4 = D 0 13 := by rw [b5, sh_i (by omega)]; exact h5
    have t2 : J1 133 2 = D 0 5 := by rw [b5, sh_i (by omega)]; exact h3
    induction r with
    | zero =>
      intro t J g0 g1 q1 q2 q3 fr
      have j4 : J 133 4 = D 0 13 := by rw [fr 133 (by omega)]; exact t4
      refine ev_iload_1 142 dX12_takes_142 ?_
      refine ev_aload_0 143 dX12_takes_143 ?_
      refine ev_getA 144 3 dX12_takes_144 fa_X12_13 (kd_131 hM) (pr_131_3 hN) rfl ?_
      refine ev_iconst 147 dX12_takes_147 ⟨by decide, by decide⟩ ?_
      refine ev_iald 148 dX12_takes_148 (kd_133 hM) ⟨by omega, by have := (ln_133 hM); omega⟩ ?_
      try simp only [j4]
      refine ev_icmp_ge 149 212 dX12_takes_149 rfl (fun h149 => ?_) (fun h149 => ?_)
      · refine ev_iconst 212 dX12_takes_212 ⟨by decide, by decide⟩ ?_
        refine ev_istore_1 213 dX12_takes_213 rfl rfl ?_
        exact towns J1 hb (D 0 5).toNat 0 J (by omega) (by omega) q1 (fun j a c => q2 j a (by omega)) (fun i a c e => q3 i a e) (fun u a c => by omega) fr
      · exfalso; omega
    | succ r ih =>
      intro t J g0 g1 q1 q2 q3 fr
      have j4 : J 133 4 = D 0 13 := by rw [fr 133 (by omega)]; exact t4
      have e137 : J 137 = sh (I 137) 15 15 := by rw [fr 137 (by omega)]; exact b4
      obtain ⟨m1, m2, m3⟩ := k4 t g0 (by omega)
      have n1 : J 137 (3 * t) = D 10 t := by rw [e137, sh_i (by omega)]; exact m1
      have n2 : J 137 (3 * t + 1) = D 11 t := by rw [e137, sh_i (by omega), show 15 + (3 * t + 1) = 15 + 3 * t + 1 by omega]; exact m2
      have n3 : J 137 (3 * t + 2) = D 12 t := by rw [e137, sh_i (by omega), show 15 + (3 * t + 2) = 15 + 3 * t + 2 by omega]; exact m3
      refine ev_iload_1 142 dX12_takes_142 ?_
      refine ev_aload_0 143 dX12_takes_143 ?_
      refine ev_getA 144 3 dX12_takes_144 fa_X12_13 (kd_131 hM) (pr_131_3 hN) rfl ?_
      refine ev_iconst 147 dX12_takes_147 ⟨by decide, by decide⟩ ?_
      refine ev_iald 148 dX12_takes_148 (kd_133 hM) ⟨by omega, by have := (ln_133 hM); omega⟩ ?_
      try simp only [j4, n1, n2, n3]
      refine ev_icmp_ge 149 212 dX12_takes_149 rfl (fun h149 => ?_) (fun h149 => ?_)
      · exfalso; omega
      · refine ev_aload_0 152 dX12_takes_152 ?_
        refine ev_getA 153 8 dX12_takes_153 fa_X12_29 (kd_131 hM) (pr_131_8 hN) rfl ?_
        refine ev_iconst 156 dX12_takes_156 ⟨by decide, by decide⟩ ?_
        refine ev_iload_1 157 dX12_takes_157 ?_
        refine ev_iadd 158 dX12_takes_158 ⟨by omega, by omega⟩ ?_
        refine ev_aload_0 159 dX12_takes_159 ?_
        refine ev_getA 160 7 dX12_takes_160 fa_X12_26 (kd_131 hM) (pr_131_7 hN) rfl ?_
        refine ev_iconst 163 dX12_takes_163 ⟨by decide, by decide⟩ ?_
        refine ev_iload_1 164 dX12_takes_164 ?_
        refine ev_imul 165 dX12_takes_165 ⟨by omega, by omega⟩ ?_
        refine ev_iald 166 dX12_takes_166 (kd_137 hM) ⟨by omega, by have := (ln_137 hM); omega⟩ ?_
        try simp only [j4, n1, n2, n3]
        refine ev_iast 167 dX12_takes_167 (kd_138 hM) ⟨by omega, by have := (ln_138 hM); omega⟩ ?_
        refine ev_aload_0 168 dX12_takes_168 ?_
        refine ev_getA 169 8 dX12_takes_169 fa_X12_29 (kd_131 hM) (pr_131_8 hN) rfl ?_
        refine ev_bipush 172 dX12_takes_172 ⟨by decide, by decide⟩ ?_
        refine ev_iload_1 174 dX12_takes_174 ?_
        refine ev_iadd 175 dX12_takes_175 ⟨by omega, by omega⟩ ?_
        refine ev_aload_0 176 dX12_takes_176 ?_
        refine ev_getA 177 7 dX12_takes_177 fa_X12_26 (kd_131 hM) (pr_131_7 hN) rfl ?_
        refine ev_iconst 180 dX12_takes_180 ⟨by decide, by decide⟩ ?_
        refine ev_iload_1 181 dX12_takes_181 ?_
        refine ev_imul 182 dX12_takes_182 ⟨by omega, by omega⟩ ?_
        refine ev_iconst 183 dX12_takes_183 ⟨by decide, by decide⟩ ?_
        refine ev_iadd 184 dX12_takes_184 ⟨by omega, by omega⟩ ?_
        refine ev_iald 185 dX12_takes_185 (kd_137 hM) ⟨by omega, by have := (ln_137 hM); omega⟩ ?_
        try simp (disch := omega) only [upI_s, upI_a, upI_k]
        try simp only [j4, n1, n2, n3]
        refine ev_iast 186 dX12_takes_186 (kd_138 hM) ⟨by omega, by have := (ln_138 hM); omega⟩ ?_
        refine ev_aload_0 187 dX12_takes_187 ?_
        refine ev_getA 188 8 dX12_takes_188 fa_X12_29 (kd_131 hM) (pr_131_8 hN) rfl ?_
        refine ev_bipush 191 dX12_takes_191 ⟨by decide, by decide⟩ ?_
        refine ev_iload_1 193 dX12_takes_193 ?_
        refine ev_iadd 194 dX12_takes_194 ⟨by omega, by omega⟩ ?_
        refine ev_aload_0 195 dX12_takes_195 ?_
        refine ev_getA 196 7 dX12_takes_196 fa_X12_26 (kd_131 hM) (pr_131_7 hN) rfl ?_
        refine ev_iconst 199 dX12_takes_199 ⟨by decide, by decide⟩ ?_
        refine ev_iload_1 200 dX12_takes_200 ?_
        refine ev_imul 201 dX12_takes_201 ⟨by omega, by omega⟩ ?_
        refine ev_iconst 202 dX12_takes_202 ⟨by decide, by decide⟩ ?_
        refine ev_iadd 203 dX12_takes_203 ⟨by omega, by omega⟩ ?_
        refine ev_iald 204 dX12_takes_204 (kd_137 hM) ⟨by omega, by have := (ln_137 hM); omega⟩ ?_
        try simp (disch := omega) only [upI_s, upI_a, upI_k]
        try simp only [j4, n1, n2, n3]
        refine ev_iast 205 dX12_takes_205 (kd_138 hM) ⟨by omega, by have := (ln_138 hM); omega⟩ ?_
        refine ev_iinc_1 206 dX12_takes_206 ⟨by omega, by omega⟩ rfl rfl ?_
        refine ev_goto 209 142 dX12_takes_209 rfl ?_
        refine ih (t + 1) _ (by omega) (by omega) (by simp (disch := omega) only [upI_k]; exact q1) (fun j a c => ?_) (fun i a e => by simp (disch := omega) only [upI_k]; exact q3 i a e) (fun a z => by simp only [upI_A z]; exact fr a z)
        by_cases z : j = t
        · subst z
          exact ⟨by simp (disch := omega) only [upI_k, upI_s], by simp (disch := omega) only [upI_k, upI_s], by simp (disch := omega) only [upI_k, upI_s]⟩
        · simp (disch := omega) only [upI_k]
          exact q2 j a (by omega)
  have zero : ∀ (J1 : It), (J1 134 = sh (I 134) 24 24 ∧ J1 135 = sh (I 135) 24 24 ∧ J1 136 = sh (I 136) 16 16 ∧ J1 137 = sh (I 137) 15 15 ∧ J1 133 = sh (I 133) 6 6 ∧ (∀ a, a ≠ 133 → a ≠ 134 → a ≠ 135 → a ≠ 136 → a ≠ 137 → J1 a = I a)) → ∀ (r : Nat) (k : Int) (J : It), 0 ≤ k → k + r = 42 → (∀ i, 0 ≤ i → i < k → J 138 i = 0) → (∀ a, a ≠ 138 → J a = J1 a) → Ev l g mX12_takes d 0 0 Z J P 109 [vA 131, vI k] [] (QV (fun I' => VM I' D ∧ (∀ σ, INI D σ → RS 0 I' D σ) ∧ (I' 131 16 = 0 ∧ I' 131 11 = 0 ∧ I' 131 13 = 0 ∧ I' 131 10 = 0 ∧ I' 131 9 = 0) ∧ (∀ j, j ≠ 16 → j ≠ 11 → j ≠ 13 → j ≠ 10 → j ≠ 9 → I' 131 j = I 131 j) ∧ I' 132 = I 132 ∧ ∀ a, (a < 131 ∨ 145 ≤ a) → I' a = I a) Z P) := by
    intro J1 hb r
    have ⟨b1, b2, b3, b4, b5, b6⟩ := hb
    obtain ⟨h1, h2, h3, h4, h5⟩ := hD.1
    obtain ⟨-, k1, k2, k3, k4⟩ := id hD
    obtain ⟨c1, c2, c3, c4, c5⟩ := id hC
    have t4 : J1 133 4 = D 0 13 := by rw [b5, sh_i (by omega)]; exact h5
    have t2 : J1 133 2 = D 0 5 := by rw [b5, sh_i (by omega)]; exact h3
    induction r with
    | zero =>
      intro k J g0 g1 q1 fr
      have j4 : J 133 4 = D 0 13 := by rw [fr 133 (by omega)]; exact t4
      refine ev_iload_1 109 dX12_takes_109 ?_
      refine ev_bipush 110 dX12_takes_110 ⟨by decide, by decide⟩ ?_
      refine ev_icmp_ge 112 128 dX12_takes_112 rfl (fun h112 => ?_) (fun h112 => ?_)
      · refine ev_aload_0 128 dX12_takes_128 ?_
        refine ev_getA 129 8 dX12_takes_129 fa_X12_29 (kd_131 hM) (pr_131_8 hN) rfl ?_
        refine ev_iconst 132 dX12_takes_132 ⟨by decide, by decide⟩ ?_
        refine ev_aload_0 133 dX12_takes_133 ?_
        refine ev_getA 134 3 dX12_takes_134 fa_X12_13 (kd_131 hM) (pr_131_3 hN) rfl ?_
        refine ev_iconst 137 dX12_takes_137 ⟨by decide, by decide⟩ ?_
        refine ev_iald 138 dX12_takes_138 (kd_133 hM) ⟨by omega, by have := (ln_133 hM); omega⟩ ?_
        try simp only [j4]
        refine ev_iast 139 dX12_takes_139 (kd_138 hM) ⟨by omega, by have := (ln_138 hM); omega⟩ ?_
        refine ev_iconst 140 dX12_takes_140 ⟨by decide, by decide⟩ ?_
        refine ev_istore_1 141 dX12_takes_141 rfl rfl ?_
        exact things J1 hb (D 0 13).toNat 0 _ (by omega) (by omega) (upI_s _ _ _ _) (fun j a c => by omega) (fun i a e => by rw [upI_k (by omega)]; exact q1 i (by omega) (by omega)) (fun a z => by rw [upI_A z]; exact fr a z)
      · exfalso; omega
    | succ r ih =>
      intro k J g0 g1 q1 fr
      refine ev_iload_1 109 dX12_takes_109 ?_
      refine ev_bipush 110 dX12_takes_110 ⟨by decide, by decide⟩ ?_
      refine ev_icmp_ge 112 128 dX12_takes_112 rfl (fun h112 => ?_) (fun h112 => ?_)
      · exfalso; omega
      · refine ev_aload_0 115 dX12_takes_115 ?_
        refine ev_getA 116 8 dX12_takes_116 fa_X12_29 (kd_131 hM) (pr_131_8 hN) rfl ?_
        refine ev_iload_1 119 dX12_takes_119 ?_
        refine ev_iconst 120 dX12_takes_120 ⟨by decide, by decide⟩ ?_
        refine ev_iast 121 dX12_takes_121 (kd_138 hM) ⟨by omega, by have := (ln_138 hM); omega⟩ ?_
        refine ev_iinc_1 122 dX12_takes_122 ⟨by omega, by omega⟩ rfl rfl ?_
        refine ev_goto 125 109 dX12_takes_125 rfl ?_
        refine ih (k + 1) _ (by omega) (by omega) (fun i a c => ?_) (fun a z => by rw [upI_A z]; exact fr a z)
        by_cases z : i = k
        · subst z; exact upI_s _ _ _ _
        · rw [upI_k z]; exact q1 i a (by omega)
  have loop : ∀ (r : Nat) (k : Int) (J : It), 0 ≤ k → k + r = 24 → J 134 = sh (I 134) 24 k → J 135 = sh (I 135) 24 k → J 136 = sh (I 136) 16 (min (k) 16) → J 137 = sh (I 137) 15 (min (k) 15) → J 133 = sh (I 133) 6 (min (k) 6) → (∀ a, a ≠ 133 → a ≠ 134 → a ≠ 135 → a ≠ 136 → a ≠ 137 → J a = I a) → Ev l g mX12_takes d 0 0 Z J P 2 [vA 131, vI k] [] (QV (fun I' => VM I' D ∧ (∀ σ, INI D σ → RS 0 I' D σ) ∧ (I' 131 16 = 0 ∧ I' 131 11 = 0 ∧ I' 131 13 = 0 ∧ I' 131 10 = 0 ∧ I' 131 9 = 0) ∧ (∀ j, j ≠ 16 → j ≠ 11 → j ≠ 13 → j ≠ 10 → j ≠ 9 → I' 131 j = I 131 j) ∧ I' 132 = I 132 ∧ ∀ a, (a < 131 ∨ 145 ≤ a) → I' a = I a) Z P) := by
    intro r
    induction r with
    | zero =>
      intro k J h0 h1 q134 q135 q136 q137 q133 qo
      have e24 : k = 24 := by omega
      rw [e24] at q134 q135 q136 q137 q133
      refine ev_iload_1 2 dX12_takes_2 ?_
      refine ev_bipush 3 dX12_takes_3 ⟨by decide, by decide⟩ ?_
      refine ev_icmp_ge 5 107 dX12_takes_5 rfl (fun h5 => ?_) (fun h5 => ?_)
      · refine ev_iconst 107 dX12_takes_107 ⟨by decide, by decide⟩ ?_
        refine ev_istore_1 108 dX12_takes_108 rfl rfl ?_
        exact zero J ⟨q134, q135, q136, q137, q133, qo⟩ 42 0 J (by omega) (by omega) (fun i a c => by omega) (fun _ _ => rfl)
      · exfalso; omega
    | succ r ih =>
      intro k J h0 h1 q134 q135 q136 q137 q133 qo
      refine ev_iload_1 2 dX12_takes_2 ?_
      refine ev_bipush 3 dX12_takes_3 ⟨by decide, by decide⟩ ?_
      refine ev_icmp_ge 5 107 dX12_takes_5 rfl (fun h5 => ?_) (fun h5 => ?_)
      · exfalso; omega
      · refine ev_aload_0 8 dX12_takes_8 ?_
        refine ev_getA 9 4 dX12_takes_9 fa_X12_17 (kd_131 hM) (pr_131_4 hN) rfl ?_
        refine ev_iload_1 12 dX12_takes_12 ?_
        refine ev_aload_0 13 dX12_takes_13 ?_
        refine ev_getA 14 4 dX12_takes_14 fa_X12_17 (kd_131 hM) (pr_131_4 hN) rfl ?_
        refine ev_bipush 17 dX12_takes_17 ⟨by decide, by decide⟩ ?_
        refine ev_iload_1 19 dX12_takes_19 ?_
        refine ev_iadd 20 dX12_takes_20 ⟨by omega, by omega⟩ ?_
        refine ev_iald 21 dX12_takes_21 (kd_134 hM) ⟨by omega, by have := (ln_134 hM); omega⟩ ?_
        refine ev_iast 22 dX12_takes_22 (kd_134 hM) ⟨by omega, by have := (ln_134 hM); omega⟩ ?_
        refine ev_aload_0 23 dX12_takes_23 ?_
        refine ev_getA 24 5 dX12_takes_24 fa_X12_20 (kd_131 hM) (pr_131_5 hN) rfl ?_
        refine ev_iload_1 27 dX12_takes_27 ?_
        refine ev_aload_0 28 dX12_takes_28 ?_
        refine ev_getA 29 5 dX12_takes_29 fa_X12_20 (kd_131 hM) (pr_131_5 hN) rfl ?_
        refine ev_bipush 32 dX12_takes_32 ⟨by decide, by decide⟩ ?_
        refine ev_iload_1 34 dX12_takes_34 ?_
        refine ev_iadd 35 dX12_takes_35 ⟨by omega, by omega⟩ ?_
        refine ev_iald 36 dX12_takes_36 (kd_135 hM) ⟨by omega, by have := (ln_135 hM); omega⟩ ?_
        try simp (disch := omega) only [upI_s, upI_a, upI_k]
        refine ev_iast 37 dX12_takes_37 (kd_135 hM) ⟨by omega, by have := (ln_135 hM); omega⟩ ?_
        refine ev_iload_1 38 dX12_takes_38 ?_
        refine ev_bipush 39 dX12_takes_39 ⟨by decide, by decide⟩ ?_
        refine ev_icmp_ge 41 59 dX12_takes_41 rfl (fun h41 => ?_) (fun h41 => ?_)
        · refine ev_iload_1 59 dX12_takes_59 ?_
          refine ev_bipush 60 dX12_takes_60 ⟨by decide, by decide⟩ ?_
          refine ev_icmp_ge 62 80 dX12_takes_62 rfl (fun h62 => ?_) (fun h62 => ?_)
          · refine ev_iload_1 80 dX12_takes_80 ?_
            refine ev_bipush 81 dX12_takes_81 ⟨by decide, by decide⟩ ?_
            refine ev_icmp_ge 83 101 dX12_takes_83 rfl (fun h83 => ?_) (fun h83 => ?_)
            · refine ev_iinc_1 101 dX12_takes_101 ⟨by omega, by omega⟩ rfl rfl ?_
              refine ev_goto 104 2 dX12_takes_104 rfl ?_
              first
                | (exfalso; omega)
                | exact ih (k + 1) _ (by omega) (by omega) (by (try simp (disch := omega) only [upI_A]); exact sh_u (by (try simp (disch := omega) only [upI_A]); exact q134) (by (try simp (disch := omega) only [upI_A]); rw [q134]; exact sh_o (by omega)) h0) (by (try simp (disch := omega) only [upI_A]); exact sh_u (by (try simp (disch := omega) only [upI_A]); exact q135) (by (try simp (disch := omega) only [upI_A]); rw [q135]; exact sh_o (by omega)) h0) (by
                    (try simp (disch := omega) only [upI_A])
                    first
                      | (rw [show min (k + 1) 16 = min k 16 by omega]; exact q136)
                      | (rw [show min (k + 1) 16 = k + 1 by omega]; exact sh_u (by (try simp (disch := omega) only [upI_A]); rw [q136, show min k 16 = k by omega]) (by (try simp (disch := omega) only [upI_A]); rw [q136]; exact sh_o (by omega)) h0)) (by
                    (try simp (disch := omega) only [upI_A])
                    first
                      | (rw [show min (k + 1) 15 = min k 15 by omega]; exact q137)
                      | (rw [show min (k + 1) 15 = k + 1 by omega]; exact sh_u (by (try simp (disch := omega) only [upI_A]); rw [q137, show min k 15 = k by omega]) (by (try simp (disch := omega) only [upI_A]); rw [q137]; exact sh_o (by omega)) h0)) (by
                    (try simp (disch := omega) only [upI_A])
                    first
                      | (rw [show min (k + 1) 6 = min k 6 by omega]; exact q133)
                      | (rw [show min (k + 1) 6 = k + 1 by omega]; exact sh_u (by (try simp (disch := omega) only [upI_A]); rw [q133, show min k 6 = k by omega]) (by (try simp (disch := omega) only [upI_A]); rw [q133]; exact sh_o (by omega)) h0)) (fun a a1 a2 a3 a4 a5 => by (try simp (disch := omega) only [upI_A]); exact qo a a1 a2 a3 a4 a5)
            · refine ev_aload_0 86 dX12_takes_86 ?_
              refine ev_getA 87 3 dX12_takes_87 fa_X12_13 (kd_131 hM) (pr_131_3 hN) rfl ?_
              refine ev_iload_1 90 dX12_takes_90 ?_
              refine ev_aload_0 91 dX12_takes_91 ?_
              refine ev_getA 92 3 dX12_takes_92 fa_X12_13 (kd_131 hM) (pr_131_3 hN) rfl ?_
              refine ev_bipush 95 dX12_takes_95 ⟨by decide, by decide⟩ ?_
              refine ev_iload_1 97 dX12_takes_97 ?_
              refine ev_iadd 98 dX12_takes_98 ⟨by omega, by omega⟩ ?_
              refine ev_iald 99 dX12_takes_99 (kd_133 hM) ⟨by omega, by have := (ln_133 hM); omega⟩ ?_
              try simp (disch := omega) only [upI_s, upI_a, upI_k]
              refine ev_iast 100 dX12_takes_100 (kd_133 hM) ⟨by omega, by have := (ln_133 hM); omega⟩ ?_
              refine ev_iinc_1 101 dX12_takes_101 ⟨by omega, by omega⟩ rfl rfl ?_
              refine ev_goto 104 2 dX12_takes_104 rfl ?_
              first
                | (exfalso; omega)
                | exact ih (k + 1) _ (by omega) (by omega) (by (try simp (disch := omega) only [upI_A]); exact sh_u (by (try simp (disch := omega) only [upI_A]); exact q134) (by (try simp (disch := omega) only [upI_A]); rw [q134]; exact sh_o (by omega)) h0) (by (try simp (disch := omega) only [upI_A]); exact sh_u (by (try simp (disch := omega) only [upI_A]); exact q135) (by (try simp (disch := omega) only [upI_A]); rw [q135]; exact sh_o (by omega)) h0) (by
                    (try simp (disch := omega) only [upI_A])
                    first
                      | (rw [show min (k + 1) 16 = min k 16 by omega]; exact q136)
                      | (rw [show min (k + 1) 16 = k + 1 by omega]; exact sh_u (by (try simp (disch := omega) only [upI_A]); rw [q136, show min k 16 = k by omega]) (by (try simp (disch := omega) only [upI_A]); rw [q136]; exact sh_o (by omega)) h0)) (by
                    (try simp (disch := omega) only [upI_A])
                    first
                      | (rw [show min (k + 1) 15 = min k 15 by omega]; exact q137)
                      | (rw [show min (k + 1) 15 = k + 1 by omega]; exact sh_u (by (try simp (disch := omega) only [upI_A]); rw [q137, show min k 15 = k by omega]) (by (try simp (disch := omega) only [upI_A]); rw [q137]; exact sh_o (by omega)) h0)) (by
                    (try simp (disch := omega) only [upI_A])
                    first
                      | (rw [show min (k + 1) 6 = min k 6 by omega]; exact q133)
                      | (rw [show min (k + 1) 6 = k + 1 by omega]; exact sh_u (by (try simp (disch := omega) only [upI_A]); rw [q133, show min k 6 = k by omega]) (by (try simp (disch := omega) only [upI_A]); rw [q133]; exact sh_o (by omega)) h0)) (fun a a1 a2 a3 a4 a5 => by (try simp (disch := omega) only [upI_A]); exact qo a a1 a2 a3 a4 a5)
          · refine ev_aload_0 65 dX12_takes_65 ?_
            refine ev_getA 66 7 dX12_takes_66 fa_X12_26 (kd_131 hM) (pr_131_7 hN) rfl ?_
            refine ev_iload_1 69 dX12_takes_69 ?_
            refine ev_aload_0 70 dX12_takes_70 ?_
            refine ev_getA 71 7 dX12_takes_71 fa_X12_26 (kd_131 hM) (pr_131_7 hN) rfl ?_
            refine ev_bipush 74 dX12_takes_74 ⟨by decide, by decide⟩ ?_
            refine ev_iload_1 76 dX12_takes_76 ?_
            refine ev_iadd 77 dX12_takes_77 ⟨by omega, by omega⟩ ?_
            refine ev_iald 78 dX12_takes_78 (kd_137 hM) ⟨by omega, by have := (ln_137 hM); omega⟩ ?_
            try simp (disch := omega) only [upI_s, upI_a, upI_k]
            refine ev_iast 79 dX12_takes_79 (kd_137 hM) ⟨by omega, by have := (ln_137 hM); omega⟩ ?_
            refine ev_iload_1 80 dX12_takes_80 ?_
            refine ev_bipush 81 dX12_takes_81 ⟨by decide, by decide⟩ ?_
            refine ev_icmp_ge 83 101 dX12_takes_83 rfl (fun h83 => ?_) (fun h83 => ?_)
            · refine ev_iinc_1 101 dX12_takes_101 ⟨by omega, by omega⟩ rfl rfl ?_
              refine ev_goto 104 2 dX12_takes_104 rfl ?_
              first
                | (exfalso; omega)
                | exact ih (k + 1) _ (by omega) (by omega) (by (try simp (disch := omega) only [upI_A]); exact sh_u (by (try simp (disch := omega) only [upI_A]); exact q134) (by (try simp (disch := omega) only [upI_A]); rw [q134]; exact sh_o (by omega)) h0) (by (try simp (disch := omega) only [upI_A]); exact sh_u (by (try simp (disch := omega) only [upI_A]); exact q135) (by (try simp (disch := omega) only [upI_A]); rw [q135]; exact sh_o (by omega)) h0) (by
                    (try simp (disch := omega) only [upI_A])
                    first
                      | (rw [show min (k + 1) 16 = min k 16 by omega]; exact q136)
                      | (rw [show min (k + 1) 16 = k + 1 by omega]; exact sh_u (by (try simp (disch := omega) only [upI_A]); rw [q136, show min k 16 = k by omega]) (by (try simp (disch := omega) only [upI_A]); rw [q136]; exact sh_o (by omega)) h0)) (by
                    (try simp (disch := omega) only [upI_A])
                    first
                      | (rw [show min (k + 1) 15 = min k 15 by omega]; exact q137)
                      | (rw [show min (k + 1) 15 = k + 1 by omega]; exact sh_u (by (try simp (disch := omega) only [upI_A]); rw [q137, show min k 15 = k by omega]) (by (try simp (disch := omega) only [upI_A]); rw [q137]; exact sh_o (by omega)) h0)) (by
                    (try simp (disch := omega) only [upI_A])
                    first
                      | (rw [show min (k + 1) 6 = min k 6 by omega]; exact q133)
                      | (rw [show min (k + 1) 6 = k + 1 by omega]; exact sh_u (by (try simp (disch := omega) only [upI_A]); rw [q133, show min k 6 = k by omega]) (by (try simp (disch := omega) only [upI_A]); rw [q133]; exact sh_o (by omega)) h0)) (fun a a1 a2 a3 a4 a5 => by (try simp (disch := omega) only [upI_A]); exact qo a a1 a2 a3 a4 a5)
            · refine ev_aload_0 86 dX12_takes_86 ?_
              refine ev_getA 87 3 dX12_takes_87 fa_X12_13 (kd_131 hM) (pr_131_3 hN) rfl ?_
              refine ev_iload_1 90 dX12_takes_90 ?_
              refine ev_aload_0 91 dX12_takes_91 ?_
              refine ev_getA 92 3 dX12_takes_92 fa_X12_13 (kd_131 hM) (pr_131_3 hN) rfl ?_
              refine ev_bipush 95 dX12_takes_95 ⟨by decide, by decide⟩ ?_
              refine ev_iload_1 97 dX12_takes_97 ?_
              refine ev_iadd 98 dX12_takes_98 ⟨by omega, by omega⟩ ?_
              refine ev_iald 99 dX12_takes_99 (kd_133 hM) ⟨by omega, by have := (ln_133 hM); omega⟩ ?_
              try simp (disch := omega) only [upI_s, upI_a, upI_k]
              refine ev_iast 100 dX12_takes_100 (kd_133 hM) ⟨by omega, by have := (ln_133 hM); omega⟩ ?_
              refine ev_iinc_1 101 dX12_takes_101 ⟨by omega, by omega⟩ rfl rfl ?_
              refine ev_goto 104 2 dX12_takes_104 rfl ?_
              first
                | (exfalso; omega)
                | exact ih (k + 1) _ (by omega) (by omega) (by (try simp (disch := omega) only [upI_A]); exact sh_u (by (try simp (disch := omega) only [upI_A]); exact q134) (by (try simp (disch := omega) only [upI_A]); rw [q134]; exact sh_o (by omega)) h0) (by (try simp (disch := omega) only [upI_A]); exact sh_u (by (try simp (disch := omega) only [upI_A]); exact q135) (by (try simp (disch := omega) only [upI_A]); rw [q135]; exact sh_o (by omega)) h0) (by
                    (try simp (disch := omega) only [upI_A])
                    first
                      | (rw [show min (k + 1) 16 = min k 16 by omega]; exact q136)
                      | (rw [show min (k + 1) 16 = k + 1 by omega]; exact sh_u (by (try simp (disch := omega) only [upI_A]); rw [q136, show min k 16 = k by omega]) (by (try simp (disch := omega) only [upI_A]); rw [q136]; exact sh_o (by omega)) h0)) (by
                    (try simp (disch := omega) only [upI_A])
                    first
                      | (rw [show min (k + 1) 15 = min k 15 by omega]; exact q137)
                      | (rw [show min (k + 1) 15 = k + 1 by omega]; exact sh_u (by (try simp (disch := omega) only [upI_A]); rw [q137, show min k 15 = k by omega]) (by (try simp (disch := omega) only [upI_A]); rw [q137]; exact sh_o (by omega)) h0)) (by
                    (try simp (disch := omega) only [upI_A])
                    first
                      | (rw [show min (k + 1) 6 = min k 6 by omega]; exact q133)
                      | (rw [show min (k + 1) 6 = k + 1 by omega]; exact sh_u (by (try simp (disch := omega) only [upI_A]); rw [q133, show min k 6 = k by omega]) (by (try simp (disch := omega) only [upI_A]); rw [q133]; exact sh_o (by omega)) h0)) (fun a a1 a2 a3 a4 a5 => by (try simp (disch := omega) only [upI_A]); exact qo a a1 a2 a3 a4 a5)
        · refine ev_aload_0 44 dX12_takes_44 ?_
          refine ev_getA 45 6 dX12_takes_45 fa_X12_23 (kd_131 hM) (pr_131_6 hN) rfl ?_
          refine ev_iload_1 48 dX12_takes_48 ?_
          refine ev_aload_0 49 dX12_takes_49 ?_
          refine ev_getA 50 6 dX12_takes_50 fa_X12_23 (kd_131 hM) (pr_131_6 hN) rfl ?_
          refine ev_bipush 53 dX12_takes_53 ⟨by decide, by decide⟩ ?_
          refine ev_iload_1 55 dX12_takes_55 ?_
          refine ev_iadd 56 dX12_takes_56 ⟨by omega, by omega⟩ ?_
          refine ev_iald 57 dX12_takes_57 (kd_136 hM) ⟨by omega, by have := (ln_136 hM); omega⟩ ?_
          try simp (disch := omega) only [upI_s, upI_a, upI_k]
          refine ev_iast 58 dX12_takes_58 (kd_136 hM) ⟨by omega, by have := (ln_136 hM); omega⟩ ?_
          refine ev_iload_1 59 dX12_takes_59 ?_
          refine ev_bipush 60 dX12_takes_60 ⟨by decide, by decide⟩ ?_
          refine ev_icmp_ge 62 80 dX12_takes_62 rfl (fun h62 => ?_) (fun h62 => ?_)
          · refine ev_iload_1 80 dX12_takes_80 ?_
            refine ev_bipush 81 dX12_takes_81 ⟨by decide, by decide⟩ ?_
            refine ev_icmp_ge 83 101 dX12_takes_83 rfl (fun h83 => ?_) (fun h83 => ?_)
            · refine ev_iinc_1 101 dX12_takes_101 ⟨by omega, by omega⟩ rfl rfl ?_
              refine ev_goto 104 2 dX12_takes_104 rfl ?_
              first
                | (exfalso; omega)
                | exact ih (k + 1) _ (by omega) (by omega) (by (try simp (disch := omega) only [upI_A]); exact sh_u (by (try simp (disch := omega) only [upI_A]); exact q134) (by (try simp (disch := omega) only [upI_A]); rw [q134]; exact sh_o (by omega)) h0) (by (try simp (disch := omega) only [upI_A]); exact sh_u (by (try simp (disch := omega) only [upI_A]); exact q135) (by (try simp (disch := omega) only [upI_A]); rw [q135]; exact sh_o (by omega)) h0) (by
                    (try simp (disch := omega) only [upI_A])
                    first
                      | (rw [show min (k + 1) 16 = min k 16 by omega]; exact q136)
                      | (rw [show min (k + 1) 16 = k + 1 by omega]; exact sh_u (by (try simp (disch := omega) only [upI_A]); rw [q136, show min k 16 = k by omega]) (by (try simp (disch := omega) only [upI_A]); rw [q136]; exact sh_o (by omega)) h0)) (by
                    (try simp (disch := omega) only [upI_A])
                    first
                      | (rw [show min (k + 1) 15 = min k 15 by omega]; exact q137)
                      | (rw [show min (k + 1) 15 = k + 1 by omega]; exact sh_u (by (try simp (disch := omega) only [upI_A]); rw [q137, show min k 15 = k by omega]) (by (try simp (disch := omega) only [upI_A]); rw [q137]; exact sh_o (by omega)) h0)) (by
                    (try simp (disch := omega) only [upI_A])
                    first
                      | (rw [show min (k + 1) 6 = min k 6 by omega]; exact q133)
                      | (rw [show min (k + 1) 6 = k + 1 by omega]; exact sh_u (by (try simp (disch := omega) only [upI_A]); rw [q133, show min k 6 = k by omega]) (by (try simp (disch := omega) only [upI_A]); rw [q133]; exact sh_o (by omega)) h0)) (fun a a1 a2 a3 a4 a5 => by (try simp (disch := omega) only [upI_A]); exact qo a a1 a2 a3 a4 a5)
            · refine ev_aload_0 86 dX12_takes_86 ?_
              refine ev_getA 87 3 dX12_takes_87 fa_X12_13 (kd_131 hM) (pr_131_3 hN) rfl ?_
              refine ev_iload_1 90 dX12_takes_90 ?_
              refine ev_aload_0 91 dX12_takes_91 ?_
              refine ev_getA 92 3 dX12_takes_92 fa_X12_13 (kd_131 hM) (pr_131_3 hN) rfl ?_
              refine ev_bipush 95 dX12_takes_95 ⟨by decide, by decide⟩ ?_
              refine ev_iload_1 97 dX12_takes_97 ?_
              refine ev_iadd 98 dX12_takes_98 ⟨by omega, by omega⟩ ?_
              refine ev_iald 99 dX12_takes_99 (kd_133 hM) ⟨by omega, by have := (ln_133 hM); omega⟩ ?_
              try simp (disch := omega) only [upI_s, upI_a, upI_k]
              refine ev_iast 100 dX12_takes_100 (kd_133 hM) ⟨by omega, by have := (ln_133 hM); omega⟩ ?_
              refine ev_iinc_1 101 dX12_takes_101 ⟨by omega, by omega⟩ rfl rfl ?_
              refine ev_goto 104 2 dX12_takes_104 rfl ?_
              first
                | (exfalso; omega)
                | exact ih (k + 1) _ (by omega) (by omega) (by (try simp (disch := omega) only [upI_A]); exact sh_u (by (try simp (disch := omega) only [upI_A]); exact q134) (by (try simp (disch := omega) only [upI_A]); rw [q134]; exact sh_o (by omega)) h0) (by (try simp (disch := omega) only [upI_A]); exact sh_u (by (try simp (disch := omega) only [upI_A]); exact q135) (by (try simp (disch := omega) only [upI_A]); rw [q135]; exact sh_o (by omega)) h0) (by
                    (try simp (disch := omega) only [upI_A])
                    first
                      | (rw [show min (k + 1) 16 = min k 16 by omega]; exact q136)
                      | (rw [show min (k + 1) 16 = k + 1 by omega]; exact sh_u (by (try simp (disch := omega) only [upI_A]); rw [q136, show min k 16 = k by omega]) (by (try simp (disch := omega) only [upI_A]); rw [q136]; exact sh_o (by omega)) h0)) (by
                    (try simp (disch := omega) only [upI_A])
                    first
                      | (rw [show min (k + 1) 15 = min k 15 by omega]; exact q137)
                      | (rw [show min (k + 1) 15 = k + 1 by omega]; exact sh_u (by (try simp (disch := omega) only [upI_A]); rw [q137, show min k 15 = k by omega]) (by (try simp (disch := omega) only [upI_A]); rw [q137]; exact sh_o (by omega)) h0)) (by
                    (try simp (disch := omega) only [upI_A])
                    first
                      | (rw [show min (k + 1) 6 = min k 6 by omega]; exact q133)
                      | (rw [show min (k + 1) 6 = k + 1 by omega]; exact sh_u (by (try simp (disch := omega) only [upI_A]); rw [q133, show min k 6 = k by omega]) (by (try simp (disch := omega) only [upI_A]); rw [q133]; exact sh_o (by omega)) h0)) (fun a a1 a2 a3 a4 a5 => by (try simp (disch := omega) only [upI_A]); exact qo a a1 a2 a3 a4 a5)
          · refine ev_aload_0 65 dX12_takes_65 ?_
            refine ev_getA 66 7 dX12_takes_66 fa_X12_26 (kd_131 hM) (pr_131_7 hN) rfl ?_
            refine ev_iload_1 69 dX12_takes_69 ?_
            refine ev_aload_0 70 dX12_takes_70 ?_
            refine ev_getA 71 7 dX12_takes_71 fa_X12_26 (kd_131 hM) (pr_131_7 hN) rfl ?_
            refine ev_bipush 74 dX12_takes_74 ⟨by decide, by decide⟩ ?_
            refine ev_iload_1 76 dX12_takes_76 ?_
            refine ev_iadd 77 dX12_takes_77 ⟨by omega, by omega⟩ ?_
            refine ev_iald 78 dX12_takes_78 (kd_137 hM) ⟨by omega, by have := (ln_137 hM); omega⟩ ?_
            try simp (disch := omega) only [upI_s, upI_a, upI_k]
            refine ev_iast 79 dX12_takes_79 (kd_137 hM) ⟨by omega, by have := (ln_137 hM); omega⟩ ?_
            refine ev_iload_1 80 dX12_takes_80 ?_
            refine ev_bipush 81 dX12_takes_81 ⟨by decide, by decide⟩ ?_
            refine ev_icmp_ge 83 101 dX12_takes_83 rfl (fun h83 => ?_) (fun h83 => ?_)
            · refine ev_iinc_1 101 dX12_takes_101 ⟨by omega, by omega⟩ rfl rfl ?_
              refine ev_goto 104 2 dX12_takes_104 rfl ?_
              first
                | (exfalso; omega)
                | exact ih (k + 1) _ (by omega) (by omega) (by (try simp (disch := omega) only [upI_A]); exact sh_u (by (try simp (disch := omega) only [upI_A]); exact q134) (by (try simp (disch := omega) only [upI_A]); rw [q134]; exact sh_o (by omega)) h0) (by (try simp (disch := omega) only [upI_A]); exact sh_u (by (try simp (disch := omega) only [upI_A]); exact q135) (by (try simp (disch := omega) only [upI_A]); rw [q135]; exact sh_o (by omega)) h0) (by
                    (try simp (disch := omega) only [upI_A])
                    first
                      | (rw [show min (k + 1) 16 = min k 16 by omega]; exact q136)
                      | (rw [show min (k + 1) 16 = k + 1 by omega]; exact sh_u (by (try simp (disch := omega) only [upI_A]); rw [q136, show min k 16 = k by omega]) (by (try simp (disch := omega) only [upI_A]); rw [q136]; exact sh_o (by omega)) h0)) (by
                    (try simp (disch := omega) only [upI_A])
                    first
                      | (rw [show min (k + 1) 15 = min k 15 by omega]; exact q137)
                      | (rw [show min (k + 1) 15 = k + 1 by omega]; exact sh_u (by (try simp (disch := omega) only [upI_A]); rw [q137, show min k 15 = k by omega]) (by (try simp (disch := omega) only [upI_A]); rw [q137]; exact sh_o (by omega)) h0)) (by
                    (try simp (disch := omega) only [upI_A])
                    first
                      | (rw [show min (k + 1) 6 = min k 6 by omega]; exact q133)
                      | (rw [show min (k + 1) 6 = k + 1 by omega]; exact sh_u (by (try simp (disch := omega) only [upI_A]); rw [q133, show min k 6 = k by omega]) (by (try simp (disch := omega) only [upI_A]); rw [q133]; exact sh_o (by omega)) h0)) (fun a a1 a2 a3 a4 a5 => by (try simp (disch := omega) only [upI_A]); exact qo a a1 a2 a3 a4 a5)
            · refine ev_aload_0 86 dX12_takes_86 ?_
              refine ev_getA 87 3 dX12_takes_87 fa_X12_13 (kd_131 hM) (pr_131_3 hN) rfl ?_
              refine ev_iload_1 90 dX12_takes_90 ?_
              refine ev_aload_0 91 dX12_takes_91 ?_
              refine ev_getA 92 3 dX12_takes_92 fa_X12_13 (kd_131 hM) (pr_131_3 hN) rfl ?_
              refine ev_bipush 95 dX12_takes_95 ⟨by decide, by decide⟩ ?_
              refine ev_iload_1 97 dX12_takes_97 ?_
              refine ev_iadd 98 dX12_takes_98 ⟨by omega, by omega⟩ ?_
              refine ev_iald 99 dX12_takes_99 (kd_133 hM) ⟨by omega, by have := (ln_133 hM); omega⟩ ?_
              try simp (disch := omega) only [upI_s, upI_a, upI_k]
              refine ev_iast 100 dX12_takes_100 (kd_133 hM) ⟨by omega, by have := (ln_133 hM); omega⟩ ?_
              refine ev_iinc_1 101 dX12_takes_101 ⟨by omega, by omega⟩ rfl rfl ?_
              refine ev_goto 104 2 dX12_takes_104 rfl ?_
              first
                | (exfalso; omega)
                | exact ih (k + 1) _ (by omega) (by omega) (by (try simp (disch := omega) only [upI_A]); exact sh_u (by (try simp (disch := omega) only [upI_A]); exact q134) (by (try simp (disch := omega) only [upI_A]); rw [q134]; exact sh_o (by omega)) h0) (by (try simp (disch := omega) only [upI_A]); exact sh_u (by (try simp (disch := omega) only [upI_A]); exact q135) (by (try simp (disch := omega) only [upI_A]); rw [q135]; exact sh_o (by omega)) h0) (by
                    (try simp (disch := omega) only [upI_A])
                    first
                      | (rw [show min (k + 1) 16 = min k 16 by omega]; exact q136)
                      | (rw [show min (k + 1) 16 = k + 1 by omega]; exact sh_u (by (try simp (disch := omega) only [upI_A]); rw [q136, show min k 16 = k by omega]) (by (try simp (disch := omega) only [upI_A]); rw [q136]; exact sh_o (by omega)) h0)) (by
                    (try simp (disch := omega) only [upI_A])
                    first
                      | (rw [show min (k + 1) 15 = min k 15 by omega]; exact q137)
                      | (rw [show min (k + 1) 15 = k + 1 by omega]; exact sh_u (by (try simp (disch := omega) only [upI_A]); rw [q137, show min k 15 = k by omega]) (by (try simp (disch := omega) only [upI_A]); rw [q137]; exact sh_o (by omega)) h0)) (by
                    (try simp (disch := omega) only [upI_A])
                    first
                      | (rw [show min (k + 1) 6 = min k 6 by omega]; exact q133)
                      | (rw [show min (k + 1) 6 = k + 1 by omega]; exact sh_u (by (try simp (disch := omega) only [upI_A]); rw [q133, show min k 6 = k by omega]) (by (try simp (disch := omega) only [upI_A]); rw [q133]; exact sh_o (by omega)) h0)) (fun a a1 a2 a3 a4 a5 => by (try simp (disch := omega) only [upI_A]); exact qo a a1 a2 a3 a4 a5)
  refine ev_iconst 0 dX12_takes_0 ⟨by decide, by decide⟩ ?_
  refine ev_istore_1 1 dX12_takes_1 rfl rfl ?_
  exact loop 24 0 I (by omega) (by omega) (sh_0 _ _).symm (sh_0 _ _).symm (sh_0 _ _).symm (sh_0 _ _).symm (sh_0 _ _).symm (fun _ _ _ _ _ _ => rfl)
theorem m_lay {l : Launch} {g : Gt} {d : Nat} {Z : Zt} {I : It} {P : Pt'} (hM : LayM Z) (hN : LayQ P) {tx : Int → Int} {n : Int} (hx : I 132 = tx) (hn : I 131 0 = n) (hlen : 0 ≤ n ∧ n ≤ 200) (hL : Ltr tx n) (D0 : Nat → Int → Int) : Mt l g mX12_lay (d + 4) 0 0 [vA 131] Z I P (QM (fun r I' => (¬ ((rdF tx n 200 (startD D0) 0).1 = -4 ∧ hold (rdF tx n 200 (startD D0) 0).2) ∧ r = -2 ∧ GI I I') ∨ (((rdF tx n 200 (startD D0) 0).1 = -4 ∧ hold (rdF tx n 200 (startD D0) 0).2) ∧ r = (rdF tx n 200 (startD D0) 0).2 0 1 ∧ VM I' (rdF tx n 200 (startD D0) 0).2 ∧ (∀ σ, INI (rdF tx n 200 (startD D0) 0).2 σ → RS 0 I' (rdF tx n 200 (startD D0) 0).2 σ) ∧ (I' 131 16 = 0 ∧ I' 131 11 = 0 ∧ I' 131 13 = 0 ∧ I' 131 10 = 0 ∧ I' 131 9 = 0) ∧ I' 131 0 = I 131 0 ∧ I' 132 = I 132 ∧ ∀ a, (a < 131 ∨ 145 ≤ a) → I' a = I a)) Z P) := by
  refine Mt.of kmX12_lay (ls := [vA 131]) (fun _ => rfl) (fun _ => rfl) (okf_k (okf_n rfl)) (fun hok => ?_)
  refine ev_aload_0 0 dX12_lay_0 ?_
  refine ev_cVm_0 1 dX12_lay_1 kmX12_fault lk_X12_121 (kd_131 hM) (m_fault hM hN hx hn hlen hL D0) rfl rfl (fun x1 I1 f1 => ?_)
  obtain ⟨g1, g2, g3⟩ := f1
  refine ev_bipush 4 dX12_lay_4 ⟨by decide, by decide⟩ ?_
  refine ev_jne 6 16 dX12_lay_6 rfl (fun h6 => ?_) (fun h6 => ?_)
  · refine ev_bipush 16 dX12_lay_16 ⟨by decide, by decide⟩ ?_
    refine ev_iret 18 dX12_lay_18 ?_ rfl
    first
      | exact QM_of (Or.inl ⟨fun z => by omega, rfl, g2⟩)
      | exact QM_of (Or.inl ⟨fun z => absurd z.2 (by assumption), rfl, g2⟩)
  · refine ev_aload_0 9 dX12_lay_9 ?_
    refine ev_cVp_0 10 dX12_lay_10 kmX12_isSound lk_X12_124 (kd_131 hM) (m_isSound hM hN (g3 (by omega)).1 (g3 (by omega)).2) rfl rfl ?_
    try simp only [e1]
    refine ev_ifb_ne 13 19 dX12_lay_13 rfl (fun h13 => ?_) (fun h13 => ?_)
    · refine ev_aload_0 19 dX12_lay_19 ?_
      refine ev_cVv_0 20 dX12_lay_20 kmX12_takes lk_X12_55 (kd_131 hM) (m_takes hM hN (g3 (by omega)).1.w (g3 (by omega)).2) rfl rfl (fun I20 f20 => ?_)
      obtain ⟨t1, t2, t3, t4, t5, t6⟩ := f20
      have e1 : I20 133 1 = (rdF tx n 200 (startD D0) 0).2 0 1 := t1.1.2.1
      refine ev_aload_0 23 dX12_lay_23 ?_
      refine ev_getA 24 3 dX12_lay_24 fa_X12_13 (kd_131 hM) (pr_131_3 hN) rfl ?_
      refine ev_iconst 27 dX12_lay_27 ⟨by decide, by decide⟩ ?_
      refine ev_iald 28 dX12_lay_28 (kd_133 hM) ⟨by omega, by have := (ln_133 hM); omega⟩ ?_
      try simp only [e1]
      refine ev_iret 29 dX12_lay_29 ?_ rfl
      exact QM_of (Or.inr ⟨⟨by omega, by assumption⟩, rfl, t1, t2, t3, (t4 0 (by omega) (by omega) (by omega) (by omega) (by omega)).trans (g2.2.2.2.2.2.1 0 (by omega)), t5.trans (g2.2.2.2.2.2.2 132 (by omega) (by omega) (by omega) (by omega) (by omega) (by omega) (by omega)), fun a z => (t6 a z).trans (g2.2.2.2.2.2.2 a (by omega) (by omega) (by omega) (by omega) (by omega) (by omega) (by omega))⟩)
    · refine ev_bipush 16 dX12_lay_16 ⟨by decide, by decide⟩ ?_
      refine ev_iret 18 dX12_lay_18 ?_ rfl
      first
        | exact QM_of (Or.inl ⟨fun z => by omega, rfl, g2⟩)
        | exact QM_of (Or.inl ⟨fun z => absurd z.2 (by assumption), rfl, g2⟩)
