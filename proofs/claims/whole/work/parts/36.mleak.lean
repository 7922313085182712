/-! the reference: warmth that leaks -/
def paF (wm x : Int) (n : Nat) (w : Int) : Int := if w = 0 then 10 * odF wm x n 0 else (10 - x) * odF wm x n w
theorem odF_p (wm x : Int) (n : Nat) (w : Int) : odF wm x (n + 1) w = paF wm x n w + (if w < 9 then x * odF wm x n (w + 1) else 0) := rfl
theorem paF_b {wm x : Int} (hx : 0 ≤ x ∧ x ≤ 10) {n : Nat} (hn : n ≤ 9) (w : Int) : 0 ≤ paF wm x n w ∧ paF wm x n w ≤ 5120000000000 := by
  have h0 := odF_B (wm := wm) hx hn 0
  have h1 := odF_B (wm := wm) hx hn w
  have m3 := mulb (x := 10 - x) (by omega) h1
  unfold paF; split <;> omega
theorem m_leak {l : Launch} {g : Gt} {d : Nat} {Z : Zt} {I : It} {P : Pt'} (hM : LayM Z) (hN : LayQ P) {α : Nat → Int → Int} (hV : VM I α) (hW : WF α) (t k n x w : Int) : Mt l g mX12_leak (d + 2) 0 0 [vA 131, vI t, vI k, vI n, vI x, vI w] Z I P (QN (fun r I' => lkA α t k n x w r ∧ (∀ a, a ≠ 143 → I' a = I a)) Z P) := by
  have v0 := hV.1.1
  have v1 := hV.1.2.1
  have v2 := hV.1.2.2.1
  have v3 := hV.1.2.2.2.1
  have v4 := hV.1.2.2.2.2
  have w0 := hW.1
  have w1 := hW.2.1
  have w5 := hW.2.2.1
  have w10 := hW.2.2.2.1
  refine Mt.of kmX12_leak (ls := [vA 131, vI t, vI k, vI n, vI x, vI w, vX, vX, vX, vX, vX, vX, vX, vX, vX, vX]) (fun _ => rfl) (fun _ => rfl) (okf_k (okf_k (okf_k (okf_k (okf_k (okf_k (okf_n rfl))))))) (fun hok => ?_)
  have gcdl : lkG α t k n x w → ∀ (N : Nat) (a b : Int) (J : It) (v1 v2 : Vv), b.toNat ≤ N → 0 ≤ a → 0 ≤ b → (∀ a, a ≠ 143 → J a = I a) → (∀ g, isG a b g → isG (lkU α t k n x) (10 ^ n.toNat : Int) g) → 0 ≤ (lkU α t k n x) → (lkU α t k n x) ≤ 10000000000000 → 1 ≤ (10 ^ n.toNat : Int) → (10 ^ n.toNat : Int) ≤ 1000000000 → Ev l g mX12_leak (d + 2) 0 0 Z J P 235 [vA 131, vI t, vI k, vI n, vI x, vI w, vL (10 ^ n.toNat : Int), vX, vL (lkU α t k n x), vX, vL a, vX, vL b, vX, v1, v2] [] (QN (fun r I' => lkA α t k n x w r ∧ (∀ a, a ≠ 143 → I' a = I a)) Z P) := by
    intro hg N
    induction N with
    | zero =>
      intro a b J v1 v2 hN ha hb hJ hgc hu0 hu1 ht1 ht2
      have hb0 : b = 0 := by omega
      have hgg : isG (lkU α t k n x) (10 ^ n.toNat : Int) a := hgc a (by rw [hb0]; exact isG_0 a)
      have g0 : a ≠ 0 := isG_n ht1 hgg
      have ta := tdv (a := (lkU α t k n x)) (g := a) (by omega) (by omega)
      have tb := tdv (a := (10 ^ n.toNat : Int)) (g := a) (by omega) (by omega)
      refine ev_lload_12 235 dX12_leak_235 ?_
      refine ev_lconst0 237 dX12_leak_237 ?_
      refine ev_lcmp 238 dX12_leak_238 ?_
      refine ev_ifc_eq 239 260 dX12_leak_239 rfl (fun h239 => ?_) (fun h239 => ?_)
      · refine ev_iload_5 260 dX12_leak_260 ?_
        refine ev_zne 262 273 dX12_leak_262 rfl (fun h262 => ?_) (fun h262 => ?_)
        · refine ev_lload_6 273 dX12_leak_273 ?_
          refine ev_lload_10 275 dX12_leak_275 ?_
          refine ev_ldiv 277 dX12_leak_277 (by omega) ⟨by omega, by omega⟩ ?_
          refine ev_lret 278 dX12_leak_278 ?_ rfl
          first
            | exact QN_of ⟨Or.inl ⟨hg, a, hgg, ha, (if_pos (by omega)).symm⟩, hJ⟩
            | exact QN_of ⟨Or.inl ⟨hg, a, hgg, ha, (if_neg (by omega)).symm⟩, hJ⟩
        · refine ev_lload_8 265 dX12_leak_265 ?_
          refine ev_lload_10 267 dX12_leak_267 ?_
          refine ev_ldiv 269 dX12_leak_269 (by omega) ⟨by omega, by omega⟩ ?_
          refine ev_goto 270 278 dX12_leak_270 rfl ?_
          refine ev_lret 278 dX12_leak_278 ?_ rfl
          first
            | exact QN_of ⟨Or.inl ⟨hg, a, hgg, ha, (if_pos (by omega)).symm⟩, hJ⟩
            | exact QN_of ⟨Or.inl ⟨hg, a, hgg, ha, (if_neg (by omega)).symm⟩, hJ⟩
      · exfalso; omega
    | succ N ih =>
      intro a b J v1 v2 hN ha hb hJ hgc hu0 hu1 ht1 ht2
      by_cases hb0 : b = 0
      · have hgg : isG (lkU α t k n x) (10 ^ n.toNat : Int) a := hgc a (by rw [hb0]; exact isG_0 a)
        have g0 : a ≠ 0 := isG_n ht1 hgg
        have ta := tdv (a := (lkU α t k n x)) (g := a) (by omega) (by omega)
        have tb := tdv (a := (10 ^ n.toNat : Int)) (g := a) (by omega) (by omega)
        refine ev_lload_12 235 dX12_leak_235 ?_
        refine ev_lconst0 237 dX12_leak_237 ?_
        refine ev_lcmp 238 dX12_leak_238 ?_
        refine ev_ifc_eq 239 260 dX12_leak_239 rfl (fun h239 => ?_) (fun h239 => ?_)
        · refine ev_iload_5 260 dX12_leak_260 ?_
          refine ev_zne 262 273 dX12_leak_262 rfl (fun h262 => ?_) (fun h262 => ?_)
          · refine ev_lload_6 273 dX12_leak_273 ?_
            refine ev_lload_10 275 dX12_leak_275 ?_
            refine ev_ldiv 277 dX12_leak_277 (by omega) ⟨by omega, by omega⟩ ?_
            refine ev_lret 278 dX12_leak_278 ?_ rfl
            first
              | exact QN_of ⟨Or.inl ⟨hg, a, hgg, ha, (if_pos (by omega)).symm⟩, hJ⟩
              | exact QN_of ⟨Or.inl ⟨hg, a, hgg, ha, (if_neg (by omega)).symm⟩, hJ⟩
          · refine ev_lload_8 265 dX12_leak_265 ?_
            refine ev_lload_10 267 dX12_leak_267 ?_
            refine ev_ldiv 269 dX12_leak_269 (by omega) ⟨by omega, by omega⟩ ?_
            refine ev_goto 270 278 dX12_leak_270 rfl ?_
            refine ev_lret 278 dX12_leak_278 ?_ rfl
            first
              | exact QN_of ⟨Or.inl ⟨hg, a, hgg, ha, (if_pos (by omega)).symm⟩, hJ⟩
              | exact QN_of ⟨Or.inl ⟨hg, a, hgg, ha, (if_neg (by omega)).symm⟩, hJ⟩
        · exfalso; omega
      · have tm := tmod_bounds (a := a) (M := b) (by omega)
        have tn := Int.tmod_nonneg b ha
        refine ev_lload_12 235 dX12_leak_235 ?_
        refine ev_lconst0 237 dX12_leak_237 ?_
        refine ev_lcmp 238 dX12_leak_238 ?_
        refine ev_ifc_eq 239 260 dX12_leak_239 rfl (fun h239 => ?_) (fun h239 => ?_)
        · exfalso; omega
        · refine ev_lload_10 242 dX12_leak_242 ?_
          refine ev_lload_12 244 dX12_leak_244 ?_
          refine ev_lrem 246 dX12_leak_246 (by omega) ?_
          refine ev_lstore_14 247 dX12_leak_247 rfl rfl ?_
          refine ev_lload_12 249 dX12_leak_249 ?_
          refine ev_lstore_10 251 dX12_leak_251 rfl rfl ?_
          refine ev_lload_14 253 dX12_leak_253 ?_
          refine ev_lstore_12 255 dX12_leak_255 rfl rfl ?_
          refine ev_goto 257 235 dX12_leak_257 rfl ?_
          exact ih b (a.tmod b) J _ _ (by omega) hb tn hJ (fun g z => hgc g (isG_s z)) hu0 hu1 ht1 ht2
  have upl : lkG α t k n x w → ∀ (r j : Nat) (J : It) (v1 v2 v3 v4 v5 : Vv), (j : Int) + r = 10 - k → (∀ v, 0 ≤ v → v ≤ 9 → J 143 v = odF (α 2 t) x n.toNat v) → (∀ a, a ≠ 143 → J a = I a) → Ev l g mX12_leak (d + 2) 0 0 Z J P 202 [vA 131, vI t, vI k, vI n, vI x, vI w, vL (10 ^ n.toNat : Int), vX, vL (smF (odF (α 2 t) x n.toNat) k j), vX, vI (k + j), v1, v2, v3, v4, v5] [] (QN (fun r I' => lkA α t k n x w r ∧ (∀ a, a ≠ 143 → I' a = I a)) Z P) := by
    intro hg r
    have hg2 := hg
    unfold lkG at hg2
    have ob := fun v => odF_B (wm := α 2 t) (x := x) hg.2.2.2.1 (n := n.toNat) (by omega) v
    have p2 := p20 (n := n.toNat) (by omega)
    induction r with
    | zero =>
      intro j J v1 v2 v3 v4 v5 h1 hc hJ
      have sb := smF_b (k := k) ob j
      have eu : (lkU α t k n x) = smF (odF (α 2 t) x n.toNat) k j := by unfold lkU; rw [show (10 - k).toNat = j by omega]
      rw [← eu] at sb ⊢
      refine ev_iload_10 202 dX12_leak_202 ?_
      refine ev_bipush 204 dX12_leak_204 ⟨by decide, by decide⟩ ?_
      refine ev_icmp_ge 206 227 dX12_leak_206 rfl (fun h206 => ?_) (fun h206 => ?_)
      · refine ev_lload_8 227 dX12_leak_227 ?_
        refine ev_lstore_10 229 dX12_leak_229 rfl rfl ?_
        refine ev_lload_6 231 dX12_leak_231 ?_
        refine ev_lstore_12 233 dX12_leak_233 rfl rfl ?_
        exact gcdl hg (10 ^ n.toNat : Int).toNat (lkU α t k n x) (10 ^ n.toNat : Int) J _ _ (by omega) (by omega) (by omega) hJ (fun g z => z) (by omega) (by omega) (by omega) (by omega)
      · exfalso; omega
    | succ r ih =>
      intro j J v1 v2 v3 v4 v5 h1 hc hJ
      have sb := smF_b (k := k) ob j
      have o1 := ob (k + j)
      have c1 := hc (k + j) (by omega) (by omega)
      have ss : smF (odF (α 2 t) x n.toNat) k (j + 1) = smF (odF (α 2 t) x n.toNat) k j + odF (α 2 t) x n.toNat (k + j) := rfl
      refine ev_iload_10 202 dX12_leak_202 ?_
      refine ev_bipush 204 dX12_leak_204 ⟨by decide, by decide⟩ ?_
      refine ev_icmp_ge 206 227 dX12_leak_206 rfl (fun h206 => ?_) (fun h206 => ?_)
      · exfalso; omega
      · refine ev_lload_8 209 dX12_leak_209 ?_
        refine ev_aload_0 211 dX12_leak_211 ?_
        refine ev_getA 212 20 dX12_leak_212 fa_X12_45 (kd_131 hM) (pr_131_20 hN) rfl ?_
        refine ev_iload_10 215 dX12_leak_215 ?_
        refine ev_lald 217 dX12_leak_217 (kd_143 hM) ⟨by omega, by have := (ln_143 hM); omega⟩ ?_
        try simp only [c1]
        refine ev_ladd 218 dX12_leak_218 ⟨by omega, by omega⟩ ?_
        refine ev_lstore_8 219 dX12_leak_219 rfl rfl ?_
        refine ev_iinc_10 221 dX12_leak_221 ⟨by omega, by omega⟩ rfl rfl ?_
        refine ev_goto 224 202 dX12_leak_224 rfl ?_
        rw [← ss, show k + (j : Int) + 1 = k + ((j + 1 : Nat) : Int) by omega]
        exact ih (j + 1) J _ _ _ _ _ (by omega) hc hJ
  have days : lkG α t k n x w → ∀ (r e : Nat) (J : It) (v1 v2 v3 v4 v5 v6 v7 : Vv), (e : Int) + r = n → (∀ v, 0 ≤ v → v ≤ 9 → J 143 v = odF (α 2 t) x e v) → (∀ a, a ≠ 143 → J a = I a) → Ev l g mX12_leak (d + 2) 0 0 Z J P 109 [vA 131, vI t, vI k, vI n, vI x, vI w, vL ((10 : Int) ^ e), vX, vI e, v1, v2, v3, v4, v5, v6, v7] [] (QN (fun r I' => lkA α t k n x w r ∧ (∀ a, a ≠ 143 → I' a = I a)) Z P) := by
    intro hg r
    have hg2 := hg
    unfold lkG at hg2
    induction r with
    | zero =>
      intro e J v1 v2 v3 v4 v5 v6 v7 h1 hc hJ
      have en : n.toNat = e := by omega
      refine ev_iload_8 109 dX12_leak_109 ?_
      refine ev_iload_3 111 dX12_leak_111 ?_
      refine ev_icmp_ge 112 196 dX12_leak_112 rfl (fun h112 => ?_) (fun h112 => ?_)
      · refine ev_lconst0 196 dX12_leak_196 ?_
        refine ev_lstore_8 197 dX12_leak_197 rfl rfl ?_
        refine ev_iload_2 199 dX12_leak_199 ?_
        refine ev_istore_10 200 dX12_leak_200 rfl rfl ?_
        have := upl hg (10 - k).toNat 0 J v3 v4 v5 v6 v7 (by omega) (by rw [en]; exact hc) hJ
        rw [en, show k + ((0 : Nat) : Int) = k by omega] at this
        exact this
      · exfalso; omega
    | succ r ih =>
      intro e J v1 v2 v3 v4 v5 v6 v7 h1 hc hJ
      have ob := fun v => odF_B (wm := α 2 t) (x := x) hg.2.2.2.1 (n := e) (by omega) v
      have pb := fun v => paF_b (wm := α 2 t) (x := x) hg.2.2.2.1 (n := e) (by omega) v
      have p2 := p20 (n := e) (by omega)
      have cells : ∀ (s : Nat) (v : Int) (J : It) (w2 w3 w4 w5 w6 w7 : Vv), 1 ≤ v → v + s = 10 → (∀ u, 0 ≤ u → u ≤ 9 → J 143 u = if u < v - 1 then odF (α 2 t) x (e + 1) u else if u = v - 1 then paF (α 2 t) x e u else odF (α 2 t) x e u) → (∀ a, a ≠ 143 → J a = I a) → Ev l g mX12_leak (d + 2) 0 0 Z J P 130 [vA 131, vI t, vI k, vI n, vI x, vI w, vL ((10 : Int) ^ e), vX, vI e, vI v, w2, w3, w4, w5, w6, w7] [] (QN (fun r I' => lkA α t k n x w r ∧ (∀ a, a ≠ 143 → I' a = I a)) Z P) := by
        intro s
        induction s with
        | zero =>
          intro v J w2 w3 w4 w5 w6 w7 g0 g1 hq hJ
          refine ev_iload_9 130 dX12_leak_130 ?_
          refine ev_bipush 132 dX12_leak_132 ⟨by decide, by decide⟩ ?_
          refine ev_icmp_ge 134 182 dX12_leak_134 rfl (fun h134 => ?_) (fun h134 => ?_)
          · refine ev_lload_6 182 dX12_leak_182 ?_
            refine ev_ldc2 184 dX12_leak_184 kl_X12_240 ⟨by decide, by decide⟩ ?_
            refine ev_lmul 187 dX12_leak_187 ⟨by omega, by omega⟩ ?_
            refine ev_lstore_6 188 dX12_leak_188 rfl rfl ?_
            refine ev_iinc_8 190 dX12_leak_190 ⟨by omega, by omega⟩ rfl rfl ?_
            refine ev_goto 193 109 dX12_leak_193 rfl ?_
            rw [show (e : Int) + 1 = ((e + 1 : Nat) : Int) by omega, ← Int.pow_succ]
            refine ih (e + 1) J _ _ _ _ _ _ _ (by omega) (fun u a b => ?_) hJ
            rw [hq u a b]
            by_cases z : u < v - 1
            · rw [if_pos z]
            · rw [if_neg z, if_pos (by omega), odF_p, if_neg (by omega)]; omega
          · exfalso; omega
        | succ s ih2 =>
          intro v J w2 w3 w4 w5 w6 w7 g0 g1 hq hJ
          have q0 : J 143 v = odF (α 2 t) x e v := by rw [hq v (by omega) (by omega), if_neg (by omega), if_neg (by omega)]
          have q1 : J 143 (v - 1) = paF (α 2 t) x e (v - 1) := by rw [hq (v - 1) (by omega) (by omega), if_neg (by omega), if_pos rfl]
          have mb1 := mulb hg.2.2.2.1 (ob v)
          have mb2 := mulb (x := 10 - x) (by omega) (ob v)
          have pb1 := pb (v - 1)
          have ob1 := ob v
          have mc : odF (α 2 t) x e v * (10 - x) = (10 - x) * odF (α 2 t) x e v := Int.mul_comm _ _
          refine ev_iload_9 130 dX12_leak_130 ?_
          refine ev_bipush 132 dX12_leak_132 ⟨by decide, by decide⟩ ?_
          refine ev_icmp_ge 134 182 dX12_leak_134 rfl (fun h134 => ?_) (fun h134 => ?_)
          · exfalso; omega
          · refine ev_aload_0 137 dX12_leak_137 ?_
            refine ev_getA 138 20 dX12_leak_138 fa_X12_45 (kd_131 hM) (pr_131_20 hN) rfl ?_
            refine ev_iload_9 141 dX12_leak_141 ?_
            refine ev_iconst 143 dX12_leak_143 ⟨by decide, by decide⟩ ?_
            refine ev_isub 144 dX12_leak_144 ⟨by omega, by omega⟩ ?_
            refine ev_dup2 145 dX12_leak_145 ?_
            refine ev_lald 146 dX12_leak_146 (kd_143 hM) ⟨by omega, by have := (ln_143 hM); omega⟩ ?_
            try simp only [q0, q1]
            refine ev_iload_4 147 dX12_leak_147 ?_
            refine ev_i2l 149 dX12_leak_149 ?_
            refine ev_aload_0 150 dX12_leak_150 ?_
            refine ev_getA 151 20 dX12_leak_151 fa_X12_45 (kd_131 hM) (pr_131_20 hN) rfl ?_
            refine ev_iload_9 154 dX12_leak_154 ?_
            refine ev_lald 156 dX12_leak_156 (kd_143 hM) ⟨by omega, by have := (ln_143 hM); omega⟩ ?_
            try simp only [q0, q1]
            refine ev_lmul 157 dX12_leak_157 ⟨by omega, by omega⟩ ?_
            refine ev_ladd 158 dX12_leak_158 ⟨by omega, by omega⟩ ?_
            refine ev_last 159 dX12_leak_159 (kd_143 hM) ⟨by omega, by have := (ln_143 hM); omega⟩ ?_
            refine ev_aload_0 160 dX12_leak_160 ?_
            refine ev_getA 161 20 dX12_leak_161 fa_X12_45 (kd_131 hM) (pr_131_20 hN) rfl ?_
            refine ev_iload_9 164 dX12_leak_164 ?_
            refine ev_dup2 166 dX12_leak_166 ?_
            refine ev_lald 167 dX12_leak_167 (kd_143 hM) ⟨by omega, by have := (ln_143 hM); omega⟩ ?_
            try simp (disch := omega) only [upI_s, upI_a, upI_k]
            try simp only [q0, q1]
            refine ev_bipush 168 dX12_leak_168 ⟨by decide, by decide⟩ ?_
            refine ev_iload_4 170 dX12_leak_170 ?_
            refine ev_isub 172 dX12_leak_172 ⟨by omega, by omega⟩ ?_
            refine ev_i2l 173 dX12_leak_173 ?_
            refine ev_lmul 174 dX12_leak_174 (by rw [mc]; exact ⟨by omega, by omega⟩) ?_
            refine ev_last 175 dX12_leak_175 (kd_143 hM) ⟨by omega, by have := (ln_143 hM); omega⟩ ?_
            refine ev_iinc_9 176 dX12_leak_176 ⟨by omega, by omega⟩ rfl rfl ?_
            refine ev_goto 179 130 dX12_leak_179 rfl ?_
            refine ih2 (v + 1) _ _ _ _ _ _ _ (by omega) (by omega) (fun u a b => ?_) (fun a z => by rw [upI_A z, upI_A z]; exact hJ a z)
            by_cases z : u = v
            · subst z
              rw [upI_s, if_neg (by omega), if_pos (by omega), mc]
              unfold paF; rw [if_neg (by omega)]
            · rw [upI_k z]
              by_cases y : u = v - 1
              · subst y
                rw [upI_s, if_pos (by omega), odF_p, if_pos (by omega), show v - 1 + 1 = v by omega]
              · rw [upI_k y, hq u a b]
                by_cases c : u < v - 1
                · rw [if_pos c, if_pos (by omega)]
                · rw [if_neg c, if_neg y, if_neg (by omega), if_neg (by omega)]
      have q0 := hc 0 (by omega) (by omega)
      have o0 := ob 0
      have mc : odF (α 2 t) x e 0 * 10 = 10 * odF (α 2 t) x e 0 := Int.mul_comm _ _
      refine ev_iload_8 109 dX12_leak_109 ?_
      refine ev_iload_3 111 dX12_leak_111 ?_
      refine ev_icmp_ge 112 196 dX12_leak_112 rfl (fun h112 => ?_) (fun h112 => ?_)
      · exfalso; omega
      · refine ev_aload_0 115 dX12_leak_115 ?_
        refine ev_getA 116 20 dX12_leak_116 fa_X12_45 (kd_131 hM) (pr_131_20 hN) rfl ?_
        refine ev_iconst 119 dX12_leak_119 ⟨by decide, by decide⟩ ?_
        refine ev_dup2 120 dX12_leak_120 ?_
        refine ev_lald 121 dX12_leak_121 (kd_143 hM) ⟨by omega, by have := (ln_143 hM); omega⟩ ?_
        try simp only [q0]
        refine ev_ldc2 122 dX12_leak_122 kl_X12_240 ⟨by decide, by decide⟩ ?_
        refine ev_lmul 125 dX12_leak_125 ⟨by omega, by omega⟩ ?_
        refine ev_last 126 dX12_leak_126 (kd_143 hM) ⟨by omega, by have := (ln_143 hM); omega⟩ ?_
        refine ev_iconst 127 dX12_leak_127 ⟨by decide, by decide⟩ ?_
        refine ev_istore_9 128 dX12_leak_128 rfl rfl ?_
        refine cells 9 1 _ _ _ _ _ _ _ (by omega) (by omega) (fun u a b => ?_) (fun a z => by rw [upI_A z]; exact hJ a z)
        by_cases z : u = 0
        · subst z
          rw [upI_s, if_neg (by omega), if_pos (by omega), mc]; rfl
        · rw [upI_k z, hc u a b, if_neg (by omega), if_neg (by omega)]
  have first : lkG α t k n x w → ∀ (r : Nat) (v : Int) (J : It) (v0 v1 v2 v3 v4 v5 v6 v7 v8 : Vv), 0 ≤ v → v + r = 11 → (∀ u, 0 ≤ u → u < v → J 143 u = odF (α 2 t) x 0 u) → (∀ a, a ≠ 143 → J a = I a) → Ev l g mX12_leak (d + 2) 0 0 Z J P 63 [vA 131, vI t, vI k, vI n, vI x, vI w, vI v, v0, v1, v2, v3, v4, v5, v6, v7, v8] [] (QN (fun r I' => lkA α t k n x w r ∧ (∀ a, a ≠ 143 → I' a = I a)) Z P) := by
    intro hg r
    have hg2 := hg
    unfold lkG at hg2
    have m2 := (hV.2.1 t hg.1.1 hg.1.2).2.1
    induction r with
    | zero =>
      intro v J v0 v1 v2 v3 v4 v5 v6 v7 v8 h0 h1 hc hJ
      refine ev_iload_6 63 dX12_leak_63 ?_
      refine ev_bipush 65 dX12_leak_65 ⟨by decide, by decide⟩ ?_
      refine ev_icmp_ge 67 103 dX12_leak_67 rfl (fun h67 => ?_) (fun h67 => ?_)
      · refine ev_lconst1 103 dX12_leak_103 ?_
        refine ev_lstore_6 104 dX12_leak_104 rfl rfl ?_
        refine ev_iconst 106 dX12_leak_106 ⟨by decide, by decide⟩ ?_
        refine ev_istore_8 107 dX12_leak_107 rfl rfl ?_
        exact days hg n.toNat 0 J _ _ _ _ _ _ _ (by omega) (fun u a b => hc u a (by omega)) hJ
      · exfalso; omega
    | succ r ih =>
      intro v J v0 v1 v2 v3 v4 v5 v6 v7 v8 h0 h1 hc hJ
      have j2 : J 134 (3 * t + 1) = α 2 t := by rw [hJ 134 (by omega)]; exact m2
      refine ev_iload_6 63 dX12_leak_63 ?_
      refine ev_bipush 65 dX12_leak_65 ⟨by decide, by decide⟩ ?_
      refine ev_icmp_ge 67 103 dX12_leak_67 rfl (fun h67 => ?_) (fun h67 => ?_)
      · exfalso; omega
      · refine ev_aload_0 70 dX12_leak_70 ?_
        refine ev_getA 71 20 dX12_leak_71 fa_X12_45 (kd_131 hM) (pr_131_20 hN) rfl ?_
        refine ev_iload_6 74 dX12_leak_74 ?_
        refine ev_iload_6 76 dX12_leak_76 ?_
        refine ev_aload_0 78 dX12_leak_78 ?_
        refine ev_getA 79 4 dX12_leak_79 fa_X12_17 (kd_131 hM) (pr_131_4 hN) rfl ?_
        refine ev_iconst 82 dX12_leak_82 ⟨by decide, by decide⟩ ?_
        refine ev_iload_1 83 dX12_leak_83 ?_
        refine ev_imul 84 dX12_leak_84 ⟨by omega, by omega⟩ ?_
        refine ev_iconst 85 dX12_leak_85 ⟨by decide, by decide⟩ ?_
        refine ev_iadd 86 dX12_leak_86 ⟨by omega, by omega⟩ ?_
        refine ev_iald 87 dX12_leak_87 (kd_134 hM) ⟨by omega, by have := (ln_134 hM); omega⟩ ?_
        try simp only [j2]
        refine ev_jne 88 95 dX12_leak_88 rfl (fun h88 => ?_) (fun h88 => ?_)
        · refine ev_lconst0 95 dX12_leak_95 ?_
          refine ev_last 96 dX12_leak_96 (kd_143 hM) ⟨by omega, by have := (ln_143 hM); omega⟩ ?_
          refine ev_iinc_6 97 dX12_leak_97 ⟨by omega, by omega⟩ rfl rfl ?_
          refine ev_goto 100 63 dX12_leak_100 rfl ?_
          refine ih (v + 1) _ _ _ _ _ _ _ _ _ _ (by omega) (by omega) (fun u a b => ?_) (fun a z => by rw [upI_A z]; exact hJ a z)
          by_cases z : u = v
          · subst z
            rw [upI_s]
            first
              | exact (if_pos (by omega)).symm
              | exact (if_neg (by omega)).symm
          · rw [upI_k z]; exact hc u a (by omega)
        · refine ev_lconst1 91 dX12_leak_91 ?_
          refine ev_goto 92 96 dX12_leak_92 rfl ?_
          refine ev_last 96 dX12_leak_96 (kd_143 hM) ⟨by omega, by have := (ln_143 hM); omega⟩ ?_
          refine ev_iinc_6 97 dX12_leak_97 ⟨by omega, by omega⟩ rfl rfl ?_
          refine ev_goto 100 63 dX12_leak_100 rfl ?_
          refine ih (v + 1) _ _ _ _ _ _ _ _ _ _ (by omega) (by omega) (fun u a b => ?_) (fun a z => by rw [upI_A z]; exact hJ a z)
          by_cases z : u = v
          · subst z
            rw [upI_s]
            first
              | exact (if_pos (by omega)).symm
              | exact (if_neg (by omega)).symm
          · rw [upI_k z]; exact hc u a (by omega)
  refine ev_aload_0 0 dX12_leak_0 ?_
  refine ev_iload_1 1 dX12_leak_1 ?_
  refine ev_cVp_1 2 dX12_leak_2 kmX12_isLevel lk_X12_130 (kd_131 hM) (m_isLevel hM hN hV hW _) rfl rfl ?_
  refine ev_ifb_eq 5 56 dX12_leak_5 rfl (fun h5 => ?_) (fun h5 => ?_)
  · refine ev_ldc2 56 dX12_leak_56 kl_X12_242 ⟨by decide, by decide⟩ ?_
    refine ev_lret 59 dX12_leak_59 ?_ rfl
    exact QN_of ⟨Or.inr ⟨by unfold lkG; omega, rfl⟩, fun _ _ => rfl⟩
  · refine ev_iload_2 8 dX12_leak_8 ?_
    refine ev_i2l 9 dX12_leak_9 ?_
    refine ev_lconst0 10 dX12_leak_10 ?_
    refine ev_ldc2 11 dX12_leak_11 kl_X12_95 ⟨by decide, by decide⟩ ?_
    refine ev_cSp_3 14 dX12_leak_14 kmX12_in lk_X12_62 (m_in _ _ _) rfl rfl ?_
    refine ev_ifb_eq 17 56 dX12_leak_17 rfl (fun h17 => ?_) (fun h17 => ?_)
    · refine ev_ldc2 56 dX12_leak_56 kl_X12_242 ⟨by decide, by decide⟩ ?_
      refine ev_lret 59 dX12_leak_59 ?_ rfl
      exact QN_of ⟨Or.inr ⟨by unfold lkG; omega, rfl⟩, fun _ _ => rfl⟩
    · refine ev_iload_3 20 dX12_leak_20 ?_
      refine ev_i2l 21 dX12_leak_21 ?_
      refine ev_lconst0 22 dX12_leak_22 ?_
      refine ev_ldc2 23 dX12_leak_23 kl_X12_95 ⟨by decide, by decide⟩ ?_
      refine ev_cSp_3 26 dX12_leak_26 kmX12_in lk_X12_62 (m_in _ _ _) rfl rfl ?_
      refine ev_ifb_eq 29 56 dX12_leak_29 rfl (fun h29 => ?_) (fun h29 => ?_)
      · refine ev_ldc2 56 dX12_leak_56 kl_X12_242 ⟨by decide, by decide⟩ ?_
        refine ev_lret 59 dX12_leak_59 ?_ rfl
        exact QN_of ⟨Or.inr ⟨by unfold lkG; omega, rfl⟩, fun _ _ => rfl⟩
      · refine ev_iload_4 32 dX12_leak_32 ?_
        refine ev_i2l 34 dX12_leak_34 ?_
        refine ev_lconst0 35 dX12_leak_35 ?_
        refine ev_ldc2 36 dX12_leak_36 kl_X12_240 ⟨by decide, by decide⟩ ?_
        refine ev_cSp_3 39 dX12_leak_39 kmX12_in lk_X12_62 (m_in _ _ _) rfl rfl ?_
        refine ev_ifb_eq 42 56 dX12_leak_42 rfl (fun h42 => ?_) (fun h42 => ?_)
        · refine ev_ldc2 56 dX12_leak_56 kl_X12_242 ⟨by decide, by decide⟩ ?_
          refine ev_lret 59 dX12_leak_59 ?_ rfl
          exact QN_of ⟨Or.inr ⟨by unfold lkG; omega, rfl⟩, fun _ _ => rfl⟩
        · refine ev_iload_5 45 dX12_leak_45 ?_
          refine ev_i2l 47 dX12_leak_47 ?_
          refine ev_lconst0 48 dX12_leak_48 ?_
          refine ev_lconst1 49 dX12_leak_49 ?_
          refine ev_cSp_3 50 dX12_leak_50 kmX12_in lk_X12_62 (m_in _ _ _) rfl rfl ?_
          refine ev_ifb_ne 53 60 dX12_leak_53 rfl (fun h53 => ?_) (fun h53 => ?_)
          · refine ev_iconst 60 dX12_leak_60 ⟨by decide, by decide⟩ ?_
            refine ev_istore_6 61 dX12_leak_61 rfl rfl ?_
            exact first (by unfold lkG; omega) 11 0 I _ _ _ _ _ _ _ _ _ (by omega) (by omega) (fun u a b => by omega) (fun _ _ => rfl)
          · refine ev_ldc2 56 dX12_leak_56 kl_X12_242 ⟨by decide, by decide⟩ ?_
            refine ev_lret 59 dX12_leak_59 ?_ rfl
            exact QN_of ⟨Or.inr ⟨by unfold lkG; omega, rfl⟩, fun _ _ => rfl⟩
