/-! one call of the law after another: the two answers are the same, and what holds between the calls holds again -/
def NXT (l : Launch) (g : Gt) (Q : Qt) (i : Int) : Prop := ∀ (T D : Nat) (α σ : Nat → Int → Int) (U V : Int → Nat → Int → Int) (Z : Zt) (I : It) (P : Pt'), Bo T D α σ U V Z I P → Ev l g mL 9 (2 * nn P) (194 * nn P) Z I P 1157 [vS, vA 0, vA 131, vI i] [] Q
-- the two sides' far away differ, and it does not show
theorem le_cc {α : Nat → Int → Int} (hW : WF α) {b : Int} (hb : b ≤ 99) (s v : Int) : dS 100000 α s v ≤ b ↔ dS 1000000 α s v ≤ b := by
  obtain ⟨i, e⟩ := dS_cc (c1 := 100000) (c2 := 1000000) hW (by omega) (by omega) s v
  constructor
  · intro z; rw [← e (by omega)]; exact z
  · intro z; rw [e (i.mpr (by omega))]; exact z
theorem tm_cc {α : Nat → Int → Int} (hW : WF α) (x y z w : Int) : tmA 1000000 α x y z w = tmA 100000 α x y z w := by
  unfold tmA
  obtain ⟨i, e⟩ := dS_cc (c1 := 100000) (c2 := 1000000) hW (by omega) (by omega) (24 * x + y) (24 * z + w)
  split
  · by_cases c : dS 100000 α (24 * x + y) (24 * z + w) < 100000
    · rw [if_pos c, if_pos (i.mp c), e c]
    · rw [if_neg c, if_neg (fun q => c (i.mpr q))]
  · rfl
theorem hr_cc {α σ : Nat → Int → Int} (hW : WF α) (t b : Int) : hrA 1000000 α σ t b = hrA 100000 α σ t b := by
  unfold hrA
  split
  · rename_i c
    split
    · rw [bF_cg (p := fun u => u ≠ t ∧ σ 2 u = 0 ∧ dS 1000000 α (24 * α 4 t + σ 1 t) (24 * α 4 u + σ 1 u) ≤ b) (q := fun u => u ≠ t ∧ σ 2 u = 0 ∧ dS 100000 α (24 * α 4 t + σ 1 t) (24 * α 4 u + σ 1 u) ≤ b) (fun u => by rw [le_cc hW c.2.2])]
    · rfl
  · rfl
theorem sh_cc {α σ : Nat → Int → Int} (hW : WF α) (t : Int) : shA 1000000 α σ t = shA 100000 α σ t := by
  unfold shA
  rw [show (fun v => op α v ∧ (1000000 : Int) ≤ dS 1000000 α (24 * α 4 t + σ 1 t) v) = (fun v => op α v ∧ (100000 : Int) ≤ dS 100000 α (24 * α 4 t + σ 1 t) v) from funext fun v => propext (by
    have i := (dS_cc (c1 := 100000) (c2 := 1000000) hW (by omega) (by omega) (24 * α 4 t + σ 1 t) v).1
    constructor
    · intro z; exact ⟨z.1, by have := z.2; have : ¬ dS 100000 α (24 * α 4 t + σ 1 t) v < 100000 := fun q => by have := i.mp q; omega
                              omega⟩
    · intro z; exact ⟨z.1, by have := z.2; have : ¬ dS 1000000 α (24 * α 4 t + σ 1 t) v < 1000000 := fun q => by have := i.mpr q; omega
                              omega⟩)]
theorem CS_cc {α σ : Nat → Int → Int} (hW : WF α) {n m : Int} {τ β τ' β' : Int → Int} (hn : n = m) (ht : ∀ i, 0 ≤ i → i < n → τ i = τ' i ∧ β i = β' i) (v : Int) : CS 1000000 α σ n τ β v ↔ CS 100000 α σ m τ' β' v := by
  subst hn
  have cc := fun s => dS_cc (c1 := 100000) (c2 := 1000000) hW (by omega) (by omega) s v
  constructor
  · intro z i a b
    obtain ⟨z1, z2⟩ := z i a b
    obtain ⟨y1, y2⟩ := z 0 (by omega) (by omega)
    have u1 := (cc (24 * α 4 (τ i) + σ 1 (τ i))).1.mpr z1
    have u2 := (cc (24 * α 4 (τ 0) + σ 1 (τ 0))).1.mpr y1
    rw [← (cc _).2 u1, ← (cc _).2 u2] at z2
    rw [(ht i a b).1, (ht i a b).2, (ht 0 (by omega) (by omega)).1, (ht 0 (by omega) (by omega)).2] at z2
    rw [(ht i a b).1] at u1
    exact ⟨u1, z2⟩
  · intro z i a b
    obtain ⟨z1, z2⟩ := z i a b
    obtain ⟨y1, y2⟩ := z 0 (by omega) (by omega)
    rw [← (ht i a b).1] at z1 z2
    rw [← (ht i a b).2, ← (ht 0 (by omega) (by omega)).1, ← (ht 0 (by omega) (by omega)).2] at z2
    rw [← (ht 0 (by omega) (by omega)).1] at y1
    rw [(cc _).2 z1, (cc _).2 y1] at z2
    exact ⟨(cc _).1.mp z1, z2⟩
theorem AL_cc {α : Nat → Int → Int} (hW : WF α) {b : Int} (hb : b ≤ 99) (σ : Nat → Int → Int) (h : Int → Int) : AL 1000000 α σ h b = AL 100000 α σ h b := by
  unfold AL
  exact propext ⟨fun z t a c u a2 c2 d e => (le_cc hW hb _ _).mpr (z t a c u a2 c2 d e), fun z t a c u a2 c2 d e => (le_cc hW hb _ _).mp (z t a c u a2 c2 d e)⟩
theorem HG_cc {α : Nat → Int → Int} (hW : WF α) {b : Int} (hb : b ≤ 99) (σ : Nat → Int → Int) (h : Int → Int) (fr : Int) : HG 1000000 α σ h b fr = HG 100000 α σ h b fr := by
  funext v; unfold HG; rw [AL_cc hW hb]
theorem P2_cc {α : Nat → Int → Int} (hW : WF α) {b : Int} (hb : b ≤ 99) (σ : Nat → Int → Int) (h : Int → Int) : P2 1000000 α σ h b = P2 100000 α σ h b := by
  funext v; unfold P2; rw [HG_cc hW hb]
theorem mv_cc {α σ : Nat → Int → Int} (hW : WF α) {b w r s : Int} (h : mvA 1000000 α σ b w r) (k : mvA 100000 α σ b w s) : r = s := by
  rcases h with ⟨h1, n, lo, up, h2, h3⟩ | ⟨h1, h2⟩ <;> rcases k with ⟨k1, n', lo', up', k2, k3⟩ | ⟨k1, k2⟩
  · have e : MV 1000000 α σ b n lo up = MV 100000 α σ b n lo up := by
      unfold MV
      simp only [AL_cc hW h1.1.2, HG_cc hW h1.1.2, P2_cc hW h1.1.2]
    rw [e] at h2
    obtain ⟨e1, e2, e3⟩ := h2.u k2
    rw [h3, k3, e1, e2, e3]
  · exact absurd h1 k1
  · exact absurd k1 h1
  · omega
theorem wh_u {p q : Int → Prop} (e : ∀ v, p v ↔ q v) {w r s : Int} (h : whA p w r) (k : whA q w s) : r = s := by
  obtain rfl : p = q := funext fun v => propext (e v)
  rcases h with ⟨h1, n, m, h2, h3⟩ | ⟨h1, h2⟩ <;> rcases k with ⟨k1, n', m', k2, k3⟩ | ⟨k1, k2⟩
  · rw [h3, k3, h2.1, k2.1, h2.2.u k2.2]
  · exact absurd h1 k1
  · exact absurd k1 h1
  · omega
theorem b_level {l : Launch} {g : Gt} {T D : Nat} {α σ : Nat → Int → Int} {U V : Int → Nat → Int → Int} {Z : Zt} {I : It} {P : Pt'} {L i : Int} {X : Int → Int} {Q : Qt} (hX : SCR g L X) (hi : 0 ≤ i ∧ i + 6 ≤ L) (h : Bo T D α σ U V Z I P) (k : NXT l g Q i) : Ev l g mL 9 (2 * nn P) (194 * nn P) Z I P 246 [vS, vA 0, vA 131, vI i] [] Q := by
  have hL := hX.2.1
  have hZ := h.sn.1
  have hM := h.lm
  refine ev_aload_1 246 dL_law_246 ?_
  refine ev_aloadS_0 247 dL_law_247 ?_
  refine ev_iload_3 248 dL_law_248 ?_
  refine ev_iconst 249 dL_law_249 ⟨by decide, by decide⟩ ?_
  refine ev_iadd 250 dL_law_250 ⟨by omega, by omega⟩ ?_
  refine ev_sald 251 hX dL_law_251 ⟨by omega, by omega⟩ ?_
  refine ev_aloadS_0 252 dL_law_252 ?_
  refine ev_iload_3 253 dL_law_253 ?_
  refine ev_iconst 254 dL_law_254 ⟨by decide, by decide⟩ ?_
  refine ev_iadd 255 dL_law_255 ⟨by omega, by omega⟩ ?_
  refine ev_sald 256 hX dL_law_256 ⟨by omega, by omega⟩ ?_
  refine ev_cVp_2 257 dL_law_257 kmX11_level lk_L_31 (kd_0 hZ) (c_level (d := 7) h.sn h.rb.vs h.ws _ _) rfl rfl ?_
  refine ev_aload_2 260 dL_law_260 ?_
  refine ev_aloadS_0 261 dL_law_261 ?_
  refine ev_iload_3 262 dL_law_262 ?_
  refine ev_iconst 263 dL_law_263 ⟨by decide, by decide⟩ ?_
  refine ev_iadd 264 dL_law_264 ⟨by omega, by omega⟩ ?_
  refine ev_sald 265 hX dL_law_265 ⟨by omega, by omega⟩ ?_
  refine ev_aloadS_0 266 dL_law_266 ?_
  refine ev_iload_3 267 dL_law_267 ?_
  refine ev_iconst 268 dL_law_268 ⟨by decide, by decide⟩ ?_
  refine ev_iadd 269 dL_law_269 ⟨by omega, by omega⟩ ?_
  refine ev_sald 270 hX dL_law_270 ⟨by omega, by omega⟩ ?_
  refine ev_cVp_2 271 dL_law_271 kmX12_level lk_L_35 (kd_131 hM) (m_level (d := 6) h.lm h.lq h.rb.vm h.w _ _) rfl rfl ?_
  refine ev_icmp_eq 274 1157 dL_law_274 rfl (fun hq => ?_) (fun hq => ?_)
  · exact k _ _ _ _ _ _ _ _ _ h
  · exact absurd rfl hq
theorem b_town {l : Launch} {g : Gt} {T D : Nat} {α σ : Nat → Int → Int} {U V : Int → Nat → Int → Int} {Z : Zt} {I : It} {P : Pt'} {L i : Int} {X : Int → Int} {Q : Qt} (hX : SCR g L X) (hi : 0 ≤ i ∧ i + 6 ≤ L) (h : Bo T D α σ U V Z I P) (k : NXT l g Q i) : Ev l g mL 9 (2 * nn P) (194 * nn P) Z I P 279 [vS, vA 0, vA 131, vI i] [] Q := by
  have hL := hX.2.1
  have hZ := h.sn.1
  have hM := h.lm
  refine ev_aload_1 279 dL_law_279 ?_
  refine ev_aloadS_0 280 dL_law_280 ?_
  refine ev_iload_3 281 dL_law_281 ?_
  refine ev_iconst 282 dL_law_282 ⟨by decide, by decide⟩ ?_
  refine ev_iadd 283 dL_law_283 ⟨by omega, by omega⟩ ?_
  refine ev_sald 284 hX dL_law_284 ⟨by omega, by omega⟩ ?_
  refine ev_aloadS_0 285 dL_law_285 ?_
  refine ev_iload_3 286 dL_law_286 ?_
  refine ev_iconst 287 dL_law_287 ⟨by decide, by decide⟩ ?_
  refine ev_iadd 288 dL_law_288 ⟨by omega, by omega⟩ ?_
  refine ev_sald 289 hX dL_law_289 ⟨by omega, by omega⟩ ?_
  refine ev_cVp_2 290 dL_law_290 kmX11_town lk_L_36 (kd_0 hZ) (c_town (d := 7) h.sn h.rb.vs h.ws _ _) rfl rfl ?_
  refine ev_aload_2 293 dL_law_293 ?_
  refine ev_aloadS_0 294 dL_law_294 ?_
  refine ev_iload_3 295 dL_law_295 ?_
  refine ev_iconst 296 dL_law_296 ⟨by decide, by decide⟩ ?_
  refine ev_iadd 297 dL_law_297 ⟨by omega, by omega⟩ ?_
  refine ev_sald 298 hX dL_law_298 ⟨by omega, by omega⟩ ?_
  refine ev_aloadS_0 299 dL_law_299 ?_
  refine ev_iload_3 300 dL_law_300 ?_
  refine ev_iconst 301 dL_law_301 ⟨by decide, by decide⟩ ?_
  refine ev_iadd 302 dL_law_302 ⟨by omega, by omega⟩ ?_
  refine ev_sald 303 hX dL_law_303 ⟨by omega, by omega⟩ ?_
  refine ev_cVp_2 304 dL_law_304 kmX12_town lk_L_39 (kd_131 hM) (m_town (d := 6) h.lm h.lq h.rb.vm h.w h.rt h.cut _ _) rfl rfl ?_
  refine ev_icmp_eq 307 1157 dL_law_307 rfl (fun hq => ?_) (fun hq => ?_)
  · exact k _ _ _ _ _ _ _ _ _ h
  · exact absurd rfl hq
theorem b_thing {l : Launch} {g : Gt} {T D : Nat} {α σ : Nat → Int → Int} {U V : Int → Nat → Int → Int} {Z : Zt} {I : It} {P : Pt'} {L i : Int} {X : Int → Int} {Q : Qt} (hX : SCR g L X) (hi : 0 ≤ i ∧ i + 6 ≤ L) (h : Bo T D α σ U V Z I P) (k : NXT l g Q i) : Ev l g mL 9 (2 * nn P) (194 * nn P) Z I P 312 [vS, vA 0, vA 131, vI i] [] Q := by
  have hL := hX.2.1
  have hZ := h.sn.1
  have hM := h.lm
  refine ev_aload_1 312 dL_law_312 ?_
  refine ev_aloadS_0 313 dL_law_313 ?_
  refine ev_iload_3 314 dL_law_314 ?_
  refine ev_iconst 315 dL_law_315 ⟨by decide, by decide⟩ ?_
  refine ev_iadd 316 dL_law_316 ⟨by omega, by omega⟩ ?_
  refine ev_sald 317 hX dL_law_317 ⟨by omega, by omega⟩ ?_
  refine ev_aloadS_0 318 dL_law_318 ?_
  refine ev_iload_3 319 dL_law_319 ?_
  refine ev_iconst 320 dL_law_320 ⟨by decide, by decide⟩ ?_
  refine ev_iadd 321 dL_law_321 ⟨by omega, by omega⟩ ?_
  refine ev_sald 322 hX dL_law_322 ⟨by omega, by omega⟩ ?_
  refine ev_cVp_2 323 dL_law_323 kmX11_thing lk_L_40 (kd_0 hZ) (c_thing (d := 7) h.sn h.rb.vs h.ws _ _) rfl rfl ?_
  refine ev_aload_2 326 dL_law_326 ?_
  refine ev_aloadS_0 327 dL_law_327 ?_
  refine ev_iload_3 328 dL_law_328 ?_
  refine ev_iconst 329 dL_law_329 ⟨by decide, by decide⟩ ?_
  refine ev_iadd 330 dL_law_330 ⟨by omega, by omega⟩ ?_
  refine ev_sald 331 hX dL_law_331 ⟨by omega, by omega⟩ ?_
  refine ev_aloadS_0 332 dL_law_332 ?_
  refine ev_iload_3 333 dL_law_333 ?_
  refine ev_iconst 334 dL_law_334 ⟨by decide, by decide⟩ ?_
  refine ev_iadd 335 dL_law_335 ⟨by omega, by omega⟩ ?_
  refine ev_sald 336 hX dL_law_336 ⟨by omega, by omega⟩ ?_
  refine ev_cVp_2 337 dL_law_337 kmX12_thing lk_L_43 (kd_131 hM) (m_thing (d := 6) h.lm h.lq h.rb.vm h.w h.rs h.ws h.ca _ _) rfl rfl ?_
  refine ev_icmp_eq 340 1157 dL_law_340 rfl (fun hq => ?_) (fun hq => ?_)
  · exact k _ _ _ _ _ _ _ _ _ h
  · exact absurd rfl hq
theorem b_count {l : Launch} {g : Gt} {T D : Nat} {α σ : Nat → Int → Int} {U V : Int → Nat → Int → Int} {Z : Zt} {I : It} {P : Pt'} {L i : Int} {X : Int → Int} {Q : Qt} (hX : SCR g L X) (hi : 0 ≤ i ∧ i + 6 ≤ L) (h : Bo T D α σ U V Z I P) (k : NXT l g Q i) : Ev l g mL 9 (2 * nn P) (194 * nn P) Z I P 1134 [vS, vA 0, vA 131, vI i] [] Q := by
  have hL := hX.2.1
  have hZ := h.sn.1
  have hM := h.lm
  refine ev_aload_1 1134 dL_law_1134 ?_
  refine ev_aloadS_0 1135 dL_law_1135 ?_
  refine ev_iload_3 1136 dL_law_1136 ?_
  refine ev_iconst 1137 dL_law_1137 ⟨by decide, by decide⟩ ?_
  refine ev_iadd 1138 dL_law_1138 ⟨by omega, by omega⟩ ?_
  refine ev_sald 1139 hX dL_law_1139 ⟨by omega, by omega⟩ ?_
  refine ev_cVp_1 1140 dL_law_1140 kmX11_count lk_L_151 (kd_0 hZ) (c_count (d := 8) h.sn h.rb.vs h.ws _) rfl rfl ?_
  refine ev_aload_2 1143 dL_law_1143 ?_
  refine ev_aloadS_0 1144 dL_law_1144 ?_
  refine ev_iload_3 1145 dL_law_1145 ?_
  refine ev_iconst 1146 dL_law_1146 ⟨by decide, by decide⟩ ?_
  refine ev_iadd 1147 dL_law_1147 ⟨by omega, by omega⟩ ?_
  refine ev_sald 1148 hX dL_law_1148 ⟨by omega, by omega⟩ ?_
  refine ev_cVp_1 1149 dL_law_1149 kmX12_count lk_L_154 (kd_131 hM) (m_count (d := 8) h.lm h.lq h.rb.vm h.w h.rs _) rfl rfl ?_
  refine ev_icmp_eq 1152 1157 dL_law_1152 rfl (fun hq => ?_) (fun hq => ?_)
  · exact k _ _ _ _ _ _ _ _ _ h
  · exact absurd (by rw [h.rb.he.1, h.rb.dr.1, h.rb.un.1, h.rb.ke.1, h.rb.tx.1]) hq
theorem b_currents {l : Launch} {g : Gt} {T D : Nat} {α σ : Nat → Int → Int} {U V : Int → Nat → Int → Int} {Z : Zt} {I : It} {P : Pt'} {L i : Int} {X : Int → Int} {Q : Qt} (hX : SCR g L X) (hi : 0 ≤ i ∧ i + 6 ≤ L) (h : Bo T D α σ U V Z I P) (k : NXT l g Q i) : Ev l g mL 9 (2 * nn P) (194 * nn P) Z I P 978 [vS, vA 0, vA 131, vI i] [] Q := by
  have hL := hX.2.1
  have hZ := h.sn.1
  have hM := h.lm
  refine ev_aload_1 978 dL_law_978 ?_
  refine ev_aloadS_0 979 dL_law_979 ?_
  refine ev_iload_3 980 dL_law_980 ?_
  refine ev_iconst 981 dL_law_981 ⟨by decide, by decide⟩ ?_
  refine ev_iadd 982 dL_law_982 ⟨by omega, by omega⟩ ?_
  refine ev_sald 983 hX dL_law_983 ⟨by omega, by omega⟩ ?_
  refine ev_cVp_1 984 dL_law_984 kmX11_currents lk_L_130 (kd_0 hZ) (c_currents (d := 5) h.sn h.rb.vs h.ws h.rb.dr.2.1 (fun i a b => ⟨(h.rb.dr.2.2 i a b).2.1, (h.rb.dr.2.2 i a b).2.2.1⟩) _) rfl rfl ?_
  refine ev_aload_2 987 dL_law_987 ?_
  refine ev_aloadS_0 988 dL_law_988 ?_
  refine ev_iload_3 989 dL_law_989 ?_
  refine ev_iconst 990 dL_law_990 ⟨by decide, by decide⟩ ?_
  refine ev_iadd 991 dL_law_991 ⟨by omega, by omega⟩ ?_
  refine ev_sald 992 hX dL_law_992 ⟨by omega, by omega⟩ ?_
  refine ev_cVp_1 993 dL_law_993 kmX12_currents lk_L_133 (kd_131 hM) (m_currents (d := 6) h.lm h.lq h.rb.vm h.w (by rw [h.rb.dr.1]; exact h.rb.dr.2.1) (fun i a b => by
        rw [h.rb.dr.1] at b
        obtain ⟨⟨e1, e2, e3, e4⟩, e5, e6, e7⟩ := h.rb.dr.2.2 i a b
        rw [e2, e3, e4]; exact ⟨e5, e6, e7⟩) _) rfl rfl ?_
  refine ev_icmp_eq 996 1157 dL_law_996 rfl (fun hq => ?_) (fun hq => ?_)
  · exact k _ _ _ _ _ _ _ _ _ h
  · refine absurd ?_ hq
    split
    · rw [bF_cg (fun c => ?_)]
      constructor
      · intro z i a b y
        rw [h.rb.dr.1] at b
        obtain ⟨⟨e1, e2, e3, e4⟩, -⟩ := h.rb.dr.2.2 i a b
        rw [e1] at y
        rw [e2, e3, e4]; exact z i a b y
      · intro z i a b y
        obtain ⟨⟨e1, e2, e3, e4⟩, -⟩ := h.rb.dr.2.2 i a b
        have := z i a (by rw [h.rb.dr.1]; exact b) (by rw [e1]; exact y)
        rw [e2, e3, e4] at this; exact this
    · rfl
theorem b_behind {l : Launch} {g : Gt} {T D : Nat} {α σ : Nat → Int → Int} {U V : Int → Nat → Int → Int} {Z : Zt} {I : It} {P : Pt'} {L i : Int} {X : Int → Int} {Q : Qt} (hX : SCR g L X) (hi : 0 ≤ i ∧ i + 6 ≤ L) (h : Bo T D α σ U V Z I P) (k : NXT l g Q i) : Ev l g mL 9 (2 * nn P) (194 * nn P) Z I P 470 [vS, vA 0, vA 131, vI i] [] Q := by
  have hL := hX.2.1
  have hZ := h.sn.1
  have hM := h.lm
  refine ev_aload_1 470 dL_law_470 ?_
  refine ev_aloadS_0 471 dL_law_471 ?_
  refine ev_iload_3 472 dL_law_472 ?_
  refine ev_iconst 473 dL_law_473 ⟨by decide, by decide⟩ ?_
  refine ev_iadd 474 dL_law_474 ⟨by omega, by omega⟩ ?_
  refine ev_sald 475 hX dL_law_475 ⟨by omega, by omega⟩ ?_
  refine ev_aloadS_0 476 dL_law_476 ?_
  refine ev_iload_3 477 dL_law_477 ?_
  refine ev_iconst 478 dL_law_478 ⟨by decide, by decide⟩ ?_
  refine ev_iadd 479 dL_law_479 ⟨by omega, by omega⟩ ?_
  refine ev_sald 480 hX dL_law_480 ⟨by omega, by omega⟩ ?_
  refine ev_aloadS_0 481 dL_law_481 ?_
  refine ev_iload_3 482 dL_law_482 ?_
  refine ev_iconst 483 dL_law_483 ⟨by decide, by decide⟩ ?_
  refine ev_iadd 484 dL_law_484 ⟨by omega, by omega⟩ ?_
  refine ev_sald 485 hX dL_law_485 ⟨by omega, by omega⟩ ?_
  refine ev_cVm_3 486 dL_law_486 kmX11_behind lk_L_64 (kd_0 hZ) (c_behind (d := 2) h.sn h.rb.vs h.ws _ _ _) rfl rfl (fun r0 I0 f0 => ?_)
  obtain ⟨rfl, e0⟩ := f0
  have h1 := h.cl (fun a a1 a2 _ => e0 a a1 a2)
  refine ev_aload_2 489 dL_law_489 ?_
  refine ev_aloadS_0 490 dL_law_490 ?_
  refine ev_iload_3 491 dL_law_491 ?_
  refine ev_iconst 492 dL_law_492 ⟨by decide, by decide⟩ ?_
  refine ev_iadd 493 dL_law_493 ⟨by omega, by omega⟩ ?_
  refine ev_sald 494 hX dL_law_494 ⟨by omega, by omega⟩ ?_
  refine ev_aloadS_0 495 dL_law_495 ?_
  refine ev_iload_3 496 dL_law_496 ?_
  refine ev_iconst 497 dL_law_497 ⟨by decide, by decide⟩ ?_
  refine ev_iadd 498 dL_law_498 ⟨by omega, by omega⟩ ?_
  refine ev_sald 499 hX dL_law_499 ⟨by omega, by omega⟩ ?_
  refine ev_aloadS_0 500 dL_law_500 ?_
  refine ev_iload_3 501 dL_law_501 ?_
  refine ev_iconst 502 dL_law_502 ⟨by decide, by decide⟩ ?_
  refine ev_iadd 503 dL_law_503 ⟨by omega, by omega⟩ ?_
  refine ev_sald 504 hX dL_law_504 ⟨by omega, by omega⟩ ?_
  refine ev_cVm_3 505 dL_law_505 kmX12_behind lk_L_68 (kd_131 hM) (m_behind (d := 4) h1.lm h1.lq h1.rb.vm h1.w h1.rs h1.ws h1.ca _ _ _) rfl rfl (fun r1 I1 f1 => ?_)
  obtain ⟨rfl, e1⟩ := f1
  have h2 := h1.tf e1
  refine ev_icmp_eq 508 1157 dL_law_508 rfl (fun hq => ?_) (fun hq => ?_)
  · exact k _ _ _ _ _ _ _ _ _ h2
  · exact absurd rfl hq
theorem b_meet {l : Launch} {g : Gt} {T D : Nat} {α σ : Nat → Int → Int} {U V : Int → Nat → Int → Int} {Z : Zt} {I : It} {P : Pt'} {L i : Int} {X : Int → Int} {Q : Qt} (hX : SCR g L X) (hi : 0 ≤ i ∧ i + 6 ≤ L) (h : Bo T D α σ U V Z I P) (k : NXT l g Q i) : Ev l g mL 9 (2 * nn P) (194 * nn P) Z I P 513 [vS, vA 0, vA 131, vI i] [] Q := by
  have hL := hX.2.1
  have hZ := h.sn.1
  have hM := h.lm
  refine ev_aload_1 513 dL_law_513 ?_
  refine ev_aloadS_0 514 dL_law_514 ?_
  refine ev_iload_3 515 dL_law_515 ?_
  refine ev_iconst 516 dL_law_516 ⟨by decide, by decide⟩ ?_
  refine ev_iadd 517 dL_law_517 ⟨by omega, by omega⟩ ?_
  refine ev_sald 518 hX dL_law_518 ⟨by omega, by omega⟩ ?_
  refine ev_aloadS_0 519 dL_law_519 ?_
  refine ev_iload_3 520 dL_law_520 ?_
  refine ev_iconst 521 dL_law_521 ⟨by decide, by decide⟩ ?_
  refine ev_iadd 522 dL_law_522 ⟨by omega, by omega⟩ ?_
  refine ev_sald 523 hX dL_law_523 ⟨by omega, by omega⟩ ?_
  refine ev_cVm_2 524 dL_law_524 kmX11_meet lk_L_69 (kd_0 hZ) (c_meet (d := 3) h.sn h.rb.vs h.ws _ _) rfl rfl (fun r0 I0 f0 => ?_)
  obtain ⟨rfl, e0⟩ := f0
  have h1 := h.cl (fun a a1 a2 _ => e0 a a1 a2)
  refine ev_aload_2 527 dL_law_527 ?_
  refine ev_aloadS_0 528 dL_law_528 ?_
  refine ev_iload_3 529 dL_law_529 ?_
  refine ev_iconst 530 dL_law_530 ⟨by decide, by decide⟩ ?_
  refine ev_iadd 531 dL_law_531 ⟨by omega, by omega⟩ ?_
  refine ev_sald 532 hX dL_law_532 ⟨by omega, by omega⟩ ?_
  refine ev_aloadS_0 533 dL_law_533 ?_
  refine ev_iload_3 534 dL_law_534 ?_
  refine ev_iconst 535 dL_law_535 ⟨by decide, by decide⟩ ?_
  refine ev_iadd 536 dL_law_536 ⟨by omega, by omega⟩ ?_
  refine ev_sald 537 hX dL_law_537 ⟨by omega, by omega⟩ ?_
  refine ev_cVm_2 538 dL_law_538 kmX12_meet lk_L_72 (kd_131 hM) (m_meet (d := 4) h1.lm h1.lq h1.rb.vm h1.w h1.rs h1.ws h1.ca _ _) rfl rfl (fun r1 I1 f1 => ?_)
  obtain ⟨rfl, e1⟩ := f1
  have h2 := h1.tf e1
  refine ev_icmp_eq 541 1157 dL_law_541 rfl (fun hq => ?_) (fun hq => ?_)
  · exact k _ _ _ _ _ _ _ _ _ h2
  · exact absurd rfl hq
theorem b_round {l : Launch} {g : Gt} {T D : Nat} {α σ : Nat → Int → Int} {U V : Int → Nat → Int → Int} {Z : Zt} {I : It} {P : Pt'} {L i : Int} {X : Int → Int} {Q : Qt} (hX : SCR g L X) (hi : 0 ≤ i ∧ i + 6 ≤ L) (h : Bo T D α σ U V Z I P) (k : NXT l g Q i) : Ev l g mL 9 (2 * nn P) (194 * nn P) Z I P 546 [vS, vA 0, vA 131, vI i] [] Q := by
  have hL := hX.2.1
  have hZ := h.sn.1
  have hM := h.lm
  refine ev_aload_1 546 dL_law_546 ?_
  refine ev_aloadS_0 547 dL_law_547 ?_
  refine ev_iload_3 548 dL_law_548 ?_
  refine ev_iconst 549 dL_law_549 ⟨by decide, by decide⟩ ?_
  refine ev_iadd 550 dL_law_550 ⟨by omega, by omega⟩ ?_
  refine ev_sald 551 hX dL_law_551 ⟨by omega, by omega⟩ ?_
  refine ev_cVm_1 552 dL_law_552 kmX11_round lk_L_73 (kd_0 hZ) (c_round (d := 4) h.sn h.rb.vs h.ws _) rfl rfl (fun r0 I0 f0 => ?_)
  obtain ⟨rfl, e0⟩ := f0
  have h1 := h.cl (fun a a1 a2 _ => e0 a a1 a2)
  refine ev_aload_2 555 dL_law_555 ?_
  refine ev_aloadS_0 556 dL_law_556 ?_
  refine ev_iload_3 557 dL_law_557 ?_
  refine ev_iconst 558 dL_law_558 ⟨by decide, by decide⟩ ?_
  refine ev_iadd 559 dL_law_559 ⟨by omega, by omega⟩ ?_
  refine ev_sald 560 hX dL_law_560 ⟨by omega, by omega⟩ ?_
  refine ev_cVm_1 561 dL_law_561 kmX12_round lk_L_76 (kd_131 hM) (m_round (d := 6) h1.lm h1.lq h1.rb.vm h1.w h1.rs h1.ws h1.ca _) rfl rfl (fun r1 I1 f1 => ?_)
  obtain ⟨rfl, e1⟩ := f1
  have h2 := h1.tf e1
  refine ev_icmp_eq 564 1157 dL_law_564 rfl (fun hq => ?_) (fun hq => ?_)
  · exact k _ _ _ _ _ _ _ _ _ h2
  · exact absurd rfl hq
theorem b_sent {l : Launch} {g : Gt} {T D : Nat} {α σ : Nat → Int → Int} {U V : Int → Nat → Int → Int} {Z : Zt} {I : It} {P : Pt'} {L i : Int} {X : Int → Int} {Q : Qt} (hX : SCR g L X) (hi : 0 ≤ i ∧ i + 6 ≤ L) (h : Bo T D α σ U V Z I P) (k : NXT l g Q i) : Ev l g mL 9 (2 * nn P) (194 * nn P) Z I P 780 [vS, vA 0, vA 131, vI i] [] Q := by
  have hL := hX.2.1
  have hZ := h.sn.1
  have hM := h.lm
  refine ev_aload_1 780 dL_law_780 ?_
  refine ev_aloadS_0 781 dL_law_781 ?_
  refine ev_iload_3 782 dL_law_782 ?_
  refine ev_iconst 783 dL_law_783 ⟨by decide, by decide⟩ ?_
  refine ev_iadd 784 dL_law_784 ⟨by omega, by omega⟩ ?_
  refine ev_sald 785 hX dL_law_785 ⟨by omega, by omega⟩ ?_
  refine ev_aloadS_0 786 dL_law_786 ?_
  refine ev_iload_3 787 dL_law_787 ?_
  refine ev_iconst 788 dL_law_788 ⟨by decide, by decide⟩ ?_
  refine ev_iadd 789 dL_law_789 ⟨by omega, by omega⟩ ?_
  refine ev_sald 790 hX dL_law_790 ⟨by omega, by omega⟩ ?_
  refine ev_aloadS_0 791 dL_law_791 ?_
  refine ev_iload_3 792 dL_law_792 ?_
  refine ev_iconst 793 dL_law_793 ⟨by decide, by decide⟩ ?_
  refine ev_iadd 794 dL_law_794 ⟨by omega, by omega⟩ ?_
  refine ev_sald 795 hX dL_law_795 ⟨by omega, by omega⟩ ?_
  refine ev_cVm_3 796 dL_law_796 kmX11_sent lk_L_106 (kd_0 hZ) (c_sent (d := 2) h.sn h.rb.vs h.ws _ _ _) rfl rfl (fun r0 I0 f0 => ?_)
  obtain ⟨rfl, e0⟩ := f0
  have h1 := h.cl (fun a a1 a2 _ => e0 a a1 a2)
  refine ev_aload_2 799 dL_law_799 ?_
  refine ev_aloadS_0 800 dL_law_800 ?_
  refine ev_iload_3 801 dL_law_801 ?_
  refine ev_iconst 802 dL_law_802 ⟨by decide, by decide⟩ ?_
  refine ev_iadd 803 dL_law_803 ⟨by omega, by omega⟩ ?_
  refine ev_sald 804 hX dL_law_804 ⟨by omega, by omega⟩ ?_
  refine ev_aloadS_0 805 dL_law_805 ?_
  refine ev_iload_3 806 dL_law_806 ?_
  refine ev_iconst 807 dL_law_807 ⟨by decide, by decide⟩ ?_
  refine ev_iadd 808 dL_law_808 ⟨by omega, by omega⟩ ?_
  refine ev_sald 809 hX dL_law_809 ⟨by omega, by omega⟩ ?_
  refine ev_aloadS_0 810 dL_law_810 ?_
  refine ev_iload_3 811 dL_law_811 ?_
  refine ev_iconst 812 dL_law_812 ⟨by decide, by decide⟩ ?_
  refine ev_iadd 813 dL_law_813 ⟨by omega, by omega⟩ ?_
  refine ev_sald 814 hX dL_law_814 ⟨by omega, by omega⟩ ?_
  refine ev_cVm_3 815 dL_law_815 kmX12_sent lk_L_109 (kd_131 hM) (m_sent (d := 4) h1.lm h1.lq h1.rb.vm h1.w h1.rt h1.ws h1.ap _ _ _) rfl rfl (fun r1 I1 f1 => ?_)
  obtain ⟨rfl, e1⟩ := f1
  have h2 := h1.tf e1
  refine ev_icmp_eq 818 1157 dL_law_818 rfl (fun hq => ?_) (fun hq => ?_)
  · exact k _ _ _ _ _ _ _ _ _ h2
  · exact absurd rfl hq
theorem b_fall {l : Launch} {g : Gt} {T D : Nat} {α σ : Nat → Int → Int} {U V : Int → Nat → Int → Int} {Z : Zt} {I : It} {P : Pt'} {L i : Int} {X : Int → Int} {Q : Qt} (hX : SCR g L X) (hi : 0 ≤ i ∧ i + 6 ≤ L) (h : Bo T D α σ U V Z I P) (k : NXT l g Q i) : Ev l g mL 9 (2 * nn P) (194 * nn P) Z I P 823 [vS, vA 0, vA 131, vI i] [] Q := by
  have hL := hX.2.1
  have hZ := h.sn.1
  have hM := h.lm
  refine ev_aload_1 823 dL_law_823 ?_
  refine ev_aloadS_0 824 dL_law_824 ?_
  refine ev_iload_3 825 dL_law_825 ?_
  refine ev_iconst 826 dL_law_826 ⟨by decide, by decide⟩ ?_
  refine ev_iadd 827 dL_law_827 ⟨by omega, by omega⟩ ?_
  refine ev_sald 828 hX dL_law_828 ⟨by omega, by omega⟩ ?_
  refine ev_aloadS_0 829 dL_law_829 ?_
  refine ev_iload_3 830 dL_law_830 ?_
  refine ev_iconst 831 dL_law_831 ⟨by decide, by decide⟩ ?_
  refine ev_iadd 832 dL_law_832 ⟨by omega, by omega⟩ ?_
  refine ev_sald 833 hX dL_law_833 ⟨by omega, by omega⟩ ?_
  refine ev_cVm_2 834 dL_law_834 kmX11_fall lk_L_110 (kd_0 hZ) (c_fall (d := 2) h.sn h.rb.vs h.ws _ _) rfl rfl (fun r0 I0 f0 => ?_)
  obtain ⟨rfl, e0⟩ := f0
  have h1 := h.cl (fun a a1 a2 _ => e0 a a1 a2)
  refine ev_aload_2 837 dL_law_837 ?_
  refine ev_aloadS_0 838 dL_law_838 ?_
  refine ev_iload_3 839 dL_law_839 ?_
  refine ev_iconst 840 dL_law_840 ⟨by decide, by decide⟩ ?_
  refine ev_iadd 841 dL_law_841 ⟨by omega, by omega⟩ ?_
  refine ev_sald 842 hX dL_law_842 ⟨by omega, by omega⟩ ?_
  refine ev_aloadS_0 843 dL_law_843 ?_
  refine ev_iload_3 844 dL_law_844 ?_
  refine ev_iconst 845 dL_law_845 ⟨by decide, by decide⟩ ?_
  refine ev_iadd 846 dL_law_846 ⟨by omega, by omega⟩ ?_
  refine ev_sald 847 hX dL_law_847 ⟨by omega, by omega⟩ ?_
  refine ev_cVm_2 848 dL_law_848 kmX12_fall lk_L_113 (kd_131 hM) (m_fall (d := 4) h1.lm h1.lq h1.rb.vm h1.w h1.rt h1.ws _ _) rfl rfl (fun r1 I1 f1 => ?_)
  obtain ⟨rfl, e1⟩ := f1
  have h2 := h1.tf e1
  refine ev_icmp_eq 851 1157 dL_law_851 rfl (fun hq => ?_) (fun hq => ?_)
  · exact k _ _ _ _ _ _ _ _ _ h2
  · exact absurd rfl hq
theorem b_year {l : Launch} {g : Gt} {T D : Nat} {α σ : Nat → Int → Int} {U V : Int → Nat → Int → Int} {Z : Zt} {I : It} {P : Pt'} {L i : Int} {X : Int → Int} {Q : Qt} (hX : SCR g L X) (hi : 0 ≤ i ∧ i + 6 ≤ L) (h : Bo T D α σ U V Z I P) (k : NXT l g Q i) : Ev l g mL 9 (2 * nn P) (194 * nn P) Z I P 1065 [vS, vA 0, vA 131, vI i] [] Q := by
  have hL := hX.2.1
  have hZ := h.sn.1
  have hM := h.lm
  refine ev_aload_1 1065 dL_law_1065 ?_
  refine ev_aloadS_0 1066 dL_law_1066 ?_
  refine ev_iload_3 1067 dL_law_1067 ?_
  refine ev_iconst 1068 dL_law_1068 ⟨by decide, by decide⟩ ?_
  refine ev_iadd 1069 dL_law_1069 ⟨by omega, by omega⟩ ?_
  refine ev_sald 1070 hX dL_law_1070 ⟨by omega, by omega⟩ ?_
  refine ev_aloadS_0 1071 dL_law_1071 ?_
  refine ev_iload_3 1072 dL_law_1072 ?_
  refine ev_iconst 1073 dL_law_1073 ⟨by decide, by decide⟩ ?_
  refine ev_iadd 1074 dL_law_1074 ⟨by omega, by omega⟩ ?_
  refine ev_sald 1075 hX dL_law_1075 ⟨by omega, by omega⟩ ?_
  refine ev_aloadS_0 1076 dL_law_1076 ?_
  refine ev_iload_3 1077 dL_law_1077 ?_
  refine ev_iconst 1078 dL_law_1078 ⟨by decide, by decide⟩ ?_
  refine ev_iadd 1079 dL_law_1079 ⟨by omega, by omega⟩ ?_
  refine ev_sald 1080 hX dL_law_1080 ⟨by omega, by omega⟩ ?_
  refine ev_cVm_3 1081 dL_law_1081 kmX11_year lk_L_139 (kd_0 hZ) (c_year (d := 2) h.sn h.rb.vs h.ws _ _ _) rfl rfl (fun r0 I0 f0 => ?_)
  obtain ⟨rfl, e0⟩ := f0
  have h1 := h.cl (fun a a1 a2 _ => e0 a a1 a2)
  refine ev_aload_2 1084 dL_law_1084 ?_
  refine ev_aloadS_0 1085 dL_law_1085 ?_
  refine ev_iload_3 1086 dL_law_1086 ?_
  refine ev_iconst 1087 dL_law_1087 ⟨by decide, by decide⟩ ?_
  refine ev_iadd 1088 dL_law_1088 ⟨by omega, by omega⟩ ?_
  refine ev_sald 1089 hX dL_law_1089 ⟨by omega, by omega⟩ ?_
  refine ev_aloadS_0 1090 dL_law_1090 ?_
  refine ev_iload_3 1091 dL_law_1091 ?_
  refine ev_iconst 1092 dL_law_1092 ⟨by decide, by decide⟩ ?_
  refine ev_iadd 1093 dL_law_1093 ⟨by omega, by omega⟩ ?_
  refine ev_sald 1094 hX dL_law_1094 ⟨by omega, by omega⟩ ?_
  refine ev_aloadS_0 1095 dL_law_1095 ?_
  refine ev_iload_3 1096 dL_law_1096 ?_
  refine ev_iconst 1097 dL_law_1097 ⟨by decide, by decide⟩ ?_
  refine ev_iadd 1098 dL_law_1098 ⟨by omega, by omega⟩ ?_
  refine ev_sald 1099 hX dL_law_1099 ⟨by omega, by omega⟩ ?_
  refine ev_cVm_3 1100 dL_law_1100 kmX12_year lk_L_142 (kd_131 hM) (m_year (d := 4) h1.lm h1.lq h1.rb.vm h1.w h1.rt h1.ws _ _ _) rfl rfl (fun r1 I1 f1 => ?_)
  obtain ⟨rfl, e1⟩ := f1
  have h2 := h1.tf e1
  refine ev_icmp_eq 1103 1157 dL_law_1103 rfl (fun hq => ?_) (fun hq => ?_)
  · exact k _ _ _ _ _ _ _ _ _ h2
  · exact absurd rfl hq
theorem b_clear {l : Launch} {g : Gt} {T D : Nat} {α σ : Nat → Int → Int} {U V : Int → Nat → Int → Int} {Z : Zt} {I : It} {P : Pt'} {L i : Int} {X : Int → Int} {Q : Qt} (hX : SCR g L X) (hi : 0 ≤ i ∧ i + 6 ≤ L) (h : Bo T D α σ U V Z I P) (k : NXT l g Q i) : Ev l g mL 9 (2 * nn P) (194 * nn P) Z I P 856 [vS, vA 0, vA 131, vI i] [] Q := by
  have hL := hX.2.1
  have hZ := h.sn.1
  have hM := h.lm
  refine ev_aload_1 856 dL_law_856 ?_
  refine ev_aloadS_0 857 dL_law_857 ?_
  refine ev_iload_3 858 dL_law_858 ?_
  refine ev_iconst 859 dL_law_859 ⟨by decide, by decide⟩ ?_
  refine ev_iadd 860 dL_law_860 ⟨by omega, by omega⟩ ?_
  refine ev_sald 861 hX dL_law_861 ⟨by omega, by omega⟩ ?_
  refine ev_aloadS_0 862 dL_law_862 ?_
  refine ev_iload_3 863 dL_law_863 ?_
  refine ev_iconst 864 dL_law_864 ⟨by decide, by decide⟩ ?_
  refine ev_iadd 865 dL_law_865 ⟨by omega, by omega⟩ ?_
  refine ev_sald 866 hX dL_law_866 ⟨by omega, by omega⟩ ?_
  refine ev_cVb_2 867 dL_law_867 kmX11_clear lk_L_114 (kd_0 hZ) (c_clear (d := 5) h.sn h.rb.vs h.ws _ _) rfl rfl (fun r0 f0 => ?_)
  refine ev_aload_2 870 dL_law_870 ?_
  refine ev_aloadS_0 871 dL_law_871 ?_
  refine ev_iload_3 872 dL_law_872 ?_
  refine ev_iconst 873 dL_law_873 ⟨by decide, by decide⟩ ?_
  refine ev_iadd 874 dL_law_874 ⟨by omega, by omega⟩ ?_
  refine ev_sald 875 hX dL_law_875 ⟨by omega, by omega⟩ ?_
  refine ev_aloadS_0 876 dL_law_876 ?_
  refine ev_iload_3 877 dL_law_877 ?_
  refine ev_iconst 878 dL_law_878 ⟨by decide, by decide⟩ ?_
  refine ev_iadd 879 dL_law_879 ⟨by omega, by omega⟩ ?_
  refine ev_sald 880 hX dL_law_880 ⟨by omega, by omega⟩ ?_
  refine ev_cVb_2 881 dL_law_881 kmX12_clear lk_L_117 (kd_131 hM) (m_clear (d := 6) h.lm h.lq h.rb.vm h.w h.rt h.ws _ _) rfl rfl (fun r1 f1 => ?_)
  refine ev_icmp_eq 884 1157 dL_law_884 rfl (fun hq => ?_) (fun hq => ?_)
  · exact k _ _ _ _ _ _ _ _ _ h
  · refine absurd ?_ hq
    rcases f0 with ⟨a1, a2⟩ | ⟨a1, a2⟩ <;> rcases f1 with ⟨b1, b3⟩ | ⟨b1, b3⟩
    · exact a2.u b3
    · exact absurd a1 b1
    · exact absurd b1 a1
    · rw [a2, b3]
theorem b_gain {l : Launch} {g : Gt} {T D : Nat} {α σ : Nat → Int → Int} {U V : Int → Nat → Int → Int} {Z : Zt} {I : It} {P : Pt'} {L i : Int} {X : Int → Int} {Q : Qt} (hX : SCR g L X) (hi : 0 ≤ i ∧ i + 6 ≤ L) (h : Bo T D α σ U V Z I P) (k : NXT l g Q i) : Ev l g mL 9 (2 * nn P) (194 * nn P) Z I P 889 [vS, vA 0, vA 131, vI i] [] Q := by
  have hL := hX.2.1
  have hZ := h.sn.1
  have hM := h.lm
  refine ev_aload_1 889 dL_law_889 ?_
  refine ev_aloadS_0 890 dL_law_890 ?_
  refine ev_iload_3 891 dL_law_891 ?_
  refine ev_iconst 892 dL_law_892 ⟨by decide, by decide⟩ ?_
  refine ev_iadd 893 dL_law_893 ⟨by omega, by omega⟩ ?_
  refine ev_sald 894 hX dL_law_894 ⟨by omega, by omega⟩ ?_
  refine ev_cVb_1 895 dL_law_895 kmX11_gain lk_L_118 (kd_0 hZ) (c_gain (d := 5) h.sn h.rb.vs h.ws _) rfl rfl (fun r0 f0 => ?_)
  refine ev_aload_2 898 dL_law_898 ?_
  refine ev_aloadS_0 899 dL_law_899 ?_
  refine ev_iload_3 900 dL_law_900 ?_
  refine ev_iconst 901 dL_law_901 ⟨by decide, by decide⟩ ?_
  refine ev_iadd 902 dL_law_902 ⟨by omega, by omega⟩ ?_
  refine ev_sald 903 hX dL_law_903 ⟨by omega, by omega⟩ ?_
  refine ev_cVb_1 904 dL_law_904 kmX12_gain lk_L_121 (kd_131 hM) (m_gain (d := 6) h.lm h.lq h.rb.vm h.w h.rt h.ws _) rfl rfl (fun r1 f1 => ?_)
  refine ev_icmp_eq 907 1157 dL_law_907 rfl (fun hq => ?_) (fun hq => ?_)
  · exact k _ _ _ _ _ _ _ _ _ h
  · refine absurd ?_ hq
    rcases f0 with ⟨a1, p, q, a2, a3, a4⟩ | ⟨a1, a2⟩ <;> rcases f1 with ⟨b1, p', q', b3, b4, b5⟩ | ⟨b1, b3⟩
    · rw [a4, b5, a2.u b3, a3.u b4]
    · exact absurd a1 b1
    · exact absurd b1 a1
    · rw [a2, b3]
theorem b_time {l : Launch} {g : Gt} {T D : Nat} {α σ : Nat → Int → Int} {U V : Int → Nat → Int → Int} {Z : Zt} {I : It} {P : Pt'} {L i : Int} {X : Int → Int} {Q : Qt} (hX : SCR g L X) (hi : 0 ≤ i ∧ i + 6 ≤ L) (h : Bo T D α σ U V Z I P) (k : NXT l g Q i) : Ev l g mL 9 (2 * nn P) (194 * nn P) Z I P 569 [vS, vA 0, vA 131, vI i] [] Q := by
  have hL := hX.2.1
  have hZ := h.sn.1
  have hM := h.lm
  refine ev_aload_1 569 dL_law_569 ?_
  refine ev_aloadS_0 570 dL_law_570 ?_
  refine ev_iload_3 571 dL_law_571 ?_
  refine ev_iconst 572 dL_law_572 ⟨by decide, by decide⟩ ?_
  refine ev_iadd 573 dL_law_573 ⟨by omega, by omega⟩ ?_
  refine ev_sald 574 hX dL_law_574 ⟨by omega, by omega⟩ ?_
  refine ev_aloadS_0 575 dL_law_575 ?_
  refine ev_iload_3 576 dL_law_576 ?_
  refine ev_iconst 577 dL_law_577 ⟨by decide, by decide⟩ ?_
  refine ev_iadd 578 dL_law_578 ⟨by omega, by omega⟩ ?_
  refine ev_sald 579 hX dL_law_579 ⟨by omega, by omega⟩ ?_
  refine ev_aloadS_0 580 dL_law_580 ?_
  refine ev_iload_3 581 dL_law_581 ?_
  refine ev_iconst 582 dL_law_582 ⟨by decide, by decide⟩ ?_
  refine ev_iadd 583 dL_law_583 ⟨by omega, by omega⟩ ?_
  refine ev_sald 584 hX dL_law_584 ⟨by omega, by omega⟩ ?_
  refine ev_aloadS_0 585 dL_law_585 ?_
  refine ev_iload_3 586 dL_law_586 ?_
  refine ev_iconst 587 dL_law_587 ⟨by decide, by decide⟩ ?_
  refine ev_iadd 588 dL_law_588 ⟨by omega, by omega⟩ ?_
  refine ev_sald 589 hX dL_law_589 ⟨by omega, by omega⟩ ?_
  refine Ev.mono (bc' := 0 + 2 * nn P) (bs' := 0 + 194 * nn P) (by omega) (by omega) ?_
  refine ev_cVg_4 590 dL_law_590 kmX11_time lk_L_77 (kd_0 hZ) (c_time (d := 5) h.sn h.rb.vs h.ws _ _ _ _) rfl rfl (fun r0 Z0 I0 P0 f0 _ _ => ?_)
  obtain ⟨rfl, hs0, x0⟩ := f0
  have h1 := h.sx hs0 x0
  have hM := h1.lm
  obtain ⟨-, -, -, -, -, q1, q2⟩ := id x0
  refine Ev.mono (bc' := 2 * nn P0) (bs' := 194 * nn P0) (by omega) (by omega) ?_
  refine ev_aload_2 593 dL_law_593 ?_
  refine ev_aloadS_0 594 dL_law_594 ?_
  refine ev_iload_3 595 dL_law_595 ?_
  refine ev_iconst 596 dL_law_596 ⟨by decide, by decide⟩ ?_
  refine ev_iadd 597 dL_law_597 ⟨by omega, by omega⟩ ?_
  refine ev_sald 598 hX dL_law_598 ⟨by omega, by omega⟩ ?_
  refine ev_aloadS_0 599 dL_law_599 ?_
  refine ev_iload_3 600 dL_law_600 ?_
  refine ev_iconst 601 dL_law_601 ⟨by decide, by decide⟩ ?_
  refine ev_iadd 602 dL_law_602 ⟨by omega, by omega⟩ ?_
  refine ev_sald 603 hX dL_law_603 ⟨by omega, by omega⟩ ?_
  refine ev_aloadS_0 604 dL_law_604 ?_
  refine ev_iload_3 605 dL_law_605 ?_
  refine ev_iconst 606 dL_law_606 ⟨by decide, by decide⟩ ?_
  refine ev_iadd 607 dL_law_607 ⟨by omega, by omega⟩ ?_
  refine ev_sald 608 hX dL_law_608 ⟨by omega, by omega⟩ ?_
  refine ev_aloadS_0 609 dL_law_609 ?_
  refine ev_iload_3 610 dL_law_610 ?_
  refine ev_iconst 611 dL_law_611 ⟨by decide, by decide⟩ ?_
  refine ev_iadd 612 dL_law_612 ⟨by omega, by omega⟩ ?_
  refine ev_sald 613 hX dL_law_613 ⟨by omega, by omega⟩ ?_
  refine ev_cVm_4 614 dL_law_614 kmX12_time lk_L_81 (kd_131 hM) (m_time (d := 3) h1.lm h1.lq h1.rb.vm h1.w h1.rb.hf _ _ _ _) rfl rfl (fun r1 I1 f1 => ?_)
  obtain ⟨rfl, e1⟩ := f1
  have h2 := h1.so e1
  refine ev_icmp_eq 617 1157 dL_law_617 rfl (fun hq => ?_) (fun hq => ?_)
  · exact k _ _ _ _ _ _ _ _ _ h2
  · exact absurd (tm_cc h.w _ _ _ _) hq
theorem b_hears {l : Launch} {g : Gt} {T D : Nat} {α σ : Nat → Int → Int} {U V : Int → Nat → Int → Int} {Z : Zt} {I : It} {P : Pt'} {L i : Int} {X : Int → Int} {Q : Qt} (hX : SCR g L X) (hi : 0 ≤ i ∧ i + 6 ≤ L) (h : Bo T D α σ U V Z I P) (k : NXT l g Q i) : Ev l g mL 9 (2 * nn P) (194 * nn P) Z I P 622 [vS, vA 0, vA 131, vI i] [] Q := by
  have hL := hX.2.1
  have hZ := h.sn.1
  have hM := h.lm
  refine ev_aload_1 622 dL_law_622 ?_
  refine ev_aloadS_0 623 dL_law_623 ?_
  refine ev_iload_3 624 dL_law_624 ?_
  refine ev_iconst 625 dL_law_625 ⟨by decide, by decide⟩ ?_
  refine ev_iadd 626 dL_law_626 ⟨by omega, by omega⟩ ?_
  refine ev_sald 627 hX dL_law_627 ⟨by omega, by omega⟩ ?_
  refine ev_aloadS_0 628 dL_law_628 ?_
  refine ev_iload_3 629 dL_law_629 ?_
  refine ev_iconst 630 dL_law_630 ⟨by decide, by decide⟩ ?_
  refine ev_iadd 631 dL_law_631 ⟨by omega, by omega⟩ ?_
  refine ev_sald 632 hX dL_law_632 ⟨by omega, by omega⟩ ?_
  refine Ev.mono (bc' := 0 + 2 * nn P) (bs' := 0 + 194 * nn P) (by omega) (by omega) ?_
  refine ev_cVg_2 633 dL_law_633 kmX11_hears lk_L_82 (kd_0 hZ) (c_hears (d := 5) h.sn h.rb.vs h.ws _ _) rfl rfl (fun r0 Z0 I0 P0 f0 _ _ => ?_)
  obtain ⟨rfl, hs0, x0⟩ := f0
  have h1 := h.sx hs0 x0
  have hM := h1.lm
  obtain ⟨-, -, -, -, -, q1, q2⟩ := id x0
  refine Ev.mono (bc' := 2 * nn P0) (bs' := 194 * nn P0) (by omega) (by omega) ?_
  refine ev_aload_2 636 dL_law_636 ?_
  refine ev_aloadS_0 637 dL_law_637 ?_
  refine ev_iload_3 638 dL_law_638 ?_
  refine ev_iconst 639 dL_law_639 ⟨by decide, by decide⟩ ?_
  refine ev_iadd 640 dL_law_640 ⟨by omega, by omega⟩ ?_
  refine ev_sald 641 hX dL_law_641 ⟨by omega, by omega⟩ ?_
  refine ev_aloadS_0 642 dL_law_642 ?_
  refine ev_iload_3 643 dL_law_643 ?_
  refine ev_iconst 644 dL_law_644 ⟨by decide, by decide⟩ ?_
  refine ev_iadd 645 dL_law_645 ⟨by omega, by omega⟩ ?_
  refine ev_sald 646 hX dL_law_646 ⟨by omega, by omega⟩ ?_
  refine ev_cVm_2 647 dL_law_647 kmX12_hears lk_L_85 (kd_131 hM) (m_hears (d := 3) h1.lm h1.lq h1.rb.vm h1.w h1.rt h1.ws h1.rb.hf _ _) rfl rfl (fun r1 I1 f1 => ?_)
  obtain ⟨rfl, e1⟩ := f1
  have h2 := h1.so e1
  refine ev_icmp_eq 650 1157 dL_law_650 rfl (fun hq => ?_) (fun hq => ?_)
  · exact k _ _ _ _ _ _ _ _ _ h2
  · exact absurd (hr_cc h.w _ _) hq
theorem b_shadow {l : Launch} {g : Gt} {T D : Nat} {α σ : Nat → Int → Int} {U V : Int → Nat → Int → Int} {Z : Zt} {I : It} {P : Pt'} {L i : Int} {X : Int → Int} {Q : Qt} (hX : SCR g L X) (hi : 0 ≤ i ∧ i + 6 ≤ L) (h : Bo T D α σ U V Z I P) (k : NXT l g Q i) : Ev l g mL 9 (2 * nn P) (194 * nn P) Z I P 655 [vS, vA 0, vA 131, vI i] [] Q := by
  have hL := hX.2.1
  have hZ := h.sn.1
  have hM := h.lm
  refine ev_aload_1 655 dL_law_655 ?_
  refine ev_aloadS_0 656 dL_law_656 ?_
  refine ev_iload_3 657 dL_law_657 ?_
  refine ev_iconst 658 dL_law_658 ⟨by decide, by decide⟩ ?_
  refine ev_iadd 659 dL_law_659 ⟨by omega, by omega⟩ ?_
  refine ev_sald 660 hX dL_law_660 ⟨by omega, by omega⟩ ?_
  refine Ev.mono (bc' := 0 + 2 * nn P) (bs' := 0 + 194 * nn P) (by omega) (by omega) ?_
  refine ev_cVg_1 661 dL_law_661 kmX11_shadow lk_L_86 (kd_0 hZ) (c_shadow (d := 5) h.sn h.rb.vs h.ws _) rfl rfl (fun r0 Z0 I0 P0 f0 _ _ => ?_)
  obtain ⟨rfl, hs0, x0⟩ := f0
  have h1 := h.sx hs0 x0
  have hM := h1.lm
  obtain ⟨-, -, -, -, -, q1, q2⟩ := id x0
  refine Ev.mono (bc' := 2 * nn P0) (bs' := 194 * nn P0) (by omega) (by omega) ?_
  refine ev_aload_2 664 dL_law_664 ?_
  refine ev_aloadS_0 665 dL_law_665 ?_
  refine ev_iload_3 666 dL_law_666 ?_
  refine ev_iconst 667 dL_law_667 ⟨by decide, by decide⟩ ?_
  refine ev_iadd 668 dL_law_668 ⟨by omega, by omega⟩ ?_
  refine ev_sald 669 hX dL_law_669 ⟨by omega, by omega⟩ ?_
  refine ev_cVm_1 670 dL_law_670 kmX12_shadow lk_L_89 (kd_131 hM) (m_shadow (d := 3) h1.lm h1.lq h1.rb.vm h1.w h1.rt h1.ws h1.rb.hf _) rfl rfl (fun r1 I1 f1 => ?_)
  obtain ⟨rfl, e1⟩ := f1
  have h2 := h1.so e1
  refine ev_icmp_eq 673 1157 dL_law_673 rfl (fun hq => ?_) (fun hq => ?_)
  · exact k _ _ _ _ _ _ _ _ _ h2
  · exact absurd (sh_cc h.w _) hq
theorem b_whence {l : Launch} {g : Gt} {T D : Nat} {α σ : Nat → Int → Int} {U V : Int → Nat → Int → Int} {Z : Zt} {I : It} {P : Pt'} {L i : Int} {X : Int → Int} {Q : Qt} (hX : SCR g L X) (hi : 0 ≤ i ∧ i + 6 ≤ L) (h : Bo T D α σ U V Z I P) (k : NXT l g Q i) : Ev l g mL 9 (2 * nn P) (194 * nn P) Z I P 724 [vS, vA 0, vA 131, vI i] [] Q := by
  have hL := hX.2.1
  have hZ := h.sn.1
  have hM := h.lm
  refine ev_aload_1 724 dL_law_724 ?_
  refine ev_aloadS_0 725 dL_law_725 ?_
  refine ev_iload_3 726 dL_law_726 ?_
  refine ev_iconst 727 dL_law_727 ⟨by decide, by decide⟩ ?_
  refine ev_iadd 728 dL_law_728 ⟨by omega, by omega⟩ ?_
  refine ev_sald 729 hX dL_law_729 ⟨by omega, by omega⟩ ?_
  refine Ev.mono (bc' := 0 + 2 * nn P) (bs' := 0 + 194 * nn P) (by omega) (by omega) ?_
  refine ev_cVg_1 730 dL_law_730 kmX11_whence lk_L_98 (kd_0 hZ) (c_whence (d := 3) h.sn h.rb.vs h.ws h.rb.he.2.1 (fun i a b => (h.rb.he.2.2 i a b).2) _) rfl rfl (fun r0 Z0 I0 P0 f0 _ _ => ?_)
  obtain ⟨a0, hs0, x0, e106⟩ := f0
  have h1 := h.sy hs0 x0 (e106 4 (by omega) (by omega))
  have hM := h1.lm
  obtain ⟨-, -, -, -, -, q1, q2⟩ := id x0
  refine Ev.mono (bc' := 2 * nn P0) (bs' := 194 * nn P0) (by omega) (by omega) ?_
  refine ev_aload_2 733 dL_law_733 ?_
  refine ev_aloadS_0 734 dL_law_734 ?_
  refine ev_iload_3 735 dL_law_735 ?_
  refine ev_iconst 736 dL_law_736 ⟨by decide, by decide⟩ ?_
  refine ev_iadd 737 dL_law_737 ⟨by omega, by omega⟩ ?_
  refine ev_sald 738 hX dL_law_738 ⟨by omega, by omega⟩ ?_
  refine ev_cVm_1 739 dL_law_739 kmX12_whence lk_L_101 (kd_131 hM) (m_whence (d := 3) h1.lm h1.lq h1.rb.vm h1.w h1.rt h1.ws h1.rb.hf (by rw [h1.rb.he.1]; exact h1.rb.he.2.1) (fun i a b => by
        rw [h1.rb.he.1] at b
        obtain ⟨⟨e1, e2⟩, e3⟩ := h1.rb.he.2.2 i a b
        rw [e1, e2]; exact e3) _) rfl rfl (fun r1 I1 f1 => ?_)
  obtain ⟨a1, e1⟩ := f1
  have h2 := h1.so e1
  refine ev_icmp_eq 742 1157 dL_law_742 rfl (fun hq => ?_) (fun hq => ?_)
  · exact k _ _ _ _ _ _ _ _ _ h2
  · refine absurd (wh_u (fun v => and_congr Iff.rfl (CS_cc h.w ?_ (fun i a b => ?_) v)) a0 a1) hq
    · rw [h1.rb.he.1, e106 4 (by omega) (by omega)]
    · have e7 : I0 107 = I 107 := x0.2.1 107 (by omega) (by omega) (by omega) (by omega)
      have e8 : I0 108 = I 108 := x0.2.1 108 (by omega) (by omega) (by omega) (by omega)
      obtain ⟨⟨y1, y2⟩, -⟩ := h1.rb.he.2.2 i a (by rw [e106 4 (by omega) (by omega)]; exact b)
      rw [y1, y2, e7, e8]; exact ⟨rfl, rfl⟩
theorem b_moved {l : Launch} {g : Gt} {T D : Nat} {α σ : Nat → Int → Int} {U V : Int → Nat → Int → Int} {Z : Zt} {I : It} {P : Pt'} {L i : Int} {X : Int → Int} {Q : Qt} (hX : SCR g L X) (hi : 0 ≤ i ∧ i + 6 ≤ L) (h : Bo T D α σ U V Z I P) (k : NXT l g Q i) : Ev l g mL 9 (2 * nn P) (194 * nn P) Z I P 747 [vS, vA 0, vA 131, vI i] [] Q := by
  have hL := hX.2.1
  have hZ := h.sn.1
  have hM := h.lm
  refine ev_aload_1 747 dL_law_747 ?_
  refine ev_aloadS_0 748 dL_law_748 ?_
  refine ev_iload_3 749 dL_law_749 ?_
  refine ev_iconst 750 dL_law_750 ⟨by decide, by decide⟩ ?_
  refine ev_iadd 751 dL_law_751 ⟨by omega, by omega⟩ ?_
  refine ev_sald 752 hX dL_law_752 ⟨by omega, by omega⟩ ?_
  refine ev_aloadS_0 753 dL_law_753 ?_
  refine ev_iload_3 754 dL_law_754 ?_
  refine ev_iconst 755 dL_law_755 ⟨by decide, by decide⟩ ?_
  refine ev_iadd 756 dL_law_756 ⟨by omega, by omega⟩ ?_
  refine ev_sald 757 hX dL_law_757 ⟨by omega, by omega⟩ ?_
  refine Ev.mono (bc' := 0 + 2 * nn P) (bs' := 0 + 194 * nn P) (by omega) (by omega) ?_
  refine ev_cVg_2 758 dL_law_758 kmX11_moved lk_L_102 (kd_0 hZ) (c_moved (d := 1) h.sn h.rb.vs h.ws _ _) rfl rfl (fun r0 Z0 I0 P0 f0 _ _ => ?_)
  obtain ⟨a0, hs0, x0, e106⟩ := f0
  have h1 := h.sy hs0 x0 (by rw [e106])
  have hM := h1.lm
  obtain ⟨-, -, -, -, -, q1, q2⟩ := id x0
  refine Ev.mono (bc' := 2 * nn P0) (bs' := 194 * nn P0) (by omega) (by omega) ?_
  refine ev_aload_2 761 dL_law_761 ?_
  refine ev_aloadS_0 762 dL_law_762 ?_
  refine ev_iload_3 763 dL_law_763 ?_
  refine ev_iconst 764 dL_law_764 ⟨by decide, by decide⟩ ?_
  refine ev_iadd 765 dL_law_765 ⟨by omega, by omega⟩ ?_
  refine ev_sald 766 hX dL_law_766 ⟨by omega, by omega⟩ ?_
  refine ev_aloadS_0 767 dL_law_767 ?_
  refine ev_iload_3 768 dL_law_768 ?_
  refine ev_iconst 769 dL_law_769 ⟨by decide, by decide⟩ ?_
  refine ev_iadd 770 dL_law_770 ⟨by omega, by omega⟩ ?_
  refine ev_sald 771 hX dL_law_771 ⟨by omega, by omega⟩ ?_
  refine ev_cVm_2 772 dL_law_772 kmX12_moved lk_L_105 (kd_131 hM) (m_moved (d := 3) h1.lm h1.lq h1.rb.vm h1.w h1.rt h1.ws h1.rb.hf _ _) rfl rfl (fun r1 I1 f1 => ?_)
  obtain ⟨a1, e1, e2, e3⟩ := f1
  have h2 := h1.md (fun a b1 _ b3 b4 _ => e2 a b1 b3 b4) (fun j b1 b2 b3 _ => e1 j b1 b2 b3) (fun i _ => by rw [e2 138 (by omega) (by omega) (by omega)]) e3
  refine ev_icmp_eq 775 1157 dL_law_775 rfl (fun hq => ?_) (fun hq => ?_)
  · exact k _ _ _ _ _ _ _ _ _ h2
  · exact absurd (mv_cc h.w a0 a1) hq
theorem b_leak {l : Launch} {g : Gt} {T D : Nat} {α σ : Nat → Int → Int} {U V : Int → Nat → Int → Int} {Z : Zt} {I : It} {P : Pt'} {L i : Int} {X : Int → Int} {Q : Qt} (hX : SCR g L X) (hi : 0 ≤ i ∧ i + 6 ≤ L) (h : Bo T D α σ U V Z I P) (k : NXT l g Q i) : Ev l g mL 9 (2 * nn P) (194 * nn P) Z I P 1001 [vS, vA 0, vA 131, vI i] [] Q := by
  have hL := hX.2.1
  have hZ := h.sn.1
  have hM := h.lm
  refine ev_aload_1 1001 dL_law_1001 ?_
  refine ev_aloadS_0 1002 dL_law_1002 ?_
  refine ev_iload_3 1003 dL_law_1003 ?_
  refine ev_iconst 1004 dL_law_1004 ⟨by decide, by decide⟩ ?_
  refine ev_iadd 1005 dL_law_1005 ⟨by omega, by omega⟩ ?_
  refine ev_sald 1006 hX dL_law_1006 ⟨by omega, by omega⟩ ?_
  refine ev_aloadS_0 1007 dL_law_1007 ?_
  refine ev_iload_3 1008 dL_law_1008 ?_
  refine ev_iconst 1009 dL_law_1009 ⟨by decide, by decide⟩ ?_
  refine ev_iadd 1010 dL_law_1010 ⟨by omega, by omega⟩ ?_
  refine ev_sald 1011 hX dL_law_1011 ⟨by omega, by omega⟩ ?_
  refine ev_aloadS_0 1012 dL_law_1012 ?_
  refine ev_iload_3 1013 dL_law_1013 ?_
  refine ev_iconst 1014 dL_law_1014 ⟨by decide, by decide⟩ ?_
  refine ev_iadd 1015 dL_law_1015 ⟨by omega, by omega⟩ ?_
  refine ev_sald 1016 hX dL_law_1016 ⟨by omega, by omega⟩ ?_
  refine ev_aloadS_0 1017 dL_law_1017 ?_
  refine ev_iload_3 1018 dL_law_1018 ?_
  refine ev_iconst 1019 dL_law_1019 ⟨by decide, by decide⟩ ?_
  refine ev_iadd 1020 dL_law_1020 ⟨by omega, by omega⟩ ?_
  refine ev_sald 1021 hX dL_law_1021 ⟨by omega, by omega⟩ ?_
  refine ev_aloadS_0 1022 dL_law_1022 ?_
  refine ev_iload_3 1023 dL_law_1023 ?_
  refine ev_iconst 1024 dL_law_1024 ⟨by decide, by decide⟩ ?_
  refine ev_iadd 1025 dL_law_1025 ⟨by omega, by omega⟩ ?_
  refine ev_sald 1026 hX dL_law_1026 ⟨by omega, by omega⟩ ?_
  refine ev_cVn_5 1027 dL_law_1027 kmX11_leak lk_L_134 (kd_0 hZ) (c_leak (d := 6) h.sn h.rb.vs h.ws _ _ _ _ _) rfl rfl (fun r0 I0 f0 => ?_)
  obtain ⟨a0, e0⟩ := f0
  have h1 := h.cl (fun a _ _ a3 => e0 a a3)
  refine ev_aload_2 1030 dL_law_1030 ?_
  refine ev_aloadS_0 1031 dL_law_1031 ?_
  refine ev_iload_3 1032 dL_law_1032 ?_
  refine ev_iconst 1033 dL_law_1033 ⟨by decide, by decide⟩ ?_
  refine ev_iadd 1034 dL_law_1034 ⟨by omega, by omega⟩ ?_
  refine ev_sald 1035 hX dL_law_1035 ⟨by omega, by omega⟩ ?_
  refine ev_aloadS_0 1036 dL_law_1036 ?_
  refine ev_iload_3 1037 dL_law_1037 ?_
  refine ev_iconst 1038 dL_law_1038 ⟨by decide, by decide⟩ ?_
  refine ev_iadd 1039 dL_law_1039 ⟨by omega, by omega⟩ ?_
  refine ev_sald 1040 hX dL_law_1040 ⟨by omega, by omega⟩ ?_
  refine ev_aloadS_0 1041 dL_law_1041 ?_
  refine ev_iload_3 1042 dL_law_1042 ?_
  refine ev_iconst 1043 dL_law_1043 ⟨by decide, by decide⟩ ?_
  refine ev_iadd 1044 dL_law_1044 ⟨by omega, by omega⟩ ?_
  refine ev_sald 1045 hX dL_law_1045 ⟨by omega, by omega⟩ ?_
  refine ev_aloadS_0 1046 dL_law_1046 ?_
  refine ev_iload_3 1047 dL_law_1047 ?_
  refine ev_iconst 1048 dL_law_1048 ⟨by decide, by decide⟩ ?_
  refine ev_iadd 1049 dL_law_1049 ⟨by omega, by omega⟩ ?_
  refine ev_sald 1050 hX dL_law_1050 ⟨by omega, by omega⟩ ?_
  refine ev_aloadS_0 1051 dL_law_1051 ?_
  refine ev_iload_3 1052 dL_law_1052 ?_
  refine ev_iconst 1053 dL_law_1053 ⟨by decide, by decide⟩ ?_
  refine ev_iadd 1054 dL_law_1054 ⟨by omega, by omega⟩ ?_
  refine ev_sald 1055 hX dL_law_1055 ⟨by omega, by omega⟩ ?_
  refine ev_cVn_5 1056 dL_law_1056 kmX12_leak lk_L_138 (kd_131 hM) (m_leak (d := 6) h1.lm h1.lq h1.rb.vm h1.w _ _ _ _ _) rfl rfl (fun r1 I1 f1 => ?_)
  obtain ⟨a1, e1⟩ := f1
  have h2 := h1.md (fun a _ _ _ _ a5 => e1 a a5) (fun j _ _ _ _ => by rw [e1 131 (by omega)]) (fun i _ => by rw [e1 138 (by omega)]) (h1.rb.hf.fr (by rw [e1 131 (by omega)]) (e1 141 (by omega)))
  refine ev_lcmp 1059 dL_law_1059 ?_
  refine ev_ifc_eq 1060 1157 dL_law_1060 rfl (fun hq => ?_) (fun hq => ?_)
  · exact k _ _ _ _ _ _ _ _ _ h2
  · exact absurd (lkA.u a0 a1) hq
