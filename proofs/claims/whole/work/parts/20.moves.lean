/-! how few are to be hung elsewhere: what all hear, where a town can hang -/
def HM (α : Nat → Int → Int) (h : Int → Int) (Z : Zt) (I : It) (P : Pt') : Prop := ∀ t, 0 ≤ t → t < α 0 5 → I 110 t = 24 * α 4 t + h t ∧ (0 ≤ h t ∧ h t < α 0 0) ∧ ∃ R, P 111 t = some R ∧ RowAt Z P R ∧ R + 1 < Z.2.2 ∧ (R = 103 ∨ 145 ≤ R) ∧ (R = 103 ∨ I R 1 = 1) ∧ ∀ v, 0 ≤ v → v < 192 → I (R + 1) v = dS 1000000 α (24 * α 4 t + h t) v
def upH (h : Int → Int) (t x : Int) : Int → Int := fun u => if u = t then x else h u
theorem upH_s {h : Int → Int} {t x : Int} : upH h t x t = x := if_pos rfl
theorem upH_k {h : Int → Int} {t x u : Int} (q : u ≠ t) : upH h t x u = h u := if_neg q
def OKu (cap : Int) (α σ : Nat → Int → Int) (h : Int → Int) (b as t n : Int) : Prop := ∀ u, 0 ≤ u → u < n → t ≠ as → u ≠ as → σ 2 t = 0 → σ 2 u = 0 → dS cap α (24 * α 4 u + h u) (24 * α 4 t + h t) ≤ b
def AH (cap : Int) (α σ : Nat → Int → Int) (h : Int → Int) (b as : Int) : Prop := ∀ t, 0 ≤ t → t < α 0 5 → OKu cap α σ h b as t t
def AL (cap : Int) (α σ : Nat → Int → Int) (h : Int → Int) (b : Int) : Prop := ∀ t, 0 ≤ t → t < α 0 5 → ∀ u, 0 ≤ u → u < t → σ 2 t = 0 → σ 2 u = 0 → dS cap α (24 * α 4 u + h u) (24 * α 4 t + h t) ≤ b
def AT (cap : Int) (α σ : Nat → Int → Int) (h : Int → Int) (b t s : Int) : Prop := ∀ u, 0 ≤ u → u < α 0 5 → u ≠ t → σ 2 u = 0 → dS cap α (24 * α 4 u + h u) s ≤ b
def FR (α σ : Nat → Int → Int) (h : Int → Int) (t x : Int) : Prop := ¬ mkt α (24 * α 4 t + x) ∧ ∀ u, 0 ≤ u → u < α 0 5 → σ 2 u = 0 → h u = x → α 4 u ≠ α 4 t
def HG (cap : Int) (α σ : Nat → Int → Int) (h : Int → Int) (b fr v : Int) : Prop := fr ≤ v / 24 ∧ v % 24 < α 0 0 ∧ σ 2 (v / 24) = 0 ∧ FR α σ h (v / 24) (v % 24) ∧ AL cap α σ (upH h (v / 24) (v % 24)) b
def P2 (cap : Int) (α σ : Nat → Int → Int) (h : Int → Int) (b w : Int) : Prop := w % 24 < α 0 0 ∧ σ 2 (w / 24) = 0 ∧ FR α σ h (w / 24) (w % 24) ∧ ∃ v, 0 ≤ v ∧ v < 24 * α 0 5 ∧ HG cap α σ (upH h (w / 24) (w % 24)) b (w / 24 + 1) v
def MV (cap : Int) (α σ : Nat → Int → Int) (b n lo up : Int) : Prop := (AL cap α σ (σ 1) b ∧ n = 0 ∧ lo = -4 ∧ up = -4) ∨ (¬ AL cap α σ (σ 1) b ∧ ∃ r, LW (HG cap α σ (σ 1) b 0) (24 * α 0 5) r ∧ ((r ≠ -4 ∧ n = 1 ∧ lo = r ∧ up = -4) ∨
  (r = -4 ∧ ∃ q, LW (P2 cap α σ (σ 1) b) (24 * α 0 5) q ∧ ((q = -4 ∧ n = -4 ∧ lo = -4 ∧ up = -4) ∨ (q ≠ -4 ∧ n = 2 ∧ lo = q ∧ LW (HG cap α σ (upH (σ 1) (q / 24) (q % 24)) b (q / 24 + 1)) (24 * α 0 5) up)))))
theorem MV.u {cap : Int} {α σ : Nat → Int → Int} {b n lo up n' lo' up' : Int} (h : MV cap α σ b n lo up) (k : MV cap α σ b n' lo' up') : n = n' ∧ lo = lo' ∧ up = up' := by
  rcases h with ⟨h0, h1, h2, h3⟩ | ⟨h0, r, h1, h2⟩ <;> rcases k with ⟨k0, k1, k2, k3⟩ | ⟨k0, r', k1, k2⟩
  · omega
  · exact absurd h0 k0
  · exact absurd k0 h0
  · have e := h1.u k1
    subst e
    rcases h2 with ⟨a, b, c, e⟩ | ⟨a, q, c, e⟩ <;> rcases k2 with ⟨a', b', c', e'⟩ | ⟨a', q', c', e'⟩
    · omega
    · exact absurd a' a
    · exact absurd a a'
    · have z := c.u c'
      subst z
      rcases e with ⟨e1, e2, e3, e4⟩ | ⟨e1, e2, e3, e4⟩ <;> rcases e' with ⟨f1, f2, f3, f4⟩ | ⟨f1, f2, f3, f4⟩
      · omega
      · exact absurd e1 f1
      · exact absurd f1 e1
      · exact ⟨by omega, by omega, e4.u f4⟩
theorem al_up {cap : Int} {α σ : Nat → Int → Int} {h : Int → Int} {b u x : Int} (hW : WF α) (hu : 0 ≤ u ∧ u < α 0 5) (hc : σ 2 u = 0) : AL cap α σ (upH h u x) b ↔ (AH cap α σ h b u ∧ AT cap α σ h b u (24 * α 4 u + x)) := by
  constructor
  · intro k
    refine ⟨fun t t0 t1 v v0 v1 a1 a2 c1 c2 => ?_, fun v v0 v1 a c => ?_⟩
    · have := k t t0 t1 v v0 v1 c1 c2
      rw [upH_k a1, upH_k a2] at this; exact this
    · rcases Int.lt_or_le v u with z | z
      · have := k u hu.1 hu.2 v v0 z hc c
        rw [upH_s, upH_k a] at this; exact this
      · have := k v v0 v1 u hu.1 (by omega) c hc
        rw [upH_s, upH_k a, dS_sy hW] at this; exact this
  · rintro ⟨k1, k2⟩ t t0 t1 v v0 v1 c1 c2
    by_cases e1 : t = u
    · subst e1
      rw [upH_s, upH_k (by omega)]; exact k2 v v0 (by omega) (by omega) c2
    · by_cases e2 : v = u
      · subst e2
        rw [upH_s, upH_k e1, dS_sy hW]; exact k2 t t0 t1 e1 c1
      · rw [upH_k e1, upH_k e2]; exact k1 t t0 t1 v v0 v1 e1 e2 c1 c2
theorem c_bF {l : Launch} {g : Gt} {d : Nat} {Z : Zt} {I : It} {P : Pt'} {T : Nat} {α : Nat → Int → Int} {h : Int → Int} (hsn : SN T α Z I P) (hM : HM α h Z I P) {t v : Int} (ht : 0 ≤ t ∧ t < α 0 5) (hv : 0 ≤ v ∧ v < 192) : Mt l g mX3_beatsFrom d 0 0 [vA 109, vI t, vI v] Z I P (QP (dS 1000000 α (24 * α 4 t + h t) v) Z I P) := by
  have hZ := hsn.1
  have hP := hsn.2.1
  have hT0 := hsn.2.2.1
  have hT := hsn.2.2.2.1
  have hW := hsn.2.2.2.2.2.1
  have w0 := hW.1
  have w1 := hW.2.1
  have w5 := hW.2.2.1
  obtain ⟨m1, m2, R, m3, hr, m5, m6, m7, m8⟩ := hM t ht.1 ht.2
  refine Mt.of kmX3_beatsFrom (ls := [vA 109, vI t, vI v, vX]) (fun _ => rfl) (fun _ => rfl) (okf_k (okf_k (okf_k (okf_n rfl)))) (fun hok => ?_)
  refine ev_aload_0 0 dX3_beatsFrom_0 ?_
  refine ev_getA 1 3 dX3_beatsFrom_1 fa_X3_17 (kd_109 hZ) (pr_109_3 hP) rfl ?_
  refine ev_iload_1 4 dX3_beatsFrom_4 ?_
  refine ev_aaldA 5 dX3_beatsFrom_5 (kd_111 hZ) (by omega) ⟨by omega, by have := (ln_111 hZ); omega⟩ m3 ?_
  refine ev_astore_3 6 dX3_beatsFrom_6 rfl rfl ?_
  refine ev_aload_3 7 dX3_beatsFrom_7 ?_
  refine ev_ifnullA 8 dX3_beatsFrom_8 ?_
  refine ev_iload_2 11 dX3_beatsFrom_11 ?_
  refine ev_if_lt 12 31 dX3_beatsFrom_12 rfl (fun h12 => ?_) (fun h12 => ?_)
  · exfalso; omega
  · refine ev_iload_2 15 dX3_beatsFrom_15 ?_
    refine ev_sipush 16 dX3_beatsFrom_16 ⟨by decide, by decide⟩ ?_
    refine ev_icmp_ge 19 31 dX3_beatsFrom_19 rfl (fun h19 => ?_) (fun h19 => ?_)
    · exfalso; omega
    · refine ev_aload_3 22 dX3_beatsFrom_22 ?_
      refine ev_getA 23 0 dX3_beatsFrom_23 fa_X3_120 hr.1 hr.2.1 rfl ?_
      refine ev_iload_2 26 dX3_beatsFrom_26 ?_
      refine ev_iald 27 dX3_beatsFrom_27 hr.2.2.1 ⟨by omega, by have := hr.2.2.2; omega⟩ ?_
      refine ev_goto 28 33 dX3_beatsFrom_28 rfl ?_
      refine ev_iret 33 dX3_beatsFrom_33 ?_ rfl
      first | exact QP_of (m8 _ hv.1 hv.2) | (exfalso; omega)
theorem c_aHA {l : Launch} {g : Gt} {d : Nat} {Z : Zt} {I : It} {P : Pt'} {T : Nat} {α σ : Nat → Int → Int} {h : Int → Int} (hsn : SN T α Z I P) (hS : VS I σ) (hWS : WS α σ) (hM : HM α h Z I P) {b : Int} (hb : I 109 4 = b) (t : Int) {s : Int} (hs : 0 ≤ s ∧ s < 192) : Mt l g mX3_allHearAt (d + 1) 0 0 [vA 109, vI t, vI s] Z I P (QP (b2 (AT 1000000 α σ h b t s)) Z I P) := by
  have hZ := hsn.1
  have hP := hsn.2.1
  have hT0 := hsn.2.2.1
  have hT := hsn.2.2.2.1
  have hW := hsn.2.2.2.2.2.1
  have w0 := hW.1
  have w1 := hW.2.1
  have w5 := hW.2.2.1
  have a0 : I T 0 = α 0 0 := hsn.2.2.2.2.1.at 0
  have a1 : I T 1 = α 0 1 := hsn.2.2.2.2.1.at 1
  have a5 : I T 5 = α 0 5 := hsn.2.2.2.2.1.at 5
  have a4 : I (T + 4) = α 4 := hsn.2.2.2.2.1 4 (by omega)
  have s1 : I 19 = σ 1 := hS 1 (by omega)
  have s2 : I 20 = σ 2 := hS 2 (by omega)
  refine Mt.of kmX3_allHearAt (ls := [vA 109, vI t, vI s, vX]) (fun _ => rfl) (fun _ => rfl) (okf_k (okf_k (okf_k (okf_n rfl)))) (fun hok => ?_)
  have loop : ∀ (k : Nat) (u : Int), 0 ≤ u → u + k = α 0 5 → (∀ v, 0 ≤ v → v < u → v ≠ t → σ 2 v = 0 → dS 1000000 α (24 * α 4 v + h v) s ≤ b) → Ev l g mX3_allHearAt (d + 1) 0 0 Z I P 2 [vA 109, vI t, vI s, vI u] [] (QP (b2 (AT 1000000 α σ h b t s)) Z I P) := by
    intro k
    induction k with
    | zero =>
      intro u h0 h1 g1
      obtain rfl : u = α 0 5 := by omega
      refine ev_iload_3 2 dX3_allHearAt_2 ?_
      refine ev_aload_0 3 dX3_allHearAt_3 ?_
      refine ev_getA 4 0 dX3_allHearAt_4 fa_X3_34 (kd_109 hZ) (pr_109_0 hP) rfl ?_
      refine ev_getA 7 0 dX3_allHearAt_7 fa_X3_42 (kd_4 hZ) hT0 rfl ?_
      refine ev_gI 10 5 5 dX3_allHearAt_10 fa_X3_48 (kdT_0 hZ hT) rfl rfl rfl ?_
      try simp only [a5, s2, hb]
      refine ev_icmp_ge 13 60 dX3_allHearAt_13 rfl (fun h13 => ?_) (fun h13 => ?_)
      · refine ev_iconst 60 dX3_allHearAt_60 ⟨by decide, by decide⟩ ?_
        refine ev_zret 61 dX3_allHearAt_61 (by first | omega | exact b2_or _) ?_ rfl
        exact QP_of (b2_t g1).symm
      · exfalso; omega
    | succ k ih =>
      intro u h0 h1 g1
      have n54 : (u ≠ t → σ 2 u = 0 → dS 1000000 α (24 * α 4 u + h u) s ≤ b) → Ev l g mX3_allHearAt (d + 1) 0 0 Z I P 54 [vA 109, vI t, vI s, vI u] [] (QP (b2 (AT 1000000 α σ h b t s)) Z I P) := by
        intro g2
        refine ev_iinc_3 54 dX3_allHearAt_54 ⟨by omega, by omega⟩ rfl rfl ?_
        refine ev_goto 57 2 dX3_allHearAt_57 rfl ?_
        exact ih _ (by omega) (by omega) (fun v x y => by
          rcases Int.lt_or_le v u with z | z
          · exact g1 v x z
          · obtain rfl : v = u := by omega
            exact g2)
      refine ev_iload_3 2 dX3_allHearAt_2 ?_
      refine ev_aload_0 3 dX3_allHearAt_3 ?_
      refine ev_getA 4 0 dX3_allHearAt_4 fa_X3_34 (kd_109 hZ) (pr_109_0 hP) rfl ?_
      refine ev_getA 7 0 dX3_allHearAt_7 fa_X3_42 (kd_4 hZ) hT0 rfl ?_
      refine ev_gI 10 5 5 dX3_allHearAt_10 fa_X3_48 (kdT_0 hZ hT) rfl rfl rfl ?_
      try simp only [a5, s2, hb]
      refine ev_icmp_ge 13 60 dX3_allHearAt_13 rfl (fun h13 => ?_) (fun h13 => ?_)
      · exfalso; omega
      · refine ev_iload_3 16 dX3_allHearAt_16 ?_
        refine ev_iload_1 17 dX3_allHearAt_17 ?_
        refine ev_icmp_eq 18 54 dX3_allHearAt_18 rfl (fun h18 => ?_) (fun h18 => ?_)
        · exact n54 (fun z1 z2 => by first | omega | contradiction)
        · refine ev_aload_0 21 dX3_allHearAt_21 ?_
          refine ev_getA 22 0 dX3_allHearAt_22 fa_X3_34 (kd_109 hZ) (pr_109_0 hP) rfl ?_
          refine ev_getA 25 1 dX3_allHearAt_25 fa_X3_81 (kd_4 hZ) (pr_4_1 hP) rfl ?_
          refine ev_getA 28 3 dX3_allHearAt_28 fa_X3_85 (kd_18 hZ) (pr_18_3 hP) rfl ?_
          refine ev_iload_3 31 dX3_allHearAt_31 ?_
          refine ev_zald 32 dX3_allHearAt_32 (kd_20 hZ) ⟨by omega, by have := (ln_20 hZ); omega⟩ ?_
          try simp only [a5, s2, hb]
          refine ev_if_eq 33 39 dX3_allHearAt_33 rfl (fun h33 => ?_) (fun h33 => ?_)
          · refine ev_aload_0 39 dX3_allHearAt_39 ?_
            refine ev_iload_3 40 dX3_allHearAt_40 ?_
            refine ev_iload_2 41 dX3_allHearAt_41 ?_
            refine ev_cVp_2 42 dX3_allHearAt_42 kmX3_beatsFrom lk_X3_117 (kd_109 hZ) (c_bF hsn hM (by omega) (by omega)) rfl rfl ?_
            try simp only [a5, s2, hb]
            refine ev_aload_0 45 dX3_allHearAt_45 ?_
            refine ev_gI 46 4 4 dX3_allHearAt_46 fa_X3_21 (kd_109 hZ) rfl rfl rfl ?_
            try simp only [a5, s2, hb]
            refine ev_icmp_le 49 54 dX3_allHearAt_49 rfl (fun h49 => ?_) (fun h49 => ?_)
            · exact n54 (fun z1 z2 => by first | omega | contradiction)
            · refine ev_iconst 52 dX3_allHearAt_52 ⟨by decide, by decide⟩ ?_
              refine ev_zret 53 dX3_allHearAt_53 (by first | omega | exact b2_or _) ?_ rfl
              exact QP_of (b2_f (fun z => by have := z u h0 (by omega) (by omega) (by assumption); omega)).symm
          · refine ev_goto 36 54 dX3_allHearAt_36 rfl ?_
            exact n54 (fun z1 z2 => by first | omega | contradiction)
  refine ev_iconst 0 dX3_allHearAt_0 ⟨by decide, by decide⟩ ?_
  refine ev_istore_3 1 dX3_allHearAt_1 rfl rfl ?_
  exact loop (α 0 5).toNat 0 (by omega) (by omega) (fun v x y => by omega)
theorem c_aH {l : Launch} {g : Gt} {d : Nat} {Z : Zt} {I : It} {P : Pt'} {T : Nat} {α σ : Nat → Int → Int} {h : Int → Int} (hsn : SN T α Z I P) (hS : VS I σ) (hWS : WS α σ) (hM : HM α h Z I P) {b : Int} (hb : I 109 4 = b) (as : Int) : Mt l g mX3_allHear (d + 1) 0 0 [vA 109, vI as] Z I P (QP (b2 (AH 1000000 α σ h b as)) Z I P) := by
  have hZ := hsn.1
  have hP := hsn.2.1
  have hT0 := hsn.2.2.1
  have hT := hsn.2.2.2.1
  have hW := hsn.2.2.2.2.2.1
  have w0 := hW.1
  have w1 := hW.2.1
  have w5 := hW.2.2.1
  have a0 : I T 0 = α 0 0 := hsn.2.2.2.2.1.at 0
  have a1 : I T 1 = α 0 1 := hsn.2.2.2.2.1.at 1
  have a5 : I T 5 = α 0 5 := hsn.2.2.2.2.1.at 5
  have a4 : I (T + 4) = α 4 := hsn.2.2.2.2.1 4 (by omega)
  have s1 : I 19 = σ 1 := hS 1 (by omega)
  have s2 : I 20 = σ 2 := hS 2 (by omega)
  refine Mt.of kmX3_allHear (ls := [vA 109, vI as, vX, vX]) (fun _ => rfl) (fun _ => rfl) (okf_k (okf_k (okf_n rfl))) (fun hok => ?_)
  have loop : ∀ (k : Nat) (t : Int) (vx : Vv), 1 ≤ t → (t + k = α 0 5 ∨ (k = 0 ∧ α 0 5 ≤ t)) → (∀ q, 0 ≤ q → q < t → OKu 1000000 α σ h b as q q) → Ev l g mX3_allHear (d + 1) 0 0 Z I P 2 [vA 109, vI as, vI t, vx] [] (QP (b2 (AH 1000000 α σ h b as)) Z I P) := by
    intro k
    induction k with
    | zero =>
      intro t vx h0 h1 g1
      refine ev_iload_2 2 dX3_allHear_2 ?_
      refine ev_aload_0 3 dX3_allHear_3 ?_
      refine ev_getA 4 0 dX3_allHear_4 fa_X3_34 (kd_109 hZ) (pr_109_0 hP) rfl ?_
      refine ev_getA 7 0 dX3_allHear_7 fa_X3_42 (kd_4 hZ) hT0 rfl ?_
      refine ev_gI 10 5 5 dX3_allHear_10 fa_X3_48 (kdT_0 hZ hT) rfl rfl rfl ?_
      try simp only [a5, s2, hb]
      refine ev_icmp_ge 13 101 dX3_allHear_13 rfl (fun h13 => ?_) (fun h13 => ?_)
      · refine ev_iconst 101 dX3_allHear_101 ⟨by decide, by decide⟩ ?_
        refine ev_zret 102 dX3_allHear_102 (by first | omega | exact b2_or _) ?_ rfl
        exact QP_of (b2_t (fun t x y => g1 t x (by omega))).symm
      · exfalso; omega
    | succ k ih =>
      intro t vx h0 h1 g1
      have n95 : ∀ vx, OKu 1000000 α σ h b as t t → Ev l g mX3_allHear (d + 1) 0 0 Z I P 95 [vA 109, vI as, vI t, vx] [] (QP (b2 (AH 1000000 α σ h b as)) Z I P) := by
        intro vx g2
        refine ev_iinc_2 95 dX3_allHear_95 ⟨by omega, by omega⟩ rfl rfl ?_
        refine ev_goto 98 2 dX3_allHear_98 rfl ?_
        exact ih _ _ (by omega) (by omega) (fun v x y => by
          rcases Int.lt_or_le v t with z | z
          · exact g1 v x z
          · obtain rfl : v = t := by omega
            exact g2)
      have m0 := hM t (by omega) (by omega)
      have m1 := (hW.2.2.2.2.2.2.1 t (by omega) (by omega)).1
      have inner : t ≠ as → σ 2 t = 0 → ∀ (k : Nat) (u : Int), 0 ≤ u → u + k = t → OKu 1000000 α σ h b as t u → Ev l g mX3_allHear (d + 1) 0 0 Z I P 41 [vA 109, vI as, vI t, vI u] [] (QP (b2 (AH 1000000 α σ h b as)) Z I P) := by
        intro e1 e2 k
        induction k with
        | zero =>
          intro u j0 j1 g2
          obtain rfl : u = t := by omega
          refine ev_iload_3 41 dX3_allHear_41 ?_
          refine ev_iload_2 42 dX3_allHear_42 ?_
          refine ev_icmp_ge 43 95 dX3_allHear_43 rfl (fun h43 => ?_) (fun h43 => ?_)
          · exact n95 _ g2
          · exfalso; omega
        | succ k ih2 =>
          intro u j0 j1 g2
          have n89 : (u ≠ as → σ 2 u = 0 → dS 1000000 α (24 * α 4 u + h u) (24 * α 4 t + h t) ≤ b) → Ev l g mX3_allHear (d + 1) 0 0 Z I P 89 [vA 109, vI as, vI t, vI u] [] (QP (b2 (AH 1000000 α σ h b as)) Z I P) := by
            intro g3
            refine ev_iinc_3 89 dX3_allHear_89 ⟨by omega, by omega⟩ rfl rfl ?_
            refine ev_goto 92 41 dX3_allHear_92 rfl ?_
            exact ih2 _ (by omega) (by omega) (fun v x y z1 z2 z3 z4 => by
              rcases Int.lt_or_le v u with z | z
              · exact g2 v x z z1 z2 z3 z4
              · obtain rfl : v = u := by omega
                exact g3 z2 z4)
          refine ev_iload_3 41 dX3_allHear_41 ?_
          refine ev_iload_2 42 dX3_allHear_42 ?_
          refine ev_icmp_ge 43 95 dX3_allHear_43 rfl (fun h43 => ?_) (fun h43 => ?_)
          · exfalso; omega
          · refine ev_iload_3 46 dX3_allHear_46 ?_
            refine ev_iload_1 47 dX3_allHear_47 ?_
            refine ev_icmp_eq 48 89 dX3_allHear_48 rfl (fun h48 => ?_) (fun h48 => ?_)
            · exact n89 (fun z1 z2 => by first | omega | contradiction)
            · refine ev_aload_0 51 dX3_allHear_51 ?_
              refine ev_getA 52 0 dX3_allHear_52 fa_X3_34 (kd_109 hZ) (pr_109_0 hP) rfl ?_
              refine ev_getA 55 1 dX3_allHear_55 fa_X3_81 (kd_4 hZ) (pr_4_1 hP) rfl ?_
              refine ev_getA 58 3 dX3_allHear_58 fa_X3_85 (kd_18 hZ) (pr_18_3 hP) rfl ?_
              refine ev_iload_3 61 dX3_allHear_61 ?_
              refine ev_zald 62 dX3_allHear_62 (kd_20 hZ) ⟨by omega, by have := (ln_20 hZ); omega⟩ ?_
              try simp only [a5, s2, hb, m0.1]
              refine ev_if_eq 63 69 dX3_allHear_63 rfl (fun h63 => ?_) (fun h63 => ?_)
              · refine ev_aload_0 69 dX3_allHear_69 ?_
                refine ev_iload_3 70 dX3_allHear_70 ?_
                refine ev_aload_0 71 dX3_allHear_71 ?_
                refine ev_getA 72 2 dX3_allHear_72 fa_X3_9 (kd_109 hZ) (pr_109_2 hP) rfl ?_
                refine ev_iload_2 75 dX3_allHear_75 ?_
                refine ev_iald 76 dX3_allHear_76 (kd_110 hZ) ⟨by omega, by have := (ln_110 hZ); omega⟩ ?_
                try simp only [a5, s2, hb, m0.1]
                refine ev_cVp_2 77 dX3_allHear_77 kmX3_beatsFrom lk_X3_117 (kd_109 hZ) (c_bF hsn hM (by omega) (by omega)) rfl rfl ?_
                try simp only [a5, s2, hb, m0.1]
                refine ev_aload_0 80 dX3_allHear_80 ?_
                refine ev_gI 81 4 4 dX3_allHear_81 fa_X3_21 (kd_109 hZ) rfl rfl rfl ?_
                try simp only [a5, s2, hb, m0.1]
                refine ev_icmp_le 84 89 dX3_allHear_84 rfl (fun h84 => ?_) (fun h84 => ?_)
                · exact n89 (fun z1 z2 => by first | omega | contradiction)
                · refine ev_iconst 87 dX3_allHear_87 ⟨by decide, by decide⟩ ?_
                  refine ev_zret 88 dX3_allHear_88 (by first | omega | exact b2_or _) ?_ rfl
                  exact QP_of (b2_f (fun z => by have := z t (by omega) (by omega) u j0 (by omega) e1 (by assumption) e2 (by assumption); omega)).symm
              · refine ev_goto 66 89 dX3_allHear_66 rfl ?_
                exact n89 (fun z1 z2 => by first | omega | contradiction)
      refine ev_iload_2 2 dX3_allHear_2 ?_
      refine ev_aload_0 3 dX3_allHear_3 ?_
      refine ev_getA 4 0 dX3_allHear_4 fa_X3_34 (kd_109 hZ) (pr_109_0 hP) rfl ?_
      refine ev_getA 7 0 dX3_allHear_7 fa_X3_42 (kd_4 hZ) hT0 rfl ?_
      refine ev_gI 10 5 5 dX3_allHear_10 fa_X3_48 (kdT_0 hZ hT) rfl rfl rfl ?_
      try simp only [a5, s2, hb]
      refine ev_icmp_ge 13 101 dX3_allHear_13 rfl (fun h13 => ?_) (fun h13 => ?_)
      · exfalso; omega
      · refine ev_iload_2 16 dX3_allHear_16 ?_
        refine ev_iload_1 17 dX3_allHear_17 ?_
        refine ev_icmp_eq 18 95 dX3_allHear_18 rfl (fun h18 => ?_) (fun h18 => ?_)
        · exact n95 _ (fun u z0 z1 z2 z3 z4 z5 => by first | omega | contradiction)
        · refine ev_aload_0 21 dX3_allHear_21 ?_
          refine ev_getA 22 0 dX3_allHear_22 fa_X3_34 (kd_109 hZ) (pr_109_0 hP) rfl ?_
          refine ev_getA 25 1 dX3_allHear_25 fa_X3_81 (kd_4 hZ) (pr_4_1 hP) rfl ?_
          refine ev_getA 28 3 dX3_allHear_28 fa_X3_85 (kd_18 hZ) (pr_18_3 hP) rfl ?_
          refine ev_iload_2 31 dX3_allHear_31 ?_
          refine ev_zald 32 dX3_allHear_32 (kd_20 hZ) ⟨by omega, by have := (ln_20 hZ); omega⟩ ?_
          try simp only [a5, s2, hb]
          refine ev_if_eq 33 39 dX3_allHear_33 rfl (fun h33 => ?_) (fun h33 => ?_)
          · refine ev_iconst 39 dX3_allHear_39 ⟨by decide, by decide⟩ ?_
            refine ev_istore_3 40 dX3_allHear_40 rfl rfl ?_
            exact inner (by assumption) (by assumption) t.toNat 0 (by omega) (by omega) (fun u z0 z1 => by omega)
          · refine ev_goto 36 95 dX3_allHear_36 rfl ?_
            exact n95 _ (fun u z0 z1 z2 z3 z4 z5 => by first | omega | contradiction)
  refine ev_iconst 0 dX3_allHear_0 ⟨by decide, by decide⟩ ?_
  refine ev_istore_2 1 dX3_allHear_1 rfl rfl ?_
  exact loop (α 0 5 - 1).toNat 1 _ (by omega) (by omega) (fun t z0 z1 u z2 z3 => by omega)
theorem c_iF {l : Launch} {g : Gt} {d : Nat} {Z : Zt} {I : It} {P : Pt'} {T : Nat} {α σ : Nat → Int → Int} {h : Int → Int} (hsn : SN T α Z I P) (hS : VS I σ) (hWS : WS α σ) (hM : HM α h Z I P) {t x : Int} (ht : 0 ≤ t ∧ t < α 0 5) (hx : 0 ≤ x ∧ x < α 0 0) : Mt l g mX3_isFree (d + 1) 0 0 [vA 109, vI t, vI x] Z I P (QP (b2 (FR α σ h t x)) Z I P) := by
  have hZ := hsn.1
  have hP := hsn.2.1
  have hT0 := hsn.2.2.1
  have hT := hsn.2.2.2.1
  have hW := hsn.2.2.2.2.2.1
  have w0 := hW.1
  have w1 := hW.2.1
  have w5 := hW.2.2.1
  have a0 : I T 0 = α 0 0 := hsn.2.2.2.2.1.at 0
  have a1 : I T 1 = α 0 1 := hsn.2.2.2.2.1.at 1
  have a5 : I T 5 = α 0 5 := hsn.2.2.2.2.1.at 5
  have a4 : I (T + 4) = α 4 := hsn.2.2.2.2.1 4 (by omega)
  have s1 : I 19 = σ 1 := hS 1 (by omega)
  have s2 : I 20 = σ 2 := hS 2 (by omega)
  have m1 := (hW.2.2.2.2.2.2.1 t ht.1 ht.2).1
  have hg : gr α (24 * α 4 t + x) := ⟨by omega, by omega, by omega⟩
  have hsh := hsn.2.2.2.2.2.2.2.2.2 _ hg
  refine Mt.of kmX3_isFree (ls := [vA 109, vI t, vI x, vX, vX]) (fun _ => rfl) (fun _ => rfl) (okf_k (okf_k (okf_k (okf_n rfl)))) (fun hok => ?_)
  have loop : ¬ mkt α (24 * α 4 t + x) → ∀ (k : Nat) (u : Int), 0 ≤ u → u + k = α 0 5 → (∀ v, 0 ≤ v → v < u → σ 2 v = 0 → h v = x → α 4 v ≠ α 4 t) → Ev l g mX3_isFree (d + 1) 0 0 Z I P 33 [vA 109, vI t, vI x, vI (24 * α 4 t + x), vI u] [] (QP (b2 (FR α σ h t x)) Z I P) := by
    intro hmk k
    induction k with
    | zero =>
      intro u h0 h1 g1
      obtain rfl : u = α 0 5 := by omega
      refine ev_iload_4 33 dX3_isFree_33 ?_
      refine ev_aload_0 35 dX3_isFree_35 ?_
      refine ev_getA 36 0 dX3_isFree_36 fa_X3_34 (kd_109 hZ) (pr_109_0 hP) rfl ?_
      refine ev_getA 39 0 dX3_isFree_39 fa_X3_42 (kd_4 hZ) hT0 rfl ?_
      refine ev_gI 42 5 5 dX3_isFree_42 fa_X3_48 (kdT_0 hZ hT) rfl rfl rfl ?_
      try simp only [a5, s2]
      refine ev_icmp_ge 45 83 dX3_isFree_45 rfl (fun h45 => ?_) (fun h45 => ?_)
      · refine ev_iconst 83 dX3_isFree_83 ⟨by decide, by decide⟩ ?_
        refine ev_zret 84 dX3_isFree_84 (by first | omega | exact b2_or _) ?_ rfl
        exact QP_of (b2_t ⟨hmk, g1⟩).symm
      · exfalso; omega
    | succ k ih =>
      intro u h0 h1 g1
      have m0 := hM u h0 (by omega)
      have m2 := (hW.2.2.2.2.2.2.1 u h0 (by omega)).1
      have n77 : (σ 2 u = 0 → h u = x → α 4 u ≠ α 4 t) → Ev l g mX3_isFree (d + 1) 0 0 Z I P 77 [vA 109, vI t, vI x, vI (24 * α 4 t + x), vI u] [] (QP (b2 (FR α σ h t x)) Z I P) := by
        intro g2
        refine ev_iinc_4 77 dX3_isFree_77 ⟨by omega, by omega⟩ rfl rfl ?_
        refine ev_goto 80 33 dX3_isFree_80 rfl ?_
        exact ih _ (by omega) (by omega) (fun v x y => by
          rcases Int.lt_or_le v u with z | z
          · exact g1 v x z
          · obtain rfl : v = u := by omega
            exact g2)
      refine ev_iload_4 33 dX3_isFree_33 ?_
      refine ev_aload_0 35 dX3_isFree_35 ?_
      refine ev_getA 36 0 dX3_isFree_36 fa_X3_34 (kd_109 hZ) (pr_109_0 hP) rfl ?_
      refine ev_getA 39 0 dX3_isFree_39 fa_X3_42 (kd_4 hZ) hT0 rfl ?_
      refine ev_gI 42 5 5 dX3_isFree_42 fa_X3_48 (kdT_0 hZ hT) rfl rfl rfl ?_
      try simp only [a5, s2, m0.1]
      refine ev_icmp_ge 45 83 dX3_isFree_45 rfl (fun h45 => ?_) (fun h45 => ?_)
      · exfalso; omega
      · refine ev_aload_0 48 dX3_isFree_48 ?_
        refine ev_getA 49 0 dX3_isFree_49 fa_X3_34 (kd_109 hZ) (pr_109_0 hP) rfl ?_
        refine ev_getA 52 1 dX3_isFree_52 fa_X3_81 (kd_4 hZ) (pr_4_1 hP) rfl ?_
        refine ev_getA 55 3 dX3_isFree_55 fa_X3_85 (kd_18 hZ) (pr_18_3 hP) rfl ?_
        refine ev_iload_4 58 dX3_isFree_58 ?_
        refine ev_zald 60 dX3_isFree_60 (kd_20 hZ) ⟨by omega, by have := (ln_20 hZ); omega⟩ ?_
        try simp only [a5, s2, m0.1]
        refine ev_zne 61 77 dX3_isFree_61 rfl (fun h61 => ?_) (fun h61 => ?_)
        · exact n77 (fun z1 z2 => by first | omega | contradiction)
        · refine ev_aload_0 64 dX3_isFree_64 ?_
          refine ev_getA 65 2 dX3_isFree_65 fa_X3_9 (kd_109 hZ) (pr_109_2 hP) rfl ?_
          refine ev_iload_4 68 dX3_isFree_68 ?_
          refine ev_iald 70 dX3_isFree_70 (kd_110 hZ) ⟨by omega, by have := (ln_110 hZ); omega⟩ ?_
          try simp only [a5, s2, m0.1]
          refine ev_iload_3 71 dX3_isFree_71 ?_
          refine ev_jne 72 77 dX3_isFree_72 rfl (fun h72 => ?_) (fun h72 => ?_)
          · exact n77 (fun z1 z2 => by first | omega | contradiction)
          · refine ev_iconst 75 dX3_isFree_75 ⟨by decide, by decide⟩ ?_
            refine ev_zret 76 dX3_isFree_76 (by first | omega | exact b2_or _) ?_ rfl
            exact QP_of (b2_f (fun z => by have := z.2 u h0 (by omega) (by assumption) (by omega); omega)).symm
  refine ev_aload_0 0 dX3_isFree_0 ?_
  refine ev_getA 1 0 dX3_isFree_1 fa_X3_34 (kd_109 hZ) (pr_109_0 hP) rfl ?_
  refine ev_getA 4 0 dX3_isFree_4 fa_X3_42 (kd_4 hZ) hT0 rfl ?_
  refine ev_getA 7 6 dX3_isFree_7 fa_X3_101 (kdT_0 hZ hT) (prT_6 hP hT) rfl ?_
  refine ev_iload_1 10 dX3_isFree_10 ?_
  refine ev_iald 11 dX3_isFree_11 (kdT_4 hZ hT) ⟨by omega, by have := (lnT_4 hZ hT); omega⟩ ?_
  try simp only [a4]
  refine ev_iload_2 12 dX3_isFree_12 ?_
  refine ev_cSp_2 13 dX3_isFree_13 kmX11_spotOf lk_X3_104 (c_spotOf _ _ (by omega)) rfl rfl ?_
  try simp only [a4]
  refine ev_istore_3 16 dX3_isFree_16 rfl rfl ?_
  refine ev_aload_0 17 dX3_isFree_17 ?_
  refine ev_getA 18 1 dX3_isFree_18 fa_X3_38 (kd_109 hZ) (pr_109_1 hP) rfl ?_
  refine ev_iload_3 21 dX3_isFree_21 ?_
  refine ev_cVp_1 22 dX3_isFree_22 kmX7_isOpen lk_X3_114 (kd_101 hZ) (c_isOpen hZ hP _) rfl rfl ?_
  try simp only [a4]
  refine ev_ifb_ne 25 30 dX3_isFree_25 rfl (fun h25 => ?_) (fun h25 => ?_)
  · refine ev_iconst 30 dX3_isFree_30 ⟨by decide, by decide⟩ ?_
    refine ev_istore_4 31 dX3_isFree_31 rfl rfl ?_
    exact loop (hsh.mp (by have h' := h25; exact h'.2)) (α 0 5).toNat 0 (by omega) (by omega) (fun v x y => by omega)
  · refine ev_iconst 28 dX3_isFree_28 ⟨by decide, by decide⟩ ?_
    refine ev_zret 29 dX3_isFree_29 (by first | omega | exact b2_or _) ?_ rfl
    exact QP_of (b2_f (fun z => h25 ⟨by omega, hsh.mpr z.1⟩)).symm
theorem c_pF {l : Launch} {g : Gt} {d : Nat} {Z : Zt} {I : It} {P : Pt'} {T : Nat} {α σ : Nat → Int → Int} {h : Int → Int} (hsn : SN T α Z I P) (hS : VS I σ) (hWS : WS α σ) (hM : HM α h Z I P) {b : Int} (hb : I 109 4 = b) {u : Int} (hu : 0 ≤ u ∧ u < α 0 5) : Mt l g mX3_placeFor (d + 2) 0 0 [vA 109, vI u] Z I P (QB (LW (fun x => FR α σ h u x ∧ AT 1000000 α σ h b u (24 * α 4 u + x)) (α 0 0)) Z I P) := by
  have hZ := hsn.1
  have hP := hsn.2.1
  have hT0 := hsn.2.2.1
  have hT := hsn.2.2.2.1
  have hW := hsn.2.2.2.2.2.1
  have w0 := hW.1
  have w1 := hW.2.1
  have w5 := hW.2.2.1
  have a0 : I T 0 = α 0 0 := hsn.2.2.2.2.1.at 0
  have a1 : I T 1 = α 0 1 := hsn.2.2.2.2.1.at 1
  have a5 : I T 5 = α 0 5 := hsn.2.2.2.2.1.at 5
  have a4 : I (T + 4) = α 4 := hsn.2.2.2.2.1 4 (by omega)
  have s1 : I 19 = σ 1 := hS 1 (by omega)
  have s2 : I 20 = σ 2 := hS 2 (by omega)
  have m1 := (hW.2.2.2.2.2.2.1 u hu.1 hu.2).1
  refine Mt.of kmX3_placeFor (ls := [vA 109, vI u, vX]) (fun _ => rfl) (fun _ => rfl) (okf_k (okf_k (okf_n rfl))) (fun hok => ?_)
  have loop : ∀ (k : Nat) (x : Int), 0 ≤ x → x + k = α 0 0 → (∀ y, 0 ≤ y → y < x → ¬ ((fun x => FR α σ h u x ∧ AT 1000000 α σ h b u (24 * α 4 u + x)) y)) → Ev l g mX3_placeFor (d + 2) 0 0 Z I P 2 [vA 109, vI u, vI x] [] (QB (LW (fun x => FR α σ h u x ∧ AT 1000000 α σ h b u (24 * α 4 u + x)) (α 0 0)) Z I P) := by
    intro k
    induction k with
    | zero =>
      intro x h0 h1 g1
      obtain rfl : x = α 0 0 := by omega
      refine ev_iload_2 2 dX3_placeFor_2 ?_
      refine ev_aload_0 3 dX3_placeFor_3 ?_
      refine ev_getA 4 0 dX3_placeFor_4 fa_X3_34 (kd_109 hZ) (pr_109_0 hP) rfl ?_
      refine ev_getA 7 0 dX3_placeFor_7 fa_X3_42 (kd_4 hZ) hT0 rfl ?_
      refine ev_gI 10 0 0 dX3_placeFor_10 fa_X3_94 (kdT_0 hZ hT) rfl rfl rfl ?_
      try simp only [a0]
      refine ev_icmp_ge 13 57 dX3_placeFor_13 rfl (fun h13 => ?_) (fun h13 => ?_)
      · refine ev_bipush 57 dX3_placeFor_57 ⟨by decide, by decide⟩ ?_
        refine ev_iret 59 dX3_placeFor_59 ?_ rfl
        exact QB_of (Or.inl ⟨rfl, g1⟩)
      · exfalso; omega
    | succ k ih =>
      intro x h0 h1 g1
      have n51 : ¬ ((fun x => FR α σ h u x ∧ AT 1000000 α σ h b u (24 * α 4 u + x)) x) → Ev l g mX3_placeFor (d + 2) 0 0 Z I P 51 [vA 109, vI u, vI x] [] (QB (LW (fun x => FR α σ h u x ∧ AT 1000000 α σ h b u (24 * α 4 u + x)) (α 0 0)) Z I P) := by
        intro g2
        refine ev_iinc_2 51 dX3_placeFor_51 ⟨by omega, by omega⟩ rfl rfl ?_
        refine ev_goto 54 2 dX3_placeFor_54 rfl ?_
        exact ih _ (by omega) (by omega) (fun y z1 z2 => by
          rcases Int.lt_or_le y x with z | z
          · exact g1 y z1 z
          · obtain rfl : y = x := by omega
            exact g2)
      refine ev_iload_2 2 dX3_placeFor_2 ?_
      refine ev_aload_0 3 dX3_placeFor_3 ?_
      refine ev_getA 4 0 dX3_placeFor_4 fa_X3_34 (kd_109 hZ) (pr_109_0 hP) rfl ?_
      refine ev_getA 7 0 dX3_placeFor_7 fa_X3_42 (kd_4 hZ) hT0 rfl ?_
      refine ev_gI 10 0 0 dX3_placeFor_10 fa_X3_94 (kdT_0 hZ hT) rfl rfl rfl ?_
      try simp only [a0, a4]
      refine ev_icmp_ge 13 57 dX3_placeFor_13 rfl (fun h13 => ?_) (fun h13 => ?_)
      · exfalso; omega
      · refine ev_aload_0 16 dX3_placeFor_16 ?_
        refine ev_iload_1 17 dX3_placeFor_17 ?_
        refine ev_iload_2 18 dX3_placeFor_18 ?_
        refine ev_cVp_2 19 dX3_placeFor_19 kmX3_isFree lk_X3_97 (kd_109 hZ) (c_iF hsn hS hWS hM (by omega) (by omega)) rfl rfl ?_
        try simp only [a0, a4]
        refine ev_ifb_eq 22 51 dX3_placeFor_22 rfl (fun h22 => ?_) (fun h22 => ?_)
        · exact n51 (fun z => by first | exact absurd z.1 (by assumption) | exact absurd z.2 (by assumption))
        · refine ev_aload_0 25 dX3_placeFor_25 ?_
          refine ev_iload_1 26 dX3_placeFor_26 ?_
          refine ev_aload_0 27 dX3_placeFor_27 ?_
          refine ev_getA 28 0 dX3_placeFor_28 fa_X3_34 (kd_109 hZ) (pr_109_0 hP) rfl ?_
          refine ev_getA 31 0 dX3_placeFor_31 fa_X3_42 (kd_4 hZ) hT0 rfl ?_
          refine ev_getA 34 6 dX3_placeFor_34 fa_X3_101 (kdT_0 hZ hT) (prT_6 hP hT) rfl ?_
          refine ev_iload_1 37 dX3_placeFor_37 ?_
          refine ev_iald 38 dX3_placeFor_38 (kdT_4 hZ hT) ⟨by omega, by have := (lnT_4 hZ hT); omega⟩ ?_
          try simp only [a0, a4]
          refine ev_iload_2 39 dX3_placeFor_39 ?_
          refine ev_cSp_2 40 dX3_placeFor_40 kmX11_spotOf lk_X3_104 (c_spotOf _ _ (by omega)) rfl rfl ?_
          try simp only [a0, a4]
          refine ev_cVp_2 43 dX3_placeFor_43 kmX3_allHearAt lk_X3_111 (kd_109 hZ) (c_aHA hsn hS hWS hM hb _ (by omega)) rfl rfl ?_
          try simp only [a0, a4]
          refine ev_ifb_eq 46 51 dX3_placeFor_46 rfl (fun h46 => ?_) (fun h46 => ?_)
          · exact n51 (fun z => by first | exact absurd z.1 (by assumption) | exact absurd z.2 (by assumption))
          · refine ev_iload_2 49 dX3_placeFor_49 ?_
            refine ev_iret 50 dX3_placeFor_50 ?_ rfl
            exact QB_of (Or.inr ⟨h0, by omega, ⟨by assumption, by assumption⟩, g1⟩)
  refine ev_iconst 0 dX3_placeFor_0 ⟨by decide, by decide⟩ ?_
  refine ev_istore_2 1 dX3_placeFor_1 rfl rfl ?_
  exact loop (α 0 0).toNat 0 (by omega) (by omega) (fun y z1 z2 => by omega)
theorem c_sA {l : Launch} {g : Gt} {d : Nat} {Z : Zt} {I : It} {P : Pt'} {T : Nat} {α σ : Nat → Int → Int} {h : Int → Int} (hsn : SN T α Z I P) (hS : VS I σ) (hWS : WS α σ) (hM : HM α h Z I P) {b : Int} (hb : I 109 4 = b) {t : Int} (ht : -1 ≤ t ∧ t ≤ 5) : Mt l g mX3_seekAbove (d + 3) 0 0 [vA 109, vI t] Z I P (QB (LW (HG 1000000 α σ h b (t + 1)) (24 * α 0 5)) Z I P) := by
  have hZ := hsn.1
  have hP := hsn.2.1
  have hT0 := hsn.2.2.1
  have hT := hsn.2.2.2.1
  have hW := hsn.2.2.2.2.2.1
  have w0 := hW.1
  have w1 := hW.2.1
  have w5 := hW.2.2.1
  have a0 : I T 0 = α 0 0 := hsn.2.2.2.2.1.at 0
  have a1 : I T 1 = α 0 1 := hsn.2.2.2.2.1.at 1
  have a5 : I T 5 = α 0 5 := hsn.2.2.2.2.1.at 5
  have a4 : I (T + 4) = α 4 := hsn.2.2.2.2.1 4 (by omega)
  have s1 : I 19 = σ 1 := hS 1 (by omega)
  have s2 : I 20 = σ 2 := hS 2 (by omega)
  refine Mt.of kmX3_seekAbove (ls := [vA 109, vI t, vX, vX]) (fun _ => rfl) (fun _ => rfl) (okf_k (okf_k (okf_n rfl))) (fun hok => ?_)
  have loop : ∀ (k : Nat) (u : Int) (vx : Vv), t + 1 ≤ u → (u + k = α 0 5 ∨ (k = 0 ∧ α 0 5 ≤ u)) → (∀ v, 0 ≤ v → v < 24 * u → ¬ HG 1000000 α σ h b (t + 1) v) → Ev l g mX3_seekAbove (d + 3) 0 0 Z I P 4 [vA 109, vI t, vI u, vx] [] (QB (LW (HG 1000000 α σ h b (t + 1)) (24 * α 0 5)) Z I P) := by
    intro k
    induction k with
    | zero =>
      intro u vx h0 h1 g1
      refine ev_iload_2 4 dX3_seekAbove_4 ?_
      refine ev_aload_0 5 dX3_seekAbove_5 ?_
      refine ev_getA 6 0 dX3_seekAbove_6 fa_X3_34 (kd_109 hZ) (pr_109_0 hP) rfl ?_
      refine ev_getA 9 0 dX3_seekAbove_9 fa_X3_42 (kd_4 hZ) hT0 rfl ?_
      refine ev_gI 12 5 5 dX3_seekAbove_12 fa_X3_48 (kdT_0 hZ hT) rfl rfl rfl ?_
      try simp only [a5, s2]
      refine ev_icmp_ge 15 69 dX3_seekAbove_15 rfl (fun h15 => ?_) (fun h15 => ?_)
      · refine ev_bipush 69 dX3_seekAbove_69 ⟨by decide, by decide⟩ ?_
        refine ev_iret 71 dX3_seekAbove_71 ?_ rfl
        exact QB_of (Or.inl ⟨rfl, fun v z1 z2 => g1 v z1 (by omega)⟩)
      · exfalso; omega
    | succ k ih =>
      intro u vx h0 h1 g1
      have n63 : ∀ vx, (∀ v, 24 * u ≤ v → v < 24 * u + 24 → ¬ HG 1000000 α σ h b (t + 1) v) → Ev l g mX3_seekAbove (d + 3) 0 0 Z I P 63 [vA 109, vI t, vI u, vx] [] (QB (LW (HG 1000000 α σ h b (t + 1)) (24 * α 0 5)) Z I P) := by
        intro vx g2
        refine ev_iinc_2 63 dX3_seekAbove_63 ⟨by omega, by omega⟩ rfl rfl ?_
        refine ev_goto 66 4 dX3_seekAbove_66 rfl ?_
        exact ih _ _ (by omega) (by omega) (fun v z1 z2 => by
          rcases Int.lt_or_le v (24 * u) with z | z
          · exact g1 v z1 z
          · exact g2 v z (by omega))
      refine ev_iload_2 4 dX3_seekAbove_4 ?_
      refine ev_aload_0 5 dX3_seekAbove_5 ?_
      refine ev_getA 6 0 dX3_seekAbove_6 fa_X3_34 (kd_109 hZ) (pr_109_0 hP) rfl ?_
      refine ev_getA 9 0 dX3_seekAbove_9 fa_X3_42 (kd_4 hZ) hT0 rfl ?_
      refine ev_gI 12 5 5 dX3_seekAbove_12 fa_X3_48 (kdT_0 hZ hT) rfl rfl rfl ?_
      try simp only [a5, s2]
      refine ev_icmp_ge 15 69 dX3_seekAbove_15 rfl (fun h15 => ?_) (fun h15 => ?_)
      · exfalso; omega
      · refine ev_aload_0 18 dX3_seekAbove_18 ?_
        refine ev_getA 19 0 dX3_seekAbove_19 fa_X3_34 (kd_109 hZ) (pr_109_0 hP) rfl ?_
        refine ev_getA 22 1 dX3_seekAbove_22 fa_X3_81 (kd_4 hZ) (pr_4_1 hP) rfl ?_
        refine ev_getA 25 3 dX3_seekAbove_25 fa_X3_85 (kd_18 hZ) (pr_18_3 hP) rfl ?_
        refine ev_iload_2 28 dX3_seekAbove_28 ?_
        refine ev_zald 29 dX3_seekAbove_29 (kd_20 hZ) ⟨by omega, by have := (ln_20 hZ); omega⟩ ?_
        try simp only [a5, s2]
        refine ev_zne 30 63 dX3_seekAbove_30 rfl (fun h30 => ?_) (fun h30 => ?_)
        · exact n63 _ (fun v z1 z2 z3 => by
            have e : v / 24 = u := by omega
            obtain ⟨y1, y2, y3, y4, y5⟩ := z3
            rw [e] at y3 y4 y5
            exact absurd y3 (by assumption))
        · refine ev_aload_0 33 dX3_seekAbove_33 ?_
          refine ev_iload_2 34 dX3_seekAbove_34 ?_
          refine ev_cVp_1 35 dX3_seekAbove_35 kmX3_allHear lk_X3_61 (kd_109 hZ) (c_aH hsn hS hWS hM hb _) rfl rfl ?_
          try simp only [a5, s2]
          refine ev_ifb_ne 38 44 dX3_seekAbove_38 rfl (fun h38 => ?_) (fun h38 => ?_)
          · refine ev_aload_0 44 dX3_seekAbove_44 ?_
            refine ev_iload_2 45 dX3_seekAbove_45 ?_
            refine ev_cVb_1 46 dX3_seekAbove_46 kmX3_placeFor lk_X3_108 (kd_109 hZ) (c_pF hsn hS hWS hM hb (by omega)) rfl rfl (fun x46 f46 => ?_)
            try simp only [a5, s2]
            refine ev_istore_3 49 dX3_seekAbove_49 rfl rfl ?_
            refine ev_iload_3 50 dX3_seekAbove_50 ?_
            refine ev_bipush 51 dX3_seekAbove_51 ⟨by decide, by decide⟩ ?_
            refine ev_icmp_eq 53 63 dX3_seekAbove_53 rfl (fun h53 => ?_) (fun h53 => ?_)
            · rcases f46 with ⟨q1, q2⟩ | ⟨q1, q2, q3, q4⟩
              · exact n63 _ (fun v z1 z2 z3 => by
                  have e : v / 24 = u := by omega
                  obtain ⟨y1, y2, y3, y4, y5⟩ := z3
                  rw [e] at y3 y4 y5
                  exact q2 (v % 24) (by omega) (by omega) ⟨y4, ((al_up hW (by omega) y3).mp y5).2⟩)
              · exfalso; omega
            · have hx46 : 0 ≤ x46 ∧ x46 < α 0 0 := by rcases f46 with ⟨q1, _⟩ | ⟨q1, q2, _⟩; exact absurd q1 h53; exact ⟨q1, q2⟩
              refine ev_bipush 56 dX3_seekAbove_56 ⟨by decide, by decide⟩ ?_
              refine ev_iload_2 58 dX3_seekAbove_58 ?_
              refine ev_imul 59 dX3_seekAbove_59 ⟨by omega, by omega⟩ ?_
              refine ev_iload_3 60 dX3_seekAbove_60 ?_
              refine ev_iadd 61 dX3_seekAbove_61 ⟨by omega, by omega⟩ ?_
              refine ev_iret 62 dX3_seekAbove_62 ?_ rfl
              rcases f46 with ⟨q1, q2⟩ | ⟨q1, q2, q3, q4⟩
              · exact absurd q1 h53
              refine QB_of (Or.inr ⟨by omega, by omega, ⟨by omega, by omega, ?_, ?_, ?_⟩, fun v z1 z2 z3 => ?_⟩)
              · rw [show (24 * u + x46) / 24 = u by omega]; assumption
              · rw [show (24 * u + x46) / 24 = u by omega, show (24 * u + x46) % 24 = x46 by omega]; exact q3.1
              · rw [show (24 * u + x46) / 24 = u by omega, show (24 * u + x46) % 24 = x46 by omega]; exact (al_up hW (by omega) (by assumption)).mpr ⟨h38, q3.2⟩
              · rcases Int.lt_or_le v (24 * u) with z | z
                · exact g1 v z1 z z3
                · obtain ⟨y1, y2, y3, y4, y5⟩ := z3
                  have e : v / 24 = u := by omega
                  rw [e] at y3 y4 y5
                  exact q4 (v % 24) (by omega) (by omega) ⟨y4, ((al_up hW (by omega) y3).mp y5).2⟩
          · refine ev_goto 41 63 dX3_seekAbove_41 rfl ?_
            exact n63 _ (fun v z1 z2 z3 => by
              have e : v / 24 = u := by omega
              obtain ⟨y1, y2, y3, y4, y5⟩ := z3
              rw [e] at y3 y4 y5
              exact absurd ((al_up hW (by omega) y3).mp y5).1 (by assumption))
  refine ev_iload_1 0 dX3_seekAbove_0 ?_
  refine ev_iconst 1 dX3_seekAbove_1 ⟨by decide, by decide⟩ ?_
  refine ev_iadd 2 dX3_seekAbove_2 ⟨by omega, by omega⟩ ?_
  refine ev_istore_2 3 dX3_seekAbove_3 rfl rfl ?_
  exact loop (α 0 5 - (t + 1)).toNat _ _ (by omega) (by omega) (fun v z1 z2 z3 => by have := z3.1; omega)
