/-! the law: its loop, and its start -/
theorem nwZ_s1 {Z : Zt} {k : Nat} {n : Int} {a : Nat} (h : a = Z.2.2) : (nwZ Z k n).1 a = k := by subst h; show (if _ = _ then _ else _) = _; rw [if_pos rfl]
theorem nwZ_s2 {Z : Zt} {k : Nat} {n : Int} {a : Nat} (h : a = Z.2.2) : (nwZ Z k n).2.1 a = n := by subst h; show (if _ = _ then _ else _) = _; rw [if_pos rfl]
theorem nwZ_o1 {Z : Zt} {k : Nat} {n : Int} {a : Nat} (h : a ≠ Z.2.2) : (nwZ Z k n).1 a = Z.1 a := by show (if _ = _ then _ else _) = _; rw [if_neg h]
theorem nwZ_o2 {Z : Zt} {k : Nat} {n : Int} {a : Nat} (h : a ≠ Z.2.2) : (nwZ Z k n).2.1 a = Z.2.1 a := by show (if _ = _ then _ else _) = _; rw [if_neg h]
theorem nwZ_n (Z : Zt) (k : Nat) (n : Int) : (nwZ Z k n).2.2 = Z.2.2 + 1 := rfl
theorem nwZ_TZ (Z : Zt) (k : Nat) (n : Int) : TZ (nwZ Z k n) = TZ Z + csz k n := TZ_nw Z k n
def QO : Qt := fun r _ _ _ => r = some (vI 1)
section LAW
variable {l : Launch} {g : Gt} {mm : Mm} {d bc bs : Nat} {Z : Zt} {I : It} {P : Pt'} {ls st : List Vv} {Q : Qt}
theorem ev_iand63 (pc : Nat) {x : Int} (hd : decode mm.2.1 pc = .ok (.iand, 1)) (kk : ∀ j : Nat, j < 64 → Ev l g mm d bc bs Z I P (pc + 1) ls (vI (j : Int) :: st) Q) : Ev l g mm d bc bs Z I P pc ls (vI 63 :: vI x :: st) Q := by
  intro p e R s m args below meth c H locs cells slots lj hF hD hc hs
  obtain ⟨j, hj, e'⟩ := pk_andE (Int32.ofInt x) (m := Int32.ofInt 63) 6 (by decide)
  have hj' : j < 64 := hj
  have k1 := kk j hj' p e R s m args below meth c H locs cells slots lj hF ⟨hD.1, hD.2.1, hD.2.2.1, hD.2.2.2.1, ok_cI ⟨by omega, by omega⟩ (ok_t (ok_t hD.2.2.2.2))⟩ hc hs
  refine lv_iand hF.1 hF.2.1 hd ?_
  rw [e']; exact k1
theorem ev_fresh {pc : Nat} (kk : (∀ a, Z.2.2 ≤ a → ∀ i, I a i = 0) → Ev l g mm d bc bs Z I P pc ls st Q) : Ev l g mm d bc bs Z I P pc ls st Q :=
  fun p e R s m args below meth c H locs cells slots lj hF hD hc hs => kk (fun a ha i => ((hD.1.2.2.2.1 a ha).2 i).1) p e R s m args below meth c H locs cells slots lj hF hD hc hs
end LAW
theorem law_go {l : Launch} {g : Gt} {L : Int} {X : Int → Int} (hX : SCR g L X) {i : Int} (h0 : 0 ≤ i) (hk : NXT l g QO i) {T D : Nat} {α σ : Nat → Int → Int} {U V : Int → Nat → Int → Int} {Z : Zt} {I : It} {P : Pt'} (h : Bo T D α σ U V Z I P) : Ev l g mL 9 (2 * nn P) (194 * nn P) Z I P 18 [vS, vA 0, vA 131, vI i] [] QO := by
  have hL := hX.2.1
  by_cases hs : i + 6 ≤ L
  · refine ev_iload_3 18 dL_law_18 ?_
    refine ev_aloadS_0 19 dL_law_19 ?_
    refine ev_slen 20 hX dL_law_20 ?_
    refine ev_bipush 21 dL_law_21 ⟨by decide, by decide⟩ ?_
    refine ev_isub 23 dL_law_23 ⟨by omega, by omega⟩ ?_
    refine ev_icmp_gt 24 1163 dL_law_24 rfl (fun h24 => ?_) (fun h24 => ?_)
    · exfalso; omega
    refine ev_aloadS_0 27 dL_law_27 ?_
    refine ev_iload_3 28 dL_law_28 ?_
    refine ev_sald 29 hX dL_law_29 ⟨by omega, by omega⟩ ?_
    refine ev_bipush 30 dL_law_30 ⟨by decide, by decide⟩ ?_
    refine ev_iand63 32 dL_law_32 (fun j hj => ?_)
    refine ev_tsw 33 1157 dL_law_33 rfl (fun h33 => ?_) (fun c33 hc33 h1 h2 => ?_)
    · exact hk _ _ _ _ _ _ _ _ _ h
    · rcases (show c33 = 0 ∨ c33 = 1 ∨ c33 = 2 ∨ c33 = 3 ∨ c33 = 4 ∨ c33 = 5 ∨ c33 = 6 ∨ c33 = 7 ∨ c33 = 8 ∨ c33 = 9 ∨ c33 = 10 ∨ c33 = 11 ∨ c33 = 12 ∨ c33 = 13 ∨ c33 = 14 ∨ c33 = 15 ∨ c33 = 16 ∨ c33 = 17 ∨ c33 = 18 ∨ c33 = 19 ∨ c33 = 20 ∨ c33 = 21 ∨ c33 = 22 ∨ c33 = 23 ∨ c33 = 24 ∨ c33 = 25 ∨ c33 = 26 ∨ c33 = 27 ∨ c33 = 28 ∨ c33 = 29 ∨ c33 = 30 ∨ c33 = 31 ∨ c33 = 32 ∨ c33 = 33 by omega) with rfl | rfl | rfl | rfl | rfl | rfl | rfl | rfl | rfl | rfl | rfl | rfl | rfl | rfl | rfl | rfl | rfl | rfl | rfl | rfl | rfl | rfl | rfl | rfl | rfl | rfl | rfl | rfl | rfl | rfl | rfl | rfl | rfl | rfl
      · refine ev_tswIn 33 184 dL_law_33 (by decide) (by decide) rfl rfl ?_
        exact b_write hX ⟨h0, by omega⟩ h hk
      · refine ev_tswIn 33 207 dL_law_33 (by decide) (by decide) rfl rfl ?_
        exact b_wipe hX ⟨h0, by omega⟩ h hk
      · refine ev_tswIn 33 220 dL_law_33 (by decide) (by decide) rfl rfl ?_
        exact b_fault hX ⟨h0, by omega⟩ h hk
      · refine ev_tswIn 33 233 dL_law_33 (by decide) (by decide) rfl rfl ?_
        exact b_lay hX ⟨h0, by omega⟩ h hk
      · refine ev_tswIn 33 246 dL_law_33 (by decide) (by decide) rfl rfl ?_
        exact b_level hX ⟨h0, by omega⟩ h hk
      · refine ev_tswIn 33 279 dL_law_33 (by decide) (by decide) rfl rfl ?_
        exact b_town hX ⟨h0, by omega⟩ h hk
      · refine ev_tswIn 33 312 dL_law_33 (by decide) (by decide) rfl rfl ?_
        exact b_thing hX ⟨h0, by omega⟩ h hk
      · refine ev_tswIn 33 345 dL_law_33 (by decide) (by decide) rfl rfl ?_
        exact b_steps hX ⟨h0, by omega⟩ h hk
      · refine ev_tswIn 33 368 dL_law_33 (by decide) (by decide) rfl rfl ?_
        exact b_letGo hX ⟨h0, by omega⟩ h hk
      · refine ev_tswIn 33 401 dL_law_33 (by decide) (by decide) rfl rfl ?_
        exact b_hang hX ⟨h0, by omega⟩ h hk
      · refine ev_tswIn 33 434 dL_law_33 (by decide) (by decide) rfl rfl ?_
        exact b_cut hX ⟨h0, by omega⟩ h hk
      · refine ev_tswIn 33 457 dL_law_33 (by decide) (by decide) rfl rfl ?_
        exact b_undo hX ⟨h0, by omega⟩ h hk
      · refine ev_tswIn 33 470 dL_law_33 (by decide) (by decide) rfl rfl ?_
        exact b_behind hX ⟨h0, by omega⟩ h hk
      · refine ev_tswIn 33 513 dL_law_33 (by decide) (by decide) rfl rfl ?_
        exact b_meet hX ⟨h0, by omega⟩ h hk
      · refine ev_tswIn 33 546 dL_law_33 (by decide) (by decide) rfl rfl ?_
        exact b_round hX ⟨h0, by omega⟩ h hk
      · refine ev_tswIn 33 569 dL_law_33 (by decide) (by decide) rfl rfl ?_
        exact b_time hX ⟨h0, by omega⟩ h hk
      · refine ev_tswIn 33 622 dL_law_33 (by decide) (by decide) rfl rfl ?_
        exact b_hears hX ⟨h0, by omega⟩ h hk
      · refine ev_tswIn 33 655 dL_law_33 (by decide) (by decide) rfl rfl ?_
        exact b_shadow hX ⟨h0, by omega⟩ h hk
      · refine ev_tswIn 33 678 dL_law_33 (by decide) (by decide) rfl rfl ?_
        exact b_heard hX ⟨h0, by omega⟩ h hk
      · refine ev_tswIn 33 711 dL_law_33 (by decide) (by decide) rfl rfl ?_
        exact b_hush hX ⟨h0, by omega⟩ h hk
      · refine ev_tswIn 33 724 dL_law_33 (by decide) (by decide) rfl rfl ?_
        exact b_whence hX ⟨h0, by omega⟩ h hk
      · refine ev_tswIn 33 747 dL_law_33 (by decide) (by decide) rfl rfl ?_
        exact b_moved hX ⟨h0, by omega⟩ h hk
      · refine ev_tswIn 33 780 dL_law_33 (by decide) (by decide) rfl rfl ?_
        exact b_sent hX ⟨h0, by omega⟩ h hk
      · refine ev_tswIn 33 823 dL_law_33 (by decide) (by decide) rfl rfl ?_
        exact b_fall hX ⟨h0, by omega⟩ h hk
      · refine ev_tswIn 33 856 dL_law_33 (by decide) (by decide) rfl rfl ?_
        exact b_clear hX ⟨h0, by omega⟩ h hk
      · refine ev_tswIn 33 889 dL_law_33 (by decide) (by decide) rfl rfl ?_
        exact b_gain hX ⟨h0, by omega⟩ h hk
      · refine ev_tswIn 33 912 dL_law_33 (by decide) (by decide) rfl rfl ?_
        exact b_drifted hX ⟨h0, by omega⟩ h hk
      · refine ev_tswIn 33 965 dL_law_33 (by decide) (by decide) rfl rfl ?_
        exact b_forget hX ⟨h0, by omega⟩ h hk
      · refine ev_tswIn 33 978 dL_law_33 (by decide) (by decide) rfl rfl ?_
        exact b_currents hX ⟨h0, by omega⟩ h hk
      · refine ev_tswIn 33 1001 dL_law_33 (by decide) (by decide) rfl rfl ?_
        exact b_leak hX ⟨h0, by omega⟩ h hk
      · refine ev_tswIn 33 1065 dL_law_33 (by decide) (by decide) rfl rfl ?_
        exact b_year hX ⟨h0, by omega⟩ h hk
      · refine ev_tswIn 33 1108 dL_law_33 (by decide) (by decide) rfl rfl ?_
        exact b_keep hX ⟨h0, by omega⟩ h hk
      · refine ev_tswIn 33 1121 dL_law_33 (by decide) (by decide) rfl rfl ?_
        exact b_back hX ⟨h0, by omega⟩ h hk
      · refine ev_tswIn 33 1134 dL_law_33 (by decide) (by decide) rfl rfl ?_
        exact b_count hX ⟨h0, by omega⟩ h hk
  · refine ev_iload_3 18 dL_law_18 ?_
    refine ev_aloadS_0 19 dL_law_19 ?_
    refine ev_slen 20 hX dL_law_20 ?_
    refine ev_bipush 21 dL_law_21 ⟨by decide, by decide⟩ ?_
    refine ev_isub 23 dL_law_23 ⟨by omega, by omega⟩ ?_
    refine ev_icmp_gt 24 1163 dL_law_24 rfl (fun h24 => ?_) (fun h24 => ?_)
    · refine ev_iconst 1163 dL_law_1163 ⟨by decide, by decide⟩ ?_
      exact ev_zret 1164 dL_law_1164 (by omega) rfl rfl
    · exfalso; omega
theorem law_loop {l : Launch} {g : Gt} {L : Int} {X : Int → Int} (hX : SCR g L X) : ∀ (n : Nat) (i : Int), 0 ≤ i → i ≤ 1000 → L < i + 6 * n → ∀ (T D : Nat) (α σ : Nat → Int → Int) (U V : Int → Nat → Int → Int) (Z : Zt) (I : It) (P : Pt'), Bo T D α σ U V Z I P → Ev l g mL 9 (2 * nn P) (194 * nn P) Z I P 18 [vS, vA 0, vA 131, vI i] [] QO := by
  have hL := hX.2.1
  intro n
  induction n with
  | zero =>
    intro i h0 h3 h1 T D α σ U V Z I P h
    refine ev_iload_3 18 dL_law_18 ?_
    refine ev_aloadS_0 19 dL_law_19 ?_
    refine ev_slen 20 hX dL_law_20 ?_
    refine ev_bipush 21 dL_law_21 ⟨by decide, by decide⟩ ?_
    refine ev_isub 23 dL_law_23 ⟨by omega, by omega⟩ ?_
    refine ev_icmp_gt 24 1163 dL_law_24 rfl (fun h24 => ?_) (fun h24 => ?_)
    · refine ev_iconst 1163 dL_law_1163 ⟨by decide, by decide⟩ ?_
      exact ev_zret 1164 dL_law_1164 (by omega) rfl rfl
    · exfalso; omega
  | succ n ih =>
    intro i h0 h3 h1 T D α σ U V Z I P h
    by_cases hs : i + 6 ≤ L
    · refine law_go hX h0 (fun T D α σ U V Z I P h => ?_) h
      refine ev_iinc_3 1157 dL_law_1157 ⟨by omega, by omega⟩ rfl rfl ?_
      refine ev_goto 1160 18 dL_law_1160 rfl ?_
      exact ih (i + 6) (by omega) (by omega) (by omega) _ _ _ _ _ _ _ _ _ h
    · refine ev_iload_3 18 dL_law_18 ?_
      refine ev_aloadS_0 19 dL_law_19 ?_
      refine ev_slen 20 hX dL_law_20 ?_
      refine ev_bipush 21 dL_law_21 ⟨by decide, by decide⟩ ?_
      refine ev_isub 23 dL_law_23 ⟨by omega, by omega⟩ ?_
      refine ev_icmp_gt 24 1163 dL_law_24 rfl (fun h24 => ?_) (fun h24 => ?_)
      · refine ev_iconst 1163 dL_law_1163 ⟨by decide, by decide⟩ ?_
        exact ev_zret 1164 dL_law_1164 (by omega) rfl rfl
      · exfalso; omega
theorem nn_le (P : Pt') : nn P ≤ 192 := by
  have := cnt_r (fun j => P 102 j = none) 192
  unfold nn; omega
theorem law_start {l : Launch} {g : Gt} {L : Int} {X : Int → Int} (hX : SCR g L X) : Ev l g mL 9 529 76694 Z0 (fun _ _ => 0) Pn 0 [vS, vX, vX, vX] [] QO := by
  have hL := hX.2.1
  refine Ev.mono (bc' := 528 + 1) (bs' := 76682 + 12) (by omega) (by omega) ?_
  refine ev_new 0 dL_law_0 ck_11 cl_L_7 in_11 ii_11 (bc := 528) (bs := 76682) ?_
  change Ev l g _ _ _ _ (nwL Z0 [(11, 0)]) _ _ _ _ (vA 0 :: []) _
  refine ev_dupA 3 dL_law_3 ?_
  refine Ev.mono (bc' := 398 + 130) (bs' := 75066 + 1616) (by omega) (by omega) ?_
  refine ev_cIw_0 4 dL_law_4 kmX11_init lk_L_9 (c_X11_init (d := 2)) rfl rfl (fun Z4 I4 P4 f4 _ _ => ?_)
  obtain ⟨rfl, rfl, α, hα, hsn, hld, hn⟩ := f4
  have zz : (nwL Z0 Lc).2.2 = 131 := by rw [nwL_n]; decide +kernel
  have tz : TZ (nwL Z0 Lc) = 1628 := by rw [nwL_TZ]; decide +kernel
  have tz0 : TZ (nwL Z0 [(11, 0)]) = 12 := by rw [nwL_TZ]; decide +kernel
  have zz0 : (nwL Z0 [(11, 0)]).2.2 = 1 := by rw [nwL_n]; rfl
  refine Ev.mono (bc' := 398) (bs' := 75066) (by rw [zz, zz0]; omega) (by rw [tz, tz0]; omega) ?_
  refine ev_astore_1 7 dL_law_7 rfl rfl ?_
  refine ev_fresh (fun hfr => ?_)
  refine Ev.mono (bc' := 397 + 1) (bs' := 75043 + 23) (by omega) (by omega) ?_
  refine ev_new 8 dL_law_8 ck_12 cl_L_10 in_12 ii_12 (bc := 397) (bs := 75043) ?_
  have hk : (nwZ (nwL Z0 Lc) 12 0).1 131 = 12 := nwZ_s1 zz.symm
  have hl : (nwZ (nwL Z0 Lc) 12 0).2.1 131 = 0 := nwZ_s2 zz.symm
  have hn2 : (nwZ (nwL Z0 Lc) 12 0).2.2 = 132 := by rw [nwZ_n, zz]
  have hC : LayC (nwZ (nwL Z0 Lc) 12 0) := fun a ha => by
    rw [nwZ_o1 (by omega), nwZ_o2 (by omega)]; exact hsn.1 a ha
  have tz1 : TZ (nwZ (nwL Z0 Lc) 12 0) = 1651 := by rw [nwZ_TZ, tz]; rfl
  rw [zz]
  generalize hZ1 : nwZ (nwL Z0 Lc) 12 0 = Z1 at hk hl hn2 hC tz1 ⊢
  refine ev_dupA 11 dL_law_11 ?_
  refine Ev.mono (bc' := 384 + 13) (bs' := 37248 + 37795) (by omega) (by omega) ?_
  refine ev_cIw_0 12 dL_law_12 kmX12_init lk_L_12 (c_X12_init (d := 7) hα hk hl hn2 (hfr 131 (by rw [zz]; omega) 0)) rfl rfl (fun Z12 I12 P12' f12 _ _ => ?_)
  obtain ⟨rfl, rfl, v1, v2, v3, v4, v5⟩ := f12
  have zz2 : (nwL Z1 L12).2.2 = 145 := by rw [nwL_n, hn2]; rfl
  have tz2 : TZ (nwL Z1 L12) = 39446 := by rw [nwL_TZ, tz1]; decide +kernel
  refine Ev.mono (bc' := 384) (bs' := 37248) (by rw [zz2, hn2]; omega) (by rw [tz2, tz1]; omega) ?_
  have q : ∀ a, a < 131 → I12 a = I4 a := fun a z => v5 a (Or.inl z)
  have hP : ∀ a, a ≠ 131 → a ≠ 4 → a ≠ 0 → P12 (upP (upP Pc 4 0 (some 118)) 0 11 (some 5)) a = Pc a := fun a y1 y2 y3 => by rw [P12_o y1, upP_A y3, upP_A y2]
  have hP102 : ∀ j, 0 ≤ j → j < 192 → P12 (upP (upP Pc 4 0 (some 118)) 0 11 (some 5)) 102 j = none := fun j a b => by rw [hP 102 (by omega) (by omega) (by omega)]; exact Pc_102 j a b
  have hld1 : LD1 α I12 := by
    unfold LD1
    rw [q 18 (by omega), q 19 (by omega), q 20 (by omega), q 21 (by omega), q 22 (by omega), q 23 (by omega), q 24 (by omega), q 106 (by omega), q 112 (by omega), q 25 (by omega), q 83 (by omega)]
    exact hld
  have i13 : I12 1 3 = 0 := by rw [q 1 (by omega)]; exact hn
  have hsn1 : SN 118 α (nwL Z1 L12) I12 (P12 (upP (upP Pc 4 0 (some 118)) 0 11 (some 5))) := by
    obtain ⟨s1, s2, s3, s4, s5, s6, s7, s8, s9⟩ := hsn
    refine ⟨L12_C hn2 hC, fun x hx => ?_, ?_, s4, fun c hc => by rw [q (118 + c) (by omega)]; exact s5 c hc, s6, ⟨by omega, fun j R a b c => by rw [hP102 j a b] at c; cases c⟩, fun j R a b c => (by rw [hP102 j a b] at c; cases c), ⟨fun v a b => by rw [q 104 (by omega)]; exact s9.1 v a b, fun v hv => by rw [q 105 (by omega)]; exact s9.2 v hv⟩⟩
    · rw [P12_o (by have := rfC_lt x hx; omega)]; exact s2 x hx
    · rw [P12_o (by omega)]; exact s3
  have hB : Bo 118 5 α (vw 18 I12) (fun _ _ _ => 0) (fun _ _ _ => 0) (nwL Z1 L12) I12 (P12 (upP (upP Pc 4 0 (some 118)) 0 11 (some 5))) := by
    refine ⟨hsn1, by rw [P12_o (by omega), upP_s], Or.inl rfl, by omega, L12_M hk hl hn2, P12_Q _, RB.new hsn1.2.2.2.2.2.1 hα.hold hld1 v1 v2 v3 ⟨by rw [v4, i13], by rw [i13]; omega, by rw [i13]; exact fun p a b => by omega, fun i a b => by rw [i13] at b; omega⟩⟩
  have hnn := nn_le (P12 (upP (upP Pc 4 0 (some 118)) 0 11 (some 5)))
  refine ev_astore_2 15 dL_law_15 rfl rfl ?_
  refine ev_iconst 16 dL_law_16 ⟨by decide, by decide⟩ ?_
  refine ev_istore_3 17 dL_law_17 rfl rfl ?_
  exact Ev.mono (by omega) (by omega) (law_loop hX 65 0 (by omega) (by omega) (by omega) _ _ _ _ _ _ _ _ _ hB)
