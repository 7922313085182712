/-! small methods of the class under proof -/
theorem ev_tsw {l : Launch} {g : Gt} {mm : Mm} {d bc bs : Nat} {Z : Zt} {I : It} {P : Pt'} {ls st : List Vv} {Q : Qt} (pc : Nat) {x dflt lo hi : Int} {offs : Array Int} {len : Nat} (tgt : Nat) (hd : decode mm.2.1 pc = .ok (.tableswitch dflt lo hi offs, len)) (ht : (pc : Int) + dflt = (tgt : Int)) (k : (x < lo ∨ hi < x) → Ev l g mm d bc bs Z I P tgt ls st Q)
    (kin : ∀ c, x = c → lo ≤ c → c ≤ hi → Ev l g mm d bc bs Z I P pc ls (vI c :: st) Q) : Ev l g mm d bc bs Z I P pc ls (vI x :: st) Q := by
  by_cases h : x < lo ∨ hi < x
  · exact ev_tswOut pc tgt hd h ht (k h)
  · exact kin x rfl (by omega) (by omega)
theorem fm_pos {x y : Int} (hy : 0 < y) (h : 0 ≤ x.tmod y) : x.tmod y = x % y := by
  have e := Int.mul_tdiv_add_tmod x y
  have b := tmod_bounds (a := x) hy
  exact ((Int.ediv_emod_unique hy (q := x.tdiv y) (r := x.tmod y)).mpr ⟨by omega, h, b.2⟩).2.symm
theorem fm_neg {x y : Int} (hy : 0 < y) (h : x.tmod y < 0) : x.tmod y + y = x % y := by
  have e := Int.mul_tdiv_add_tmod x y
  have b := tmod_bounds (a := x) hy
  exact ((Int.ediv_emod_unique hy (q := x.tdiv y - 1) (r := x.tmod y + y)).mpr ⟨by rw [Int.mul_sub]; omega, by omega, by omega⟩).2.symm
theorem tm_nn {x y : Int} (h : 0 ≤ x) : 0 ≤ x.tmod y := Int.tmod_nonneg y h
theorem tm_np {x y : Int} (h : x < 0) : x.tmod y ≤ 0 := by
  have := Int.tmod_nonneg y (show 0 ≤ -x by omega)
  rw [Int.neg_tmod] at this
  omega
theorem emod_r {x y : Int} (hy : 0 < y) : 0 ≤ x % y ∧ x % y < y := ⟨Int.emod_nonneg _ (by omega), Int.emod_lt_of_pos _ hy⟩
section WRP
variable {l : Launch} {g : Gt} {mm : Mm} {d bc bs : Nat} {Z : Zt} {I : It} {P : Pt'} {ls st : List Vv} {Q : Qt}
theorem ev_gI (pc : Nat) {a ix ci : Nat} (k : Nat) (ki : Int) (hd : decode mm.2.1 pc = .ok (.getfield ix, 3)) (hf : FA mm.1.cls ix ci k) (ha : Z.1 a = ci) (hk : (k : Int) = ki) (hv : isR ci k = false) (h13 : Nat.ble 13 ci = false)
    (kk : Ev l g mm d bc bs Z I P (pc + 3) ls (vI (I a ki) :: st) Q) : Ev l g mm d bc bs Z I P pc ls (vA a :: st) Q := by
  subst hk; exact ev_getI pc k hd hf ha hv h13 kk
theorem ev_pI (pc : Nat) {a ix ci : Nat} (k : Nat) (ki : Int) {x : Int} (hd : decode mm.2.1 pc = .ok (.putfield ix, 3)) (hf : FPI mm.1.cls ix ci k .int) (ha : Z.1 a = ci) (hk : (k : Int) = ki) (hv : isR ci k = false)
    (kk : Ev l g mm d bc bs Z (upI I a ki x) P (pc + 3) ls st Q) : Ev l g mm d bc bs Z I P pc ls (vI x :: vA a :: st) Q := by
  subst hk; exact ev_putI pc k hd hf ha hv kk
theorem ev_pZ (pc : Nat) {a ix ci : Nat} (k : Nat) (ki : Int) {x : Int} (hd : decode mm.2.1 pc = .ok (.putfield ix, 3)) (hf : FPI mm.1.cls ix ci k .boolean) (ha : Z.1 a = ci) (hx : x = 0 ∨ x = 1) (hk : (k : Int) = ki) (hv : isR ci k = false)
    (kk : Ev l g mm d bc bs Z (upI I a ki x) P (pc + 3) ls st Q) : Ev l g mm d bc bs Z I P pc ls (vI x :: vA a :: st) Q := by
  subst hk; exact ev_putZ pc k hd hf ha hx hv kk
theorem ev_pA (pc : Nat) {a ix ci b : Nat} (k : Nat) (ki : Int) (hd : decode mm.2.1 pc = .ok (.putfield ix, 3)) (hf : FPR mm.1.cls ix ci k) (ha : Z.1 a = ci) (hi : mm.1.name = "<init>" ∨ ¬ mm.1.name = "<init>" ∧ ∃ (C : String) (T : u_T) (N : Nat), vwCl[ci]? = some (C, T, N) ∧ (T k).2.2.2 = false) (hk : (k : Int) = ki) (hv : isR ci k = true)
    (kk : Ev l g mm d bc bs Z I (upP P a ki (some b)) (pc + 3) ls st Q) : Ev l g mm d bc bs Z I P pc ls (vA b :: vA a :: st) Q := by
  subst hk; exact ev_putA pc k hd hf ha hi hv kk
theorem ev_jne (pc : Nat) {x y : Int} {off : Int} (tgt : Nat) (hd : decode mm.2.1 pc = .ok (.if_icmp .ne off, 3)) (ht : (pc : Int) + off = (tgt : Int)) (kt : ¬ x = y → Ev l g mm d bc bs Z I P tgt ls st Q) (kf : x = y → Ev l g mm d bc bs Z I P (pc + 3) ls st Q) : Ev l g mm d bc bs Z I P pc ls (vI y :: vI x :: st) Q :=
  ev_icmp_ne pc tgt hd ht kt (fun h => kf (Classical.not_not.mp h))
theorem ev_zne (pc : Nat) {x : Int} {off : Int} (tgt : Nat) (hd : decode mm.2.1 pc = .ok (.ifCond .ne off, 3)) (ht : (pc : Int) + off = (tgt : Int)) (kt : ¬ x = 0 → Ev l g mm d bc bs Z I P tgt ls st Q) (kf : x = 0 → Ev l g mm d bc bs Z I P (pc + 3) ls st Q) : Ev l g mm d bc bs Z I P pc ls (vI x :: st) Q :=
  ev_if_ne pc tgt hd ht kt (fun h => kf (Classical.not_not.mp h))
theorem ev_zce (pc : Nat) {x y : Int} {off : Int} (tgt : Nat) (hd : decode mm.2.1 pc = .ok (.ifCond .ne off, 3)) (ht : (pc : Int) + off = (tgt : Int)) (kt : ¬ x = y → Ev l g mm d bc bs Z I P tgt ls st Q) (kf : x = y → Ev l g mm d bc bs Z I P (pc + 3) ls st Q) : Ev l g mm d bc bs Z I P pc ls (vI (cmpI x y) :: st) Q :=
  ev_ifc_ne pc tgt hd ht kt (fun h => kf (Classical.not_not.mp h))
end WRP
/-- the town that hangs somewhere, one aside -/
def tAt (tl tx tc : Int → Int) (l x as : Int) : Nat → Int → Int
  | 0, _ => -4
  | n + 1, t => if t ≠ as ∧ tc t = 0 ∧ tl t = l ∧ tx t = x then t else tAt tl tx tc l x as n (t + 1)
theorem c_floorMod {l : Launch} {g : Gt} {d : Nat} {Z : Zt} {I : It} {P : Pt'} (x y : Int) (hy : 0 < y) : Mt l g mJ9_floorMod_7cf53 d 0 0 [vI x, vI y] Z I P (QP (x % y) Z I P) := by
  refine Mt.of kmJ9_floorMod_7cf53 (ls := [vI x, vI y, vX]) (fun _ => rfl) (fun _ => rfl) (okf_k (okf_k (okf_n rfl))) (fun hok => ?_)
  refine ev_rngl (i := 1) rfl (fun hry => ?_)
  have hb := emod_r (x := x) hy
  have hm := tmod_bounds (a := x) hy
  have hr : InR (x.tmod y + y) ∨ 0 ≤ x.tmod y := by
    by_cases h : 0 ≤ x.tmod y
    · exact Or.inr h
    · exact Or.inl ⟨by have := hry.1; omega, by have := hry.2; omega⟩
  refine ev_iload_0 0 dJ9_floorMod_7cf53_0 ?_
  refine ev_iload_1 1 dJ9_floorMod_7cf53_1 ?_
  refine ev_irem 2 dJ9_floorMod_7cf53_2 hy ?_
  refine ev_istore_2 3 dJ9_floorMod_7cf53_3 rfl rfl ?_
  refine ev_iload_0 4 dJ9_floorMod_7cf53_4 ?_
  refine ev_iload_1 5 dJ9_floorMod_7cf53_5 ?_
  refine ev_ixor 6 dJ9_floorMod_7cf53_6 (fun z6 f6 => ?_)
  refine ev_if_ge 7 18 dJ9_floorMod_7cf53_7 rfl (fun h7 => ?_) (fun h7 => ?_)
  · refine ev_iload_2 18 dJ9_floorMod_7cf53_18 ?_
    refine ev_iret 19 dJ9_floorMod_7cf53_19 ?_ rfl
    exact QP_of (fm_pos hy (by
      by_cases hx : x < 0
      · omega
      · exact tm_nn (by omega)))
  · refine ev_iload_2 10 dJ9_floorMod_7cf53_10 ?_
    refine ev_if_eq 11 18 dJ9_floorMod_7cf53_11 rfl (fun h11 => ?_) (fun h11 => ?_)
    · refine ev_iload_2 18 dJ9_floorMod_7cf53_18 ?_
      refine ev_iret 19 dJ9_floorMod_7cf53_19 ?_ rfl
      exact QP_of (fm_pos hy (by
        by_cases hx : x < 0
        · omega
        · exact tm_nn (by omega)))
    · refine ev_iload_2 14 dJ9_floorMod_7cf53_14 ?_
      refine ev_iload_1 15 dJ9_floorMod_7cf53_15 ?_
      refine ev_iadd 16 dJ9_floorMod_7cf53_16 (hr.resolve_right (by have := tm_np (y := y) (show x < 0 by omega); omega)) ?_
      refine ev_iret 17 dJ9_floorMod_7cf53_17 ?_ rfl
      exact QP_of (fm_neg hy (by have := tm_np (y := y) (show x < 0 by omega); omega))
theorem c_max {l : Launch} {g : Gt} {d : Nat} {Z : Zt} {I : It} {P : Pt'} (x y : Int) : Mt l g mJ9_max_7cf53 d 0 0 [vI x, vI y] Z I P (QP (max x y) Z I P) := by
  refine Mt.of kmJ9_max_7cf53 (ls := [vI x, vI y]) (fun _ => rfl) (fun _ => rfl) (okf_k (okf_k (okf_n rfl))) (fun hok => ?_)
  refine ev_iload_0 0 dJ9_max_7cf53_0 ?_
  refine ev_iload_1 1 dJ9_max_7cf53_1 ?_
  refine ev_icmp_lt 2 9 dJ9_max_7cf53_2 rfl (fun h2 => ?_) (fun h2 => ?_)
  · refine ev_iload_1 9 dJ9_max_7cf53_9 ?_
    refine ev_iret 10 dJ9_max_7cf53_10 ?_ rfl
    exact QP_of (by first | rfl | omega)
  · refine ev_iload_0 5 dJ9_max_7cf53_5 ?_
    refine ev_goto 6 10 dJ9_max_7cf53_6 rfl ?_
    refine ev_iret 10 dJ9_max_7cf53_10 ?_ rfl
    exact QP_of (by first | rfl | omega)
theorem c_within {l : Launch} {g : Gt} {d : Nat} {Z : Zt} {I : It} {P : Pt'} (x lo hi : Int) : Mt l g mX11_within d 0 0 [vI x, vI lo, vI hi] Z I P (QP (b2 (lo ≤ x ∧ x ≤ hi)) Z I P) := by
  refine Mt.of kmX11_within (ls := [vI x, vI lo, vI hi]) (fun _ => rfl) (fun _ => rfl) (okf_k (okf_k (okf_k (okf_n rfl)))) (fun hok => ?_)
  refine ev_iload_0 0 dX11_within_0 ?_
  refine ev_iload_1 1 dX11_within_1 ?_
  refine ev_icmp_lt 2 14 dX11_within_2 rfl (fun h2 => ?_) (fun h2 => ?_)
  · refine ev_iconst 14 dX11_within_14 ⟨by decide, by decide⟩ ?_
    refine ev_zret 15 dX11_within_15 (by first | omega | exact b2_or _) ?_ rfl
    first | exact QP_of (b2_t (by omega)).symm | exact QP_of (b2_f (by omega)).symm
  · refine ev_iload_0 5 dX11_within_5 ?_
    refine ev_iload_2 6 dX11_within_6 ?_
    refine ev_icmp_gt 7 14 dX11_within_7 rfl (fun h7 => ?_) (fun h7 => ?_)
    · refine ev_iconst 14 dX11_within_14 ⟨by decide, by decide⟩ ?_
      refine ev_zret 15 dX11_within_15 (by first | omega | exact b2_or _) ?_ rfl
      first | exact QP_of (b2_t (by omega)).symm | exact QP_of (b2_f (by omega)).symm
    · refine ev_iconst 10 dX11_within_10 ⟨by decide, by decide⟩ ?_
      refine ev_goto 11 15 dX11_within_11 rfl ?_
      refine ev_zret 15 dX11_within_15 (by first | omega | exact b2_or _) ?_ rfl
      first | exact QP_of (b2_t (by omega)).symm | exact QP_of (b2_f (by omega)).symm
theorem c_spotOf {l : Launch} {g : Gt} {d : Nat} {Z : Zt} {I : It} {P : Pt'} (x y : Int) (h : 0 ≤ x ∧ x ≤ 100 ∧ 0 ≤ y ∧ y ≤ 1000) : Mt l g mX11_spotOf d 0 0 [vI x, vI y] Z I P (QP (24 * x + y) Z I P) := by
  refine Mt.of kmX11_spotOf (ls := [vI x, vI y]) (fun _ => rfl) (fun _ => rfl) (okf_k (okf_k (okf_n rfl))) (fun hok => ?_)
  refine ev_bipush 0 dX11_spotOf_0 ⟨by decide, by decide⟩ ?_
  refine ev_iload_0 2 dX11_spotOf_2 ?_
  refine ev_imul 3 dX11_spotOf_3 ⟨by omega, by omega⟩ ?_
  refine ev_iload_1 4 dX11_spotOf_4 ?_
  refine ev_iadd 5 dX11_spotOf_5 ⟨by omega, by omega⟩ ?_
  refine ev_iret 6 dX11_spotOf_6 ?_ rfl
  exact QP_of (by first | rfl | omega)
theorem c_isLevel {l : Launch} {g : Gt} {d : Nat} {Z : Zt} {I : It} {P : Pt'} (hZ : LayC Z) (hP : LayP P) {T : Nat} (hT0 : P 4 0 = some T) (hT : IsT T) (x : Int) : Mt l g mX6_isLevel d 0 0 [vA 4, vI x] Z I P (QP (b2 (0 ≤ x ∧ x < I T 1)) Z I P) := by
  refine Mt.of kmX6_isLevel (ls := [vA 4, vI x]) (fun _ => rfl) (fun _ => rfl) (okf_k (okf_k (okf_n rfl))) (fun hok => ?_)
  refine ev_iload_1 0 dX6_isLevel_0 ?_
  refine ev_if_lt 1 19 dX6_isLevel_1 rfl (fun h1 => ?_) (fun h1 => ?_)
  · refine ev_iconst 19 dX6_isLevel_19 ⟨by decide, by decide⟩ ?_
    refine ev_zret 20 dX6_isLevel_20 (by first | omega | exact b2_or _) ?_ rfl
    first | exact QP_of (b2_t (by omega)).symm | exact QP_of (b2_f (by omega)).symm
  · refine ev_iload_1 4 dX6_isLevel_4 ?_
    refine ev_aload_0 5 dX6_isLevel_5 ?_
    refine ev_getA 6 0 dX6_isLevel_6 fa_X6_12 (kd_4 hZ) hT0 rfl ?_
    refine ev_gI 9 1 1 dX6_isLevel_9 fa_X6_29 (kdT_0 hZ hT) rfl rfl rfl ?_
    refine ev_icmp_ge 12 19 dX6_isLevel_12 rfl (fun h12 => ?_) (fun h12 => ?_)
    · refine ev_iconst 19 dX6_isLevel_19 ⟨by decide, by decide⟩ ?_
      refine ev_zret 20 dX6_isLevel_20 (by first | omega | exact b2_or _) ?_ rfl
      first | exact QP_of (b2_t (by omega)).symm | exact QP_of (b2_f (by omega)).symm
    · refine ev_iconst 15 dX6_isLevel_15 ⟨by decide, by decide⟩ ?_
      refine ev_goto 16 20 dX6_isLevel_16 rfl ?_
      refine ev_zret 20 dX6_isLevel_20 (by first | omega | exact b2_or _) ?_ rfl
      first | exact QP_of (b2_t (by omega)).symm | exact QP_of (b2_f (by omega)).symm
theorem c_isPlace {l : Launch} {g : Gt} {d : Nat} {Z : Zt} {I : It} {P : Pt'} (hZ : LayC Z) (hP : LayP P) {T : Nat} (hT0 : P 4 0 = some T) (hT : IsT T) (x : Int) : Mt l g mX6_isPlace d 0 0 [vA 4, vI x] Z I P (QP (b2 (0 ≤ x ∧ x < I T 0)) Z I P) := by
  refine Mt.of kmX6_isPlace (ls := [vA 4, vI x]) (fun _ => rfl) (fun _ => rfl) (okf_k (okf_k (okf_n rfl))) (fun hok => ?_)
  refine ev_iload_1 0 dX6_isPlace_0 ?_
  refine ev_if_lt 1 19 dX6_isPlace_1 rfl (fun h1 => ?_) (fun h1 => ?_)
  · refine ev_iconst 19 dX6_isPlace_19 ⟨by decide, by decide⟩ ?_
    refine ev_zret 20 dX6_isPlace_20 (by first | omega | exact b2_or _) ?_ rfl
    first | exact QP_of (b2_t (by omega)).symm | exact QP_of (b2_f (by omega)).symm
  · refine ev_iload_1 4 dX6_isPlace_4 ?_
    refine ev_aload_0 5 dX6_isPlace_5 ?_
    refine ev_getA 6 0 dX6_isPlace_6 fa_X6_12 (kd_4 hZ) hT0 rfl ?_
    refine ev_gI 9 0 0 dX6_isPlace_9 fa_X6_33 (kdT_0 hZ hT) rfl rfl rfl ?_
    refine ev_icmp_ge 12 19 dX6_isPlace_12 rfl (fun h12 => ?_) (fun h12 => ?_)
    · refine ev_iconst 19 dX6_isPlace_19 ⟨by decide, by decide⟩ ?_
      refine ev_zret 20 dX6_isPlace_20 (by first | omega | exact b2_or _) ?_ rfl
      first | exact QP_of (b2_t (by omega)).symm | exact QP_of (b2_f (by omega)).symm
    · refine ev_iconst 15 dX6_isPlace_15 ⟨by decide, by decide⟩ ?_
      refine ev_goto 16 20 dX6_isPlace_16 rfl ?_
      refine ev_zret 20 dX6_isPlace_20 (by first | omega | exact b2_or _) ?_ rfl
      first | exact QP_of (b2_t (by omega)).symm | exact QP_of (b2_f (by omega)).symm
theorem c_isTown {l : Launch} {g : Gt} {d : Nat} {Z : Zt} {I : It} {P : Pt'} (hZ : LayC Z) (hP : LayP P) {T : Nat} (hT0 : P 4 0 = some T) (hT : IsT T) (x : Int) : Mt l g mX6_isTown d 0 0 [vA 4, vI x] Z I P (QP (b2 (0 ≤ x ∧ x < I T 5)) Z I P) := by
  refine Mt.of kmX6_isTown (ls := [vA 4, vI x]) (fun _ => rfl) (fun _ => rfl) (okf_k (okf_k (okf_n rfl))) (fun hok => ?_)
  refine ev_iload_1 0 dX6_isTown_0 ?_
  refine ev_if_lt 1 19 dX6_isTown_1 rfl (fun h1 => ?_) (fun h1 => ?_)
  · refine ev_iconst 19 dX6_isTown_19 ⟨by decide, by decide⟩ ?_
    refine ev_zret 20 dX6_isTown_20 (by first | omega | exact b2_or _) ?_ rfl
    first | exact QP_of (b2_t (by omega)).symm | exact QP_of (b2_f (by omega)).symm
  · refine ev_iload_1 4 dX6_isTown_4 ?_
    refine ev_aload_0 5 dX6_isTown_5 ?_
    refine ev_getA 6 0 dX6_isTown_6 fa_X6_12 (kd_4 hZ) hT0 rfl ?_
    refine ev_gI 9 5 5 dX6_isTown_9 fa_X6_36 (kdT_0 hZ hT) rfl rfl rfl ?_
    refine ev_icmp_ge 12 19 dX6_isTown_12 rfl (fun h12 => ?_) (fun h12 => ?_)
    · refine ev_iconst 19 dX6_isTown_19 ⟨by decide, by decide⟩ ?_
      refine ev_zret 20 dX6_isTown_20 (by first | omega | exact b2_or _) ?_ rfl
      first | exact QP_of (b2_t (by omega)).symm | exact QP_of (b2_f (by omega)).symm
    · refine ev_iconst 15 dX6_isTown_15 ⟨by decide, by decide⟩ ?_
      refine ev_goto 16 20 dX6_isTown_16 rfl ?_
      refine ev_zret 20 dX6_isTown_20 (by first | omega | exact b2_or _) ?_ rfl
      first | exact QP_of (b2_t (by omega)).symm | exact QP_of (b2_f (by omega)).symm
theorem c_isThing {l : Launch} {g : Gt} {d : Nat} {Z : Zt} {I : It} {P : Pt'} (hZ : LayC Z) (hP : LayP P) (x : Int) : Mt l g mX6_isThing d 0 0 [vA 4, vI x] Z I P (QP (b2 (0 ≤ x ∧ x < I 18 1)) Z I P) := by
  refine Mt.of kmX6_isThing (ls := [vA 4, vI x]) (fun _ => rfl) (fun _ => rfl) (okf_k (okf_k (okf_n rfl))) (fun hok => ?_)
  refine ev_iload_1 0 dX6_isThing_0 ?_
  refine ev_if_lt 1 19 dX6_isThing_1 rfl (fun h1 => ?_) (fun h1 => ?_)
  · refine ev_iconst 19 dX6_isThing_19 ⟨by decide, by decide⟩ ?_
    refine ev_zret 20 dX6_isThing_20 (by first | omega | exact b2_or _) ?_ rfl
    first | exact QP_of (b2_t (by omega)).symm | exact QP_of (b2_f (by omega)).symm
  · refine ev_iload_1 4 dX6_isThing_4 ?_
    refine ev_aload_0 5 dX6_isThing_5 ?_
    refine ev_getA 6 1 dX6_isThing_6 fa_X6_21 (kd_4 hZ) (pr_4_1 hP) rfl ?_
    refine ev_gI 9 1 1 dX6_isThing_9 fa_X6_39 (kd_18 hZ) rfl rfl rfl ?_
    refine ev_icmp_ge 12 19 dX6_isThing_12 rfl (fun h12 => ?_) (fun h12 => ?_)
    · refine ev_iconst 19 dX6_isThing_19 ⟨by decide, by decide⟩ ?_
      refine ev_zret 20 dX6_isThing_20 (by first | omega | exact b2_or _) ?_ rfl
      first | exact QP_of (b2_t (by omega)).symm | exact QP_of (b2_f (by omega)).symm
    · refine ev_iconst 15 dX6_isThing_15 ⟨by decide, by decide⟩ ?_
      refine ev_goto 16 20 dX6_isThing_16 rfl ?_
      refine ev_zret 20 dX6_isThing_20 (by first | omega | exact b2_or _) ?_ rfl
      first | exact QP_of (b2_t (by omega)).symm | exact QP_of (b2_f (by omega)).symm
theorem c_townSpot {l : Launch} {g : Gt} {d : Nat} {Z : Zt} {I : It} {P : Pt'} (hZ : LayC Z) (hP : LayP P) {T : Nat} (hT0 : P 4 0 = some T) (hT : IsT T) (t : Int) (h : 0 ≤ t ∧ t < 6) (h1 : 0 ≤ I (T + 4) t ∧ I (T + 4) t ≤ 7) (h2 : 0 ≤ I 19 t ∧ I 19 t ≤ 23) : Mt l g mX6_townSpot (d + 1) 0 0 [vA 4, vI t] Z I P (QP (24 * I (T + 4) t + I 19 t) Z I P) := by
  refine Mt.of kmX6_townSpot (ls := [vA 4, vI t]) (fun _ => rfl) (fun _ => rfl) (okf_k (okf_k (okf_n rfl))) (fun hok => ?_)
  refine ev_aload_0 0 dX6_townSpot_0 ?_
  refine ev_getA 1 0 dX6_townSpot_1 fa_X6_12 (kd_4 hZ) hT0 rfl ?_
  refine ev_getA 4 6 dX6_townSpot_4 fa_X6_42 (kdT_0 hZ hT) (prT_6 hP hT) rfl ?_
  refine ev_iload_1 7 dX6_townSpot_7 ?_
  refine ev_iald 8 dX6_townSpot_8 (kdT_4 hZ hT) ⟨by omega, by have := (lnT_4 hZ hT); omega⟩ ?_
  refine ev_aload_0 9 dX6_townSpot_9 ?_
  refine ev_getA 10 1 dX6_townSpot_10 fa_X6_21 (kd_4 hZ) (pr_4_1 hP) rfl ?_
  refine ev_getA 13 2 dX6_townSpot_13 fa_X6_46 (kd_18 hZ) (pr_18_2 hP) rfl ?_
  refine ev_iload_1 16 dX6_townSpot_16 ?_
  refine ev_iald 17 dX6_townSpot_17 (kd_19 hZ) ⟨by omega, by have := (ln_19 hZ); omega⟩ ?_
  refine ev_cSp_2 18 dX6_townSpot_18 kmX11_spotOf lk_X6_49 (c_spotOf _ _ (by omega)) rfl rfl ?_
  refine ev_iret 21 dX6_townSpot_21 ?_ rfl
  exact QP_of (by first | rfl | omega)
theorem c_wrap {l : Launch} {g : Gt} {d : Nat} {Z : Zt} {I : It} {P : Pt'} (hZ : LayC Z) {T : Nat} (hT : IsT T) (x : Int) (h : 0 < I T 0) : Mt l g mX10_wrap (d + 1) 0 0 [vA T, vI x] Z I P (QP (x % I T 0) Z I P) := by
  refine Mt.of kmX10_wrap (ls := [vA T, vI x]) (fun _ => rfl) (fun _ => rfl) (okf_k (okf_k (okf_n rfl))) (fun hok => ?_)
  refine ev_aload_0 0 dX10_wrap_0 ?_
  refine ev_gI 1 0 0 dX10_wrap_1 fa_X10_9 (kdT_0 hZ hT) rfl rfl rfl ?_
  refine ev_if_le 4 18 dX10_wrap_4 rfl (fun h4 => ?_) (fun h4 => ?_)
  · refine ev_iconst 18 dX10_wrap_18 ⟨by decide, by decide⟩ ?_
    refine ev_iret 19 dX10_wrap_19 ?_ rfl
    first | exact QP_of rfl | (exfalso; omega)
  · refine ev_iload_1 7 dX10_wrap_7 ?_
    refine ev_aload_0 8 dX10_wrap_8 ?_
    refine ev_gI 9 0 0 dX10_wrap_9 fa_X10_9 (kdT_0 hZ hT) rfl rfl rfl ?_
    refine ev_cSp_2 12 dX10_wrap_12 kmJ9_floorMod_7cf53 lk_X10_64 (c_floorMod _ _ (by omega)) rfl rfl ?_
    refine ev_goto 15 19 dX10_wrap_15 rfl ?_
    refine ev_iret 19 dX10_wrap_19 ?_ rfl
    first | exact QP_of rfl | (exfalso; omega)
theorem c_townAt {l : Launch} {g : Gt} {d : Nat} {Z : Zt} {I : It} {P : Pt'} (hZ : LayC Z) (hP : LayP P) {T : Nat} (hT0 : P 4 0 = some T) (hT : IsT T) (hn : 0 ≤ I T 5 ∧ I T 5 ≤ 6) (L x as : Int) : Mt l g mX6_townAt d 0 0 [vA 4, vI L, vI x, vI as] Z I P (QP (tAt (I (T + 4)) (I 19) (I 20) L x as (I T 5).toNat 0) Z I P) := by
  refine Mt.of kmX6_townAt (ls := [vA 4, vI L, vI x, vI as, vX]) (fun _ => rfl) (fun _ => rfl) (okf_k (okf_k (okf_k (okf_k (okf_n rfl))))) (fun hok => ?_)
  have loop : ∀ (n : Nat) (t : Int), 0 ≤ t → t + n = I T 5 → Ev l g mX6_townAt d 0 0 Z I P 3 [vA 4, vI L, vI x, vI as, vI t] [] (QP (tAt (I (T + 4)) (I 19) (I 20) L x as n t) Z I P) := by
    intro n
    induction n with
    | zero =>
      intro t h0 h1
      refine ev_iload_4 3 dX6_townAt_3 ?_
      refine ev_aload_0 5 dX6_townAt_5 ?_
      refine ev_getA 6 0 dX6_townAt_6 fa_X6_12 (kd_4 hZ) hT0 rfl ?_
      refine ev_gI 9 5 5 dX6_townAt_9 fa_X6_36 (kdT_0 hZ hT) rfl rfl rfl ?_
      refine ev_icmp_ge 12 74 dX6_townAt_12 rfl (fun h12 => ?_) (fun h12 => ?_)
      · refine ev_bipush 74 dX6_townAt_74 ⟨by decide, by decide⟩ ?_
        refine ev_iret 76 dX6_townAt_76 ?_ rfl
        exact QP_of rfl
      · exfalso; omega
    | succ n ih =>
      intro t h0 h1
      refine ev_iload_4 3 dX6_townAt_3 ?_
      refine ev_aload_0 5 dX6_townAt_5 ?_
      refine ev_getA 6 0 dX6_townAt_6 fa_X6_12 (kd_4 hZ) hT0 rfl ?_
      refine ev_gI 9 5 5 dX6_townAt_9 fa_X6_36 (kdT_0 hZ hT) rfl rfl rfl ?_
      refine ev_icmp_ge 12 74 dX6_townAt_12 rfl (fun h12 => ?_) (fun h12 => ?_)
      · exfalso; omega
      · refine ev_iload_4 15 dX6_townAt_15 ?_
        refine ev_iload_3 17 dX6_townAt_17 ?_
        refine ev_icmp_eq 18 68 dX6_townAt_18 rfl (fun h18 => ?_) (fun h18 => ?_)
        · refine ev_iinc_4 68 dX6_townAt_68 ⟨by omega, by omega⟩ rfl rfl ?_
          refine ev_goto 71 3 dX6_townAt_71 rfl ?_
          rw [show tAt (I (T + 4)) (I 19) (I 20) L x as (n + 1) t = tAt (I (T + 4)) (I 19) (I 20) L x as n (t + 1) from if_neg (by omega)]
          exact ih (t + 1) (by omega) (by omega)
        · refine ev_aload_0 21 dX6_townAt_21 ?_
          refine ev_getA 22 1 dX6_townAt_22 fa_X6_21 (kd_4 hZ) (pr_4_1 hP) rfl ?_
          refine ev_getA 25 3 dX6_townAt_25 fa_X6_53 (kd_18 hZ) (pr_18_3 hP) rfl ?_
          refine ev_iload_4 28 dX6_townAt_28 ?_
          refine ev_zald 30 dX6_townAt_30 (kd_20 hZ) ⟨by omega, by have := (ln_20 hZ); omega⟩ ?_
          refine ev_if_eq 31 37 dX6_townAt_31 rfl (fun h31 => ?_) (fun h31 => ?_)
          · refine ev_aload_0 37 dX6_townAt_37 ?_
            refine ev_getA 38 0 dX6_townAt_38 fa_X6_12 (kd_4 hZ) hT0 rfl ?_
            refine ev_getA 41 6 dX6_townAt_41 fa_X6_42 (kdT_0 hZ hT) (prT_6 hP hT) rfl ?_
            refine ev_iload_4 44 dX6_townAt_44 ?_
            refine ev_iald 46 dX6_townAt_46 (kdT_4 hZ hT) ⟨by omega, by have := (lnT_4 hZ hT); omega⟩ ?_
            refine ev_iload_1 47 dX6_townAt_47 ?_
            refine ev_jne 48 68 dX6_townAt_48 rfl (fun h48 => ?_) (fun h48 => ?_)
            · refine ev_iinc_4 68 dX6_townAt_68 ⟨by omega, by omega⟩ rfl rfl ?_
              refine ev_goto 71 3 dX6_townAt_71 rfl ?_
              rw [show tAt (I (T + 4)) (I 19) (I 20) L x as (n + 1) t = tAt (I (T + 4)) (I 19) (I 20) L x as n (t + 1) from if_neg (by omega)]
              exact ih (t + 1) (by omega) (by omega)
            · refine ev_aload_0 51 dX6_townAt_51 ?_
              refine ev_getA 52 1 dX6_townAt_52 fa_X6_21 (kd_4 hZ) (pr_4_1 hP) rfl ?_
              refine ev_getA 55 2 dX6_townAt_55 fa_X6_46 (kd_18 hZ) (pr_18_2 hP) rfl ?_
              refine ev_iload_4 58 dX6_townAt_58 ?_
              refine ev_iald 60 dX6_townAt_60 (kd_19 hZ) ⟨by omega, by have := (ln_19 hZ); omega⟩ ?_
              refine ev_iload_2 61 dX6_townAt_61 ?_
              refine ev_jne 62 68 dX6_townAt_62 rfl (fun h62 => ?_) (fun h62 => ?_)
              · refine ev_iinc_4 68 dX6_townAt_68 ⟨by omega, by omega⟩ rfl rfl ?_
                refine ev_goto 71 3 dX6_townAt_71 rfl ?_
                rw [show tAt (I (T + 4)) (I 19) (I 20) L x as (n + 1) t = tAt (I (T + 4)) (I 19) (I 20) L x as n (t + 1) from if_neg (by omega)]
                exact ih (t + 1) (by omega) (by omega)
              · refine ev_iload_4 65 dX6_townAt_65 ?_
                refine ev_iret 67 dX6_townAt_67 ?_ rfl
                exact QP_of (if_pos (by omega)).symm
          · refine ev_goto 34 68 dX6_townAt_34 rfl ?_
            refine ev_iinc_4 68 dX6_townAt_68 ⟨by omega, by omega⟩ rfl rfl ?_
            refine ev_goto 71 3 dX6_townAt_71 rfl ?_
            rw [show tAt (I (T + 4)) (I 19) (I 20) L x as (n + 1) t = tAt (I (T + 4)) (I 19) (I 20) L x as n (t + 1) from if_neg (by omega)]
            exact ih (t + 1) (by omega) (by omega)
  refine ev_iconst 0 dX6_townAt_0 ⟨by decide, by decide⟩ ?_
  refine ev_istore_4 1 dX6_townAt_1 rfl rfl ?_
  exact loop (I T 5).toNat 0 (by omega) (by omega)
