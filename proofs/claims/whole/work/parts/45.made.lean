/-! constructors: cells one after another -/
def nwL (Z : Zt) (l : List (Nat × Int)) : Zt := l.foldl (fun Z q => nwZ Z q.1 q.2) Z
def PL (P : Pt') (l : List (Nat × Int × Nat)) : Pt' := l.foldl (fun P q => upP P q.1 q.2.1 (some q.2.2)) P
theorem nwL_snoc (Z : Zt) (l : List (Nat × Int)) (k : Nat) (n : Int) : nwZ (nwL Z l) k n = nwL Z (l ++ [(k, n)]) := by unfold nwL; rw [List.foldl_append]; rfl
theorem nwL_app (Z : Zt) (l l' : List (Nat × Int)) : nwL (nwL Z l) l' = nwL Z (l ++ l') := by unfold nwL; rw [List.foldl_append]
theorem nwL_n (Z : Zt) (l : List (Nat × Int)) : (nwL Z l).2.2 = Z.2.2 + l.length := by
  induction l generalizing Z with
  | nil => rfl
  | cons q l ih => show (nwL (nwZ Z q.1 q.2) l).2.2 = _; rw [ih]; show Z.2.2 + 1 + l.length = Z.2.2 + (l.length + 1); omega
theorem nwL_o {Z : Zt} {l : List (Nat × Int)} {a : Nat} (h : a < Z.2.2) : (nwL Z l).1 a = Z.1 a := by
  induction l generalizing Z with
  | nil => rfl
  | cons q l ih =>
    show (nwL (nwZ Z q.1 q.2) l).1 a = _
    rw [ih (by show a < Z.2.2 + 1; omega)]
    show (if a = Z.2.2 then q.1 else Z.1 a) = _
    rw [if_neg (by omega)]
theorem nwL_o2 {Z : Zt} {l : List (Nat × Int)} {a : Nat} (h : a < Z.2.2) : (nwL Z l).2.1 a = Z.2.1 a := by
  induction l generalizing Z with
  | nil => rfl
  | cons q l ih =>
    show (nwL (nwZ Z q.1 q.2) l).2.1 a = _
    rw [ih (by show a < Z.2.2 + 1; omega)]
    show (if a = Z.2.2 then q.2 else Z.2.1 a) = _
    rw [if_neg (by omega)]
theorem nwL_k {Z : Zt} {l : List (Nat × Int)} {i : Nat} (h : i < l.length) : (nwL Z l).1 (Z.2.2 + i) = (l.getD i (99, 0)).1 ∧ (nwL Z l).2.1 (Z.2.2 + i) = (l.getD i (99, 0)).2 := by
  induction l generalizing Z i with
  | nil => cases h
  | cons q l ih =>
    show (nwL (nwZ Z q.1 q.2) l).1 _ = _ ∧ (nwL (nwZ Z q.1 q.2) l).2.1 _ = _
    cases i with
    | zero =>
      rw [nwL_o (by show Z.2.2 + 0 < Z.2.2 + 1; omega), nwL_o2 (by show Z.2.2 + 0 < Z.2.2 + 1; omega)]
      show (if Z.2.2 + 0 = Z.2.2 then q.1 else Z.1 _) = _ ∧ (if Z.2.2 + 0 = Z.2.2 then q.2 else Z.2.1 _) = _
      rw [if_pos (by omega), if_pos (by omega)]; exact ⟨rfl, rfl⟩
    | succ i =>
      have := ih (Z := nwZ Z q.1 q.2) (i := i) (by simpa using h)
      rw [show (nwZ Z q.1 q.2).2.2 + i = Z.2.2 + (i + 1) by show Z.2.2 + 1 + i = _; omega] at this
      exact this
def Z0 : Zt := (fun _ => 99, fun _ => 0, 0)
theorem nwKn {Z : Zt} {l : List (Nat × Int)} {n i : Nat} (hn : Z.2.2 = n) (h : i < l.length) : (nwL Z l).1 (n + i) = (l.getD i (99, 0)).1 := by rw [← hn]; exact (nwL_k h).1
theorem nwLn {Z : Zt} {l : List (Nat × Int)} {n i : Nat} (hn : Z.2.2 = n) (h : i < l.length) : (nwL Z l).2.1 (n + i) = (l.getD i (99, 0)).2 := by rw [← hn]; exact (nwL_k h).2
theorem nwK0 {l : List (Nat × Int)} {a : Nat} (h : a < l.length) : (nwL Z0 l).1 a = (l.getD a (99, 0)).1 := by
  have := (nwL_k (Z := Z0) h).1
  rwa [show Z0.2.2 + a = a from Nat.zero_add a] at this
theorem nwL0 {l : List (Nat × Int)} {a : Nat} (h : a < l.length) : (nwL Z0 l).2.1 a = (l.getD a (99, 0)).2 := by
  have := (nwL_k (Z := Z0) h).2
  rwa [show Z0.2.2 + a = a from Nat.zero_add a] at this
theorem nwL_TZ (Z : Zt) (l : List (Nat × Int)) : TZ (nwL Z l) = TZ Z + (l.map fun q => csz q.1 q.2).sum := by
  induction l generalizing Z with
  | nil => rfl
  | cons q l ih =>
    show TZ (nwL (nwZ0 Z q.1 q.2) l) = _
    rw [ih, TZ_nw, List.map_cons, List.sum_cons]; omega
section CX
variable {l : Launch} {g : Gt} {mm : Mm} {d bc bs : Nat} {Z : Zt} {I : It} {P : Pt'} {ls st : List Vv} {Q : Qt}
theorem ev_cIx_0 (pc : Nat) {mk : Mm} {n ix a mc ms : Nat} {L : List (Nat × Int)} {f : It → Pt' → Prop} (hd : decode mm.2.1 pc = .ok (.invokespecial ix, 3)) (hM : MK mk n) (hL : LI mm.1.cls ix mk) (hm : Mt l g mk d mc ms [vA a] Z I P (QW (fun Z' I' P' => Z' = nwL Z L ∧ f I' P'))) (hn : ([] : List Vv).length = n) (h8 : Nat.ble ((st.map fun v => if isLg v = true then 2 else 1).sum) 8 = true) (hmc : L.length = mc) (hms : (L.map fun q => csz q.1 q.2).sum = ms)
    (kk : ∀ I' P', f I' P' → Ev l g mm (d + 1) bc bs (nwL Z L) I' P' (pc + 3) ls st Q) : Ev l g mm (d + 1) (bc + mc) (bs + ms) Z I P pc ls (vA a :: st) Q :=
  ev_cIw_0 pc hd hM hL hm hn h8 (fun Z' I' P' h _ _ => by obtain ⟨rfl, hf⟩ := h; exact Ev.mono (by rw [nwL_n]; omega) (by rw [nwL_TZ]; omega) (kk I' P' hf))
theorem ev_cIx_1 (pc : Nat) {mk : Mm} {n ix a mc ms : Nat} {v1 : Vv} {L : List (Nat × Int)} {f : It → Pt' → Prop} (hd : decode mm.2.1 pc = .ok (.invokespecial ix, 3)) (hM : MK mk n) (hL : LI mm.1.cls ix mk) (hm : Mt l g mk d mc ms [vA a, v1] Z I P (QW (fun Z' I' P' => Z' = nwL Z L ∧ f I' P'))) (hn : ([v1] : List Vv).length = n) (h8 : Nat.ble ((st.map fun v => if isLg v = true then 2 else 1).sum) 8 = true) (hmc : L.length = mc) (hms : (L.map fun q => csz q.1 q.2).sum = ms)
    (kk : ∀ I' P', f I' P' → Ev l g mm (d + 1) bc bs (nwL Z L) I' P' (pc + 3) ls st Q) : Ev l g mm (d + 1) (bc + mc) (bs + ms) Z I P pc ls (v1 :: vA a :: st) Q :=
  ev_cIw_1 pc hd hM hL hm hn h8 (fun Z' I' P' h _ _ => by obtain ⟨rfl, hf⟩ := h; exact Ev.mono (by rw [nwL_n]; omega) (by rw [nwL_TZ]; omega) (kk I' P' hf))
theorem ev_cIx_2 (pc : Nat) {mk : Mm} {n ix a mc ms : Nat} {v1 v2 : Vv} {L : List (Nat × Int)} {f : It → Pt' → Prop} (hd : decode mm.2.1 pc = .ok (.invokespecial ix, 3)) (hM : MK mk n) (hL : LI mm.1.cls ix mk) (hm : Mt l g mk d mc ms [vA a, v1, v2] Z I P (QW (fun Z' I' P' => Z' = nwL Z L ∧ f I' P'))) (hn : ([v1, v2] : List Vv).length = n) (h8 : Nat.ble ((st.map fun v => if isLg v = true then 2 else 1).sum) 8 = true) (hmc : L.length = mc) (hms : (L.map fun q => csz q.1 q.2).sum = ms)
    (kk : ∀ I' P', f I' P' → Ev l g mm (d + 1) bc bs (nwL Z L) I' P' (pc + 3) ls st Q) : Ev l g mm (d + 1) (bc + mc) (bs + ms) Z I P pc ls (v2 :: v1 :: vA a :: st) Q :=
  ev_cIw_2 pc hd hM hL hm hn h8 (fun Z' I' P' h _ _ => by obtain ⟨rfl, hf⟩ := h; exact Ev.mono (by rw [nwL_n]; omega) (by rw [nwL_TZ]; omega) (kk I' P' hf))
end CX
set_option maxRecDepth 8000 in
theorem c_toldI {l : Launch} {g : Gt} {d : Nat} {Z : Zt} {I : It} {P : Pt'} {a n : Nat} (hk : Z.1 a = 10) (hn : Z.2.2 = n) (ha : a < n) : Mt l g mX10_init (d + 1) 12 79 [vA a] Z I P (QW (fun Z' I' P' => Z' = nwL Z [(15, 8), (15, 8), (15, 8), (15, 6), (15, 6), (15, 6), (15, 6), (15, 8), (15, 8), (15, 5), (15, 5), (15, 5)] ∧ (P' = PL P [(a, 2, n), (a, 3, (n + 1)), (a, 4, (n + 2)), (a, 6, (n + 3)), (a, 7, (n + 4)), (a, 8, (n + 5)), (a, 9, (n + 6)), (a, 11, (n + 7)), (a, 12, (n + 8)), (a, 14, (n + 9)), (a, 15, (n + 10)), (a, 16, (n + 11))] ∧ ∀ c, c ≠ a → I' c = I c))) := by
  refine Mt.of kmX10_init (ls := [vA a]) (fun _ => rfl) (fun _ => rfl) (okf_k (okf_n rfl)) (fun hok => ?_)
  change Ev l g _ _ _ _ (nwL Z []) I P _ _ _ _
  refine ev_aload_0 0 dX10_init_0 ?_
  refine ev_objInit 1 dX10_init_1 oi_X10_3 oi_2 oi_3 ?_
  refine ev_aload_0 4 dX10_init_4 ?_
  refine ev_bipush 5 dX10_init_5 ⟨by decide, by decide⟩ ?_
  refine ev_pI 7 0 0 dX10_init_7 fp_X10_9 ((nwL_o (by omega)).trans hk) rfl rfl ?_
  refine ev_aload_0 10 dX10_init_10 ?_
  refine ev_iconst 11 dX10_init_11 ⟨by decide, by decide⟩ ?_
  refine ev_pI 12 1 1 dX10_init_12 fp_X10_15 ((nwL_o (by omega)).trans hk) rfl rfl ?_
  refine ev_aload_0 15 dX10_init_15 ?_
  refine ev_bipush 16 dX10_init_16 ⟨by decide, by decide⟩ ?_
  refine Ev.mono (bc' := 11 + 1) (bs' := 71 + 8) (by omega) (by omega) ?_
  refine ev_newI 18 dX10_init_18 (Or.inr (Or.inr (Or.inl ⟨rfl, rfl⟩))) ac_int ⟨by omega, by omega⟩ (n' := 8) (bc := 11) (bs := 71) rfl ?_
  try simp only [nwL_snoc, nwL_app, List.cons_append, List.nil_append, nwL_n, hn, List.length_cons, List.length_nil, Nat.reduceAdd, Nat.zero_add]
  refine ev_pA 20 2 2 dX10_init_20 fp_X10_18 ((nwL_o (by omega)).trans hk) (Or.inl rfl) rfl rfl ?_
  refine ev_aload_0 23 dX10_init_23 ?_
  refine ev_bipush 24 dX10_init_24 ⟨by decide, by decide⟩ ?_
  refine Ev.mono (bc' := 10 + 1) (bs' := 63 + 8) (by omega) (by omega) ?_
  refine ev_newI 26 dX10_init_26 (Or.inr (Or.inr (Or.inl ⟨rfl, rfl⟩))) ac_int ⟨by omega, by omega⟩ (n' := 8) (bc := 10) (bs := 63) rfl ?_
  try simp only [nwL_snoc, nwL_app, List.cons_append, List.nil_append, nwL_n, hn, List.length_cons, List.length_nil, Nat.reduceAdd, Nat.zero_add]
  refine ev_pA 28 3 3 dX10_init_28 fp_X10_22 ((nwL_o (by omega)).trans hk) (Or.inl rfl) rfl rfl ?_
  refine ev_aload_0 31 dX10_init_31 ?_
  refine ev_bipush 32 dX10_init_32 ⟨by decide, by decide⟩ ?_
  refine Ev.mono (bc' := 9 + 1) (bs' := 55 + 8) (by omega) (by omega) ?_
  refine ev_newI 34 dX10_init_34 (Or.inr (Or.inr (Or.inl ⟨rfl, rfl⟩))) ac_int ⟨by omega, by omega⟩ (n' := 8) (bc := 9) (bs := 55) rfl ?_
  try simp only [nwL_snoc, nwL_app, List.cons_append, List.nil_append, nwL_n, hn, List.length_cons, List.length_nil, Nat.reduceAdd, Nat.zero_add]
  refine ev_pA 36 4 4 dX10_init_36 fp_X10_25 ((nwL_o (by omega)).trans hk) (Or.inl rfl) rfl rfl ?_
  refine ev_aload_0 39 dX10_init_39 ?_
  refine ev_iconst 40 dX10_init_40 ⟨by decide, by decide⟩ ?_
  refine ev_pI 41 5 5 dX10_init_41 fp_X10_28 ((nwL_o (by omega)).trans hk) rfl rfl ?_
  refine ev_aload_0 44 dX10_init_44 ?_
  refine ev_bipush 45 dX10_init_45 ⟨by decide, by decide⟩ ?_
  refine Ev.mono (bc' := 8 + 1) (bs' := 49 + 6) (by omega) (by omega) ?_
  refine ev_newI 47 dX10_init_47 (Or.inr (Or.inr (Or.inl ⟨rfl, rfl⟩))) ac_int ⟨by omega, by omega⟩ (n' := 6) (bc := 8) (bs := 49) rfl ?_
  try simp only [nwL_snoc, nwL_app, List.cons_append, List.nil_append, nwL_n, hn, List.length_cons, List.length_nil, Nat.reduceAdd, Nat.zero_add]
  refine ev_pA 49 6 6 dX10_init_49 fp_X10_31 ((nwL_o (by omega)).trans hk) (Or.inl rfl) rfl rfl ?_
  refine ev_aload_0 52 dX10_init_52 ?_
  refine ev_bipush 53 dX10_init_53 ⟨by decide, by decide⟩ ?_
  refine Ev.mono (bc' := 7 + 1) (bs' := 43 + 6) (by omega) (by omega) ?_
  refine ev_newI 55 dX10_init_55 (Or.inr (Or.inr (Or.inl ⟨rfl, rfl⟩))) ac_int ⟨by omega, by omega⟩ (n' := 6) (bc := 7) (bs := 43) rfl ?_
  try simp only [nwL_snoc, nwL_app, List.cons_append, List.nil_append, nwL_n, hn, List.length_cons, List.length_nil, Nat.reduceAdd, Nat.zero_add]
  refine ev_pA 57 7 7 dX10_init_57 fp_X10_34 ((nwL_o (by omega)).trans hk) (Or.inl rfl) rfl rfl ?_
  refine ev_aload_0 60 dX10_init_60 ?_
  refine ev_bipush 61 dX10_init_61 ⟨by decide, by decide⟩ ?_
  refine Ev.mono (bc' := 6 + 1) (bs' := 37 + 6) (by omega) (by omega) ?_
  refine ev_newI 63 dX10_init_63 (Or.inr (Or.inr (Or.inl ⟨rfl, rfl⟩))) ac_int ⟨by omega, by omega⟩ (n' := 6) (bc := 6) (bs := 37) rfl ?_
  try simp only [nwL_snoc, nwL_app, List.cons_append, List.nil_append, nwL_n, hn, List.length_cons, List.length_nil, Nat.reduceAdd, Nat.zero_add]
  refine ev_pA 65 8 8 dX10_init_65 fp_X10_37 ((nwL_o (by omega)).trans hk) (Or.inl rfl) rfl rfl ?_
  refine ev_aload_0 68 dX10_init_68 ?_
  refine ev_bipush 69 dX10_init_69 ⟨by decide, by decide⟩ ?_
  refine Ev.mono (bc' := 5 + 1) (bs' := 31 + 6) (by omega) (by omega) ?_
  refine ev_newI 71 dX10_init_71 (Or.inr (Or.inr (Or.inl ⟨rfl, rfl⟩))) ac_int ⟨by omega, by omega⟩ (n' := 6) (bc := 5) (bs := 31) rfl ?_
  try simp only [nwL_snoc, nwL_app, List.cons_append, List.nil_append, nwL_n, hn, List.length_cons, List.length_nil, Nat.reduceAdd, Nat.zero_add]
  refine ev_pA 73 9 9 dX10_init_73 fp_X10_40 ((nwL_o (by omega)).trans hk) (Or.inl rfl) rfl rfl ?_
  refine ev_aload_0 76 dX10_init_76 ?_
  refine ev_iconst 77 dX10_init_77 ⟨by decide, by decide⟩ ?_
  refine ev_pI 78 10 10 dX10_init_78 fp_X10_43 ((nwL_o (by omega)).trans hk) rfl rfl ?_
  refine ev_aload_0 81 dX10_init_81 ?_
  refine ev_bipush 82 dX10_init_82 ⟨by decide, by decide⟩ ?_
  refine Ev.mono (bc' := 4 + 1) (bs' := 23 + 8) (by omega) (by omega) ?_
  refine ev_newI 84 dX10_init_84 (Or.inr (Or.inr (Or.inl ⟨rfl, rfl⟩))) ac_int ⟨by omega, by omega⟩ (n' := 8) (bc := 4) (bs := 23) rfl ?_
  try simp only [nwL_snoc, nwL_app, List.cons_append, List.nil_append, nwL_n, hn, List.length_cons, List.length_nil, Nat.reduceAdd, Nat.zero_add]
  refine ev_pA 86 11 11 dX10_init_86 fp_X10_46 ((nwL_o (by omega)).trans hk) (Or.inl rfl) rfl rfl ?_
  refine ev_aload_0 89 dX10_init_89 ?_
  refine ev_bipush 90 dX10_init_90 ⟨by decide, by decide⟩ ?_
  refine Ev.mono (bc' := 3 + 1) (bs' := 15 + 8) (by omega) (by omega) ?_
  refine ev_newI 92 dX10_init_92 (Or.inr (Or.inr (Or.inl ⟨rfl, rfl⟩))) ac_int ⟨by omega, by omega⟩ (n' := 8) (bc := 3) (bs := 15) rfl ?_
  try simp only [nwL_snoc, nwL_app, List.cons_append, List.nil_append, nwL_n, hn, List.length_cons, List.length_nil, Nat.reduceAdd, Nat.zero_add]
  refine ev_pA 94 12 12 dX10_init_94 fp_X10_49 ((nwL_o (by omega)).trans hk) (Or.inl rfl) rfl rfl ?_
  refine ev_aload_0 97 dX10_init_97 ?_
  refine ev_iconst 98 dX10_init_98 ⟨by decide, by decide⟩ ?_
  refine ev_pI 99 13 13 dX10_init_99 fp_X10_52 ((nwL_o (by omega)).trans hk) rfl rfl ?_
  refine ev_aload_0 102 dX10_init_102 ?_
  refine ev_iconst 103 dX10_init_103 ⟨by decide, by decide⟩ ?_
  refine Ev.mono (bc' := 2 + 1) (bs' := 10 + 5) (by omega) (by omega) ?_
  refine ev_newI 104 dX10_init_104 (Or.inr (Or.inr (Or.inl ⟨rfl, rfl⟩))) ac_int ⟨by omega, by omega⟩ (n' := 5) (bc := 2) (bs := 10) rfl ?_
  try simp only [nwL_snoc, nwL_app, List.cons_append, List.nil_append, nwL_n, hn, List.length_cons, List.length_nil, Nat.reduceAdd, Nat.zero_add]
  refine ev_pA 106 14 14 dX10_init_106 fp_X10_55 ((nwL_o (by omega)).trans hk) (Or.inl rfl) rfl rfl ?_
  refine ev_aload_0 109 dX10_init_109 ?_
  refine ev_iconst 110 dX10_init_110 ⟨by decide, by decide⟩ ?_
  refine Ev.mono (bc' := 1 + 1) (bs' := 5 + 5) (by omega) (by omega) ?_
  refine ev_newI 111 dX10_init_111 (Or.inr (Or.inr (Or.inl ⟨rfl, rfl⟩))) ac_int ⟨by omega, by omega⟩ (n' := 5) (bc := 1) (bs := 5) rfl ?_
  try simp only [nwL_snoc, nwL_app, List.cons_append, List.nil_append, nwL_n, hn, List.length_cons, List.length_nil, Nat.reduceAdd, Nat.zero_add]
  refine ev_pA 113 15 15 dX10_init_113 fp_X10_58 ((nwL_o (by omega)).trans hk) (Or.inl rfl) rfl rfl ?_
  refine ev_aload_0 116 dX10_init_116 ?_
  refine ev_iconst 117 dX10_init_117 ⟨by decide, by decide⟩ ?_
  refine Ev.mono (bc' := 0 + 1) (bs' := 0 + 5) (by omega) (by omega) ?_
  refine ev_newI 118 dX10_init_118 (Or.inr (Or.inr (Or.inl ⟨rfl, rfl⟩))) ac_int ⟨by omega, by omega⟩ (n' := 5) (bc := 0) (bs := 0) rfl ?_
  try simp only [nwL_snoc, nwL_app, List.cons_append, List.nil_append, nwL_n, hn, List.length_cons, List.length_nil, Nat.reduceAdd, Nat.zero_add]
  refine ev_pA 120 16 16 dX10_init_120 fp_X10_61 ((nwL_o (by omega)).trans hk) (Or.inl rfl) rfl rfl ?_
  refine ev_vret 123 dX10_init_123 ?_ rfl
  exact QW_of ⟨rfl, rfl, fun c hc => by simp only [upI_A hc]⟩
theorem c_stateI {l : Launch} {g : Gt} {d : Nat} {Z : Zt} {I : It} {P : Pt'} {a n : Nat} (hk : Z.1 a = 8) (hn : Z.2.2 = n) (ha : a < n) : Mt l g mX8_init (d + 1) 6 40 [vA a] Z I P (QW (fun Z' I' P' => Z' = nwL Z [(15, 6), (13, 6), (15, 7), (15, 7), (15, 7), (15, 7)] ∧ (P' = PL P [(a, 2, n), (a, 3, (n + 1)), (a, 4, (n + 2)), (a, 5, (n + 3)), (a, 6, (n + 4)), (a, 7, (n + 5))] ∧ ∀ c, c ≠ a → I' c = I c))) := by
  refine Mt.of kmX8_init (ls := [vA a]) (fun _ => rfl) (fun _ => rfl) (okf_k (okf_n rfl)) (fun hok => ?_)
  change Ev l g _ _ _ _ (nwL Z []) I P _ _ _ _
  refine ev_aload_0 0 dX8_init_0 ?_
  refine ev_objInit 1 dX8_init_1 oi_X8_3 oi_2 oi_3 ?_
  refine ev_aload_0 4 dX8_init_4 ?_
  refine ev_iconst 5 dX8_init_5 ⟨by decide, by decide⟩ ?_
  refine ev_pI 6 0 0 dX8_init_6 fp_X8_9 ((nwL_o (by omega)).trans hk) rfl rfl ?_
  refine ev_aload_0 9 dX8_init_9 ?_
  refine ev_iconst 10 dX8_init_10 ⟨by decide, by decide⟩ ?_
  refine ev_pI 11 1 1 dX8_init_11 fp_X8_15 ((nwL_o (by omega)).trans hk) rfl rfl ?_
  refine ev_aload_0 14 dX8_init_14 ?_
  refine ev_bipush 15 dX8_init_15 ⟨by decide, by decide⟩ ?_
  refine Ev.mono (bc' := 5 + 1) (bs' := 34 + 6) (by omega) (by omega) ?_
  refine ev_newI 17 dX8_init_17 (Or.inr (Or.inr (Or.inl ⟨rfl, rfl⟩))) ac_int ⟨by omega, by omega⟩ (n' := 6) (bc := 5) (bs := 34) rfl ?_
  try simp only [nwL_snoc, nwL_app, List.cons_append, List.nil_append, nwL_n, hn, List.length_cons, List.length_nil, Nat.reduceAdd, Nat.zero_add]
  refine ev_pA 19 2 2 dX8_init_19 fp_X8_18 ((nwL_o (by omega)).trans hk) (Or.inl rfl) rfl rfl ?_
  refine ev_aload_0 22 dX8_init_22 ?_
  refine ev_bipush 23 dX8_init_23 ⟨by decide, by decide⟩ ?_
  refine Ev.mono (bc' := 4 + 1) (bs' := 28 + 6) (by omega) (by omega) ?_
  refine ev_newI 25 dX8_init_25 (Or.inl ⟨rfl, rfl⟩) ac_boolean ⟨by omega, by omega⟩ (n' := 6) (bc := 4) (bs := 28) rfl ?_
  try simp only [nwL_snoc, nwL_app, List.cons_append, List.nil_append, nwL_n, hn, List.length_cons, List.length_nil, Nat.reduceAdd, Nat.zero_add]
  refine ev_pA 27 3 3 dX8_init_27 fp_X8_22 ((nwL_o (by omega)).trans hk) (Or.inl rfl) rfl rfl ?_
  refine ev_aload_0 30 dX8_init_30 ?_
  refine ev_bipush 31 dX8_init_31 ⟨by decide, by decide⟩ ?_
  refine Ev.mono (bc' := 3 + 1) (bs' := 21 + 7) (by omega) (by omega) ?_
  refine ev_newI 33 dX8_init_33 (Or.inr (Or.inr (Or.inl ⟨rfl, rfl⟩))) ac_int ⟨by omega, by omega⟩ (n' := 7) (bc := 3) (bs := 21) rfl ?_
  try simp only [nwL_snoc, nwL_app, List.cons_append, List.nil_append, nwL_n, hn, List.length_cons, List.length_nil, Nat.reduceAdd, Nat.zero_add]
  refine ev_pA 35 4 4 dX8_init_35 fp_X8_26 ((nwL_o (by omega)).trans hk) (Or.inl rfl) rfl rfl ?_
  refine ev_aload_0 38 dX8_init_38 ?_
  refine ev_bipush 39 dX8_init_39 ⟨by decide, by decide⟩ ?_
  refine Ev.mono (bc' := 2 + 1) (bs' := 14 + 7) (by omega) (by omega) ?_
  refine ev_newI 41 dX8_init_41 (Or.inr (Or.inr (Or.inl ⟨rfl, rfl⟩))) ac_int ⟨by omega, by omega⟩ (n' := 7) (bc := 2) (bs := 14) rfl ?_
  try simp only [nwL_snoc, nwL_app, List.cons_append, List.nil_append, nwL_n, hn, List.length_cons, List.length_nil, Nat.reduceAdd, Nat.zero_add]
  refine ev_pA 43 5 5 dX8_init_43 fp_X8_29 ((nwL_o (by omega)).trans hk) (Or.inl rfl) rfl rfl ?_
  refine ev_aload_0 46 dX8_init_46 ?_
  refine ev_bipush 47 dX8_init_47 ⟨by decide, by decide⟩ ?_
  refine Ev.mono (bc' := 1 + 1) (bs' := 7 + 7) (by omega) (by omega) ?_
  refine ev_newI 49 dX8_init_49 (Or.inr (Or.inr (Or.inl ⟨rfl, rfl⟩))) ac_int ⟨by omega, by omega⟩ (n' := 7) (bc := 1) (bs := 7) rfl ?_
  try simp only [nwL_snoc, nwL_app, List.cons_append, List.nil_append, nwL_n, hn, List.length_cons, List.length_nil, Nat.reduceAdd, Nat.zero_add]
  refine ev_pA 51 6 6 dX8_init_51 fp_X8_32 ((nwL_o (by omega)).trans hk) (Or.inl rfl) rfl rfl ?_
  refine ev_aload_0 54 dX8_init_54 ?_
  refine ev_bipush 55 dX8_init_55 ⟨by decide, by decide⟩ ?_
  refine Ev.mono (bc' := 0 + 1) (bs' := 0 + 7) (by omega) (by omega) ?_
  refine ev_newI 57 dX8_init_57 (Or.inr (Or.inr (Or.inl ⟨rfl, rfl⟩))) ac_int ⟨by omega, by omega⟩ (n' := 7) (bc := 0) (bs := 0) rfl ?_
  try simp only [nwL_snoc, nwL_app, List.cons_append, List.nil_append, nwL_n, hn, List.length_cons, List.length_nil, Nat.reduceAdd, Nat.zero_add]
  refine ev_pA 59 7 7 dX8_init_59 fp_X8_35 ((nwL_o (by omega)).trans hk) (Or.inl rfl) rfl rfl ?_
  refine ev_vret 62 dX8_init_62 ?_ rfl
  exact QW_of ⟨rfl, rfl, fun c hc => by simp only [upI_A hc]⟩
theorem c_textI {l : Launch} {g : Gt} {d : Nat} {Z : Zt} {I : It} {P : Pt'} {a n : Nat} (hk : Z.1 a = 9) (hn : Z.2.2 = n) (ha : a < n) : Mt l g mX9_init (d + 1) 2 204 [vA a] Z I P (QW (fun Z' I' P' => Z' = nwL Z [(15, 200), (15, 4)] ∧ (P' = PL P [(a, 0, n), (a, 1, (n + 1))] ∧ I' a 3 = 0 ∧ ∀ c, c ≠ a → I' c = I c))) := by
  refine Mt.of kmX9_init (ls := [vA a]) (fun _ => rfl) (fun _ => rfl) (okf_k (okf_n rfl)) (fun hok => ?_)
  change Ev l g _ _ _ _ (nwL Z []) I P _ _ _ _
  refine ev_aload_0 0 dX9_init_0 ?_
  refine ev_objInit 1 dX9_init_1 oi_X9_3 oi_2 oi_3 ?_
  refine ev_aload_0 4 dX9_init_4 ?_
  refine ev_sipush 5 dX9_init_5 ⟨by decide, by decide⟩ ?_
  refine Ev.mono (bc' := 1 + 1) (bs' := 4 + 200) (by omega) (by omega) ?_
  refine ev_newI 8 dX9_init_8 (Or.inr (Or.inr (Or.inl ⟨rfl, rfl⟩))) ac_int ⟨by omega, by omega⟩ (n' := 200) (bc := 1) (bs := 4) rfl ?_
  try simp only [nwL_snoc, nwL_app, List.cons_append, List.nil_append, nwL_n, hn, List.length_cons, List.length_nil, Nat.reduceAdd, Nat.zero_add]
  refine ev_pA 10 0 0 dX9_init_10 fp_X9_9 ((nwL_o (by omega)).trans hk) (Or.inl rfl) rfl rfl ?_
  refine ev_aload_0 13 dX9_init_13 ?_
  refine ev_iconst 14 dX9_init_14 ⟨by decide, by decide⟩ ?_
  refine Ev.mono (bc' := 0 + 1) (bs' := 0 + 4) (by omega) (by omega) ?_
  refine ev_newI 15 dX9_init_15 (Or.inr (Or.inr (Or.inl ⟨rfl, rfl⟩))) ac_int ⟨by omega, by omega⟩ (n' := 4) (bc := 0) (bs := 0) rfl ?_
  try simp only [nwL_snoc, nwL_app, List.cons_append, List.nil_append, nwL_n, hn, List.length_cons, List.length_nil, Nat.reduceAdd, Nat.zero_add]
  refine ev_pA 17 1 1 dX9_init_17 fp_X9_15 ((nwL_o (by omega)).trans hk) (Or.inl rfl) rfl rfl ?_
  refine ev_aload_0 20 dX9_init_20 ?_
  refine ev_iconst 21 dX9_init_21 ⟨by decide, by decide⟩ ?_
  refine ev_pI 22 2 2 dX9_init_22 fp_X9_18 ((nwL_o (by omega)).trans hk) rfl rfl ?_
  refine ev_aload_0 25 dX9_init_25 ?_
  refine ev_iconst 26 dX9_init_26 ⟨by decide, by decide⟩ ?_
  refine ev_pI 27 3 3 dX9_init_27 fp_X9_22 ((nwL_o (by omega)).trans hk) rfl rfl ?_
  refine ev_vret 30 dX9_init_30 ?_ rfl
  exact QW_of ⟨rfl, rfl, by simp only [upI_s], fun c hc => by simp only [upI_A hc]⟩
theorem c_driftsI {l : Launch} {g : Gt} {d : Nat} {Z : Zt} {I : It} {P : Pt'} {a n : Nat} (hk : Z.1 a = 1) (hn : Z.2.2 = n) (ha : a < n) : Mt l g mX1_init (d + 1) 4 24 [vA a] Z I P (QW (fun Z' I' P' => Z' = nwL Z [(15, 6), (15, 6), (15, 6), (15, 6)] ∧ (P' = PL P [(a, 0, n), (a, 1, (n + 1)), (a, 2, (n + 2)), (a, 3, (n + 3))] ∧ ∀ c, c ≠ a → I' c = I c))) := by
  refine Mt.of kmX1_init (ls := [vA a]) (fun _ => rfl) (fun _ => rfl) (okf_k (okf_n rfl)) (fun hok => ?_)
  change Ev l g _ _ _ _ (nwL Z []) I P _ _ _ _
  refine ev_aload_0 0 dX1_init_0 ?_
  refine ev_objInit 1 dX1_init_1 oi_X1_3 oi_2 oi_3 ?_
  refine ev_aload_0 4 dX1_init_4 ?_
  refine ev_bipush 5 dX1_init_5 ⟨by decide, by decide⟩ ?_
  refine Ev.mono (bc' := 3 + 1) (bs' := 18 + 6) (by omega) (by omega) ?_
  refine ev_newI 7 dX1_init_7 (Or.inr (Or.inr (Or.inl ⟨rfl, rfl⟩))) ac_int ⟨by omega, by omega⟩ (n' := 6) (bc := 3) (bs := 18) rfl ?_
  try simp only [nwL_snoc, nwL_app, List.cons_append, List.nil_append, nwL_n, hn, List.length_cons, List.length_nil, Nat.reduceAdd, Nat.zero_add]
  refine ev_pA 9 0 0 dX1_init_9 fp_X1_9 ((nwL_o (by omega)).trans hk) (Or.inl rfl) rfl rfl ?_
  refine ev_aload_0 12 dX1_init_12 ?_
  refine ev_bipush 13 dX1_init_13 ⟨by decide, by decide⟩ ?_
  refine Ev.mono (bc' := 2 + 1) (bs' := 12 + 6) (by omega) (by omega) ?_
  refine ev_newI 15 dX1_init_15 (Or.inr (Or.inr (Or.inl ⟨rfl, rfl⟩))) ac_int ⟨by omega, by omega⟩ (n' := 6) (bc := 2) (bs := 12) rfl ?_
  try simp only [nwL_snoc, nwL_app, List.cons_append, List.nil_append, nwL_n, hn, List.length_cons, List.length_nil, Nat.reduceAdd, Nat.zero_add]
  refine ev_pA 17 1 1 dX1_init_17 fp_X1_15 ((nwL_o (by omega)).trans hk) (Or.inl rfl) rfl rfl ?_
  refine ev_aload_0 20 dX1_init_20 ?_
  refine ev_bipush 21 dX1_init_21 ⟨by decide, by decide⟩ ?_
  refine Ev.mono (bc' := 1 + 1) (bs' := 6 + 6) (by omega) (by omega) ?_
  refine ev_newI 23 dX1_init_23 (Or.inr (Or.inr (Or.inl ⟨rfl, rfl⟩))) ac_int ⟨by omega, by omega⟩ (n' := 6) (bc := 1) (bs := 6) rfl ?_
  try simp only [nwL_snoc, nwL_app, List.cons_append, List.nil_append, nwL_n, hn, List.length_cons, List.length_nil, Nat.reduceAdd, Nat.zero_add]
  refine ev_pA 25 2 2 dX1_init_25 fp_X1_18 ((nwL_o (by omega)).trans hk) (Or.inl rfl) rfl rfl ?_
  refine ev_aload_0 28 dX1_init_28 ?_
  refine ev_bipush 29 dX1_init_29 ⟨by decide, by decide⟩ ?_
  refine Ev.mono (bc' := 0 + 1) (bs' := 0 + 6) (by omega) (by omega) ?_
  refine ev_newI 31 dX1_init_31 (Or.inr (Or.inr (Or.inl ⟨rfl, rfl⟩))) ac_int ⟨by omega, by omega⟩ (n' := 6) (bc := 0) (bs := 0) rfl ?_
  try simp only [nwL_snoc, nwL_app, List.cons_append, List.nil_append, nwL_n, hn, List.length_cons, List.length_nil, Nat.reduceAdd, Nat.zero_add]
  refine ev_pA 33 3 3 dX1_init_33 fp_X1_21 ((nwL_o (by omega)).trans hk) (Or.inl rfl) rfl rfl ?_
  refine ev_aload_0 36 dX1_init_36 ?_
  refine ev_iconst 37 dX1_init_37 ⟨by decide, by decide⟩ ?_
  refine ev_pI 38 4 4 dX1_init_38 fp_X1_24 ((nwL_o (by omega)).trans hk) rfl rfl ?_
  refine ev_vret 41 dX1_init_41 ?_ rfl
  exact QW_of ⟨rfl, rfl, fun c hc => by simp only [upI_A hc]⟩
theorem c_drifterI {l : Launch} {g : Gt} {d : Nat} {Z : Zt} {I : It} {P : Pt'} {a n sa : Nat} (hk : Z.1 a = 0) (hn : Z.2.2 = n) (ha : a < n) : Mt l g mX0_init (d + 1) 0 0 [vA a, vA sa] Z I P (QW (fun Z' I' P' => Z' = nwL Z [] ∧ (P' = PL P [(a, 0, sa)] ∧ ∀ c, c ≠ a → I' c = I c))) := by
  refine Mt.of kmX0_init (ls := [vA a, vA sa]) (fun _ => rfl) (fun _ => rfl) (okf_k (okf_k (okf_n rfl))) (fun hok => ?_)
  change Ev l g _ _ _ _ (nwL Z []) I P _ _ _ _
  refine ev_aload_0 0 dX0_init_0 ?_
  refine ev_objInit 1 dX0_init_1 oi_X0_3 oi_2 oi_3 ?_
  refine ev_aload_0 4 dX0_init_4 ?_
  refine ev_iconst 5 dX0_init_5 ⟨by decide, by decide⟩ ?_
  refine ev_pI 6 1 1 dX0_init_6 fp_X0_9 ((nwL_o (by omega)).trans hk) rfl rfl ?_
  refine ev_aload_0 9 dX0_init_9 ?_
  refine ev_iconst 10 dX0_init_10 ⟨by decide, by decide⟩ ?_
  refine ev_pI 11 2 2 dX0_init_11 fp_X0_15 ((nwL_o (by omega)).trans hk) rfl rfl ?_
  refine ev_aload_0 14 dX0_init_14 ?_
  refine ev_iconst 15 dX0_init_15 ⟨by decide, by decide⟩ ?_
  refine ev_pI 16 3 3 dX0_init_16 fp_X0_18 ((nwL_o (by omega)).trans hk) rfl rfl ?_
  refine ev_aload_0 19 dX0_init_19 ?_
  refine ev_bipush 20 dX0_init_20 ⟨by decide, by decide⟩ ?_
  refine ev_pI 22 4 4 dX0_init_22 fp_X0_21 ((nwL_o (by omega)).trans hk) rfl rfl ?_
  refine ev_aload_0 25 dX0_init_25 ?_
  refine ev_aload_1 26 dX0_init_26 ?_
  refine ev_pA 27 0 0 dX0_init_27 fp_X0_24 ((nwL_o (by omega)).trans hk) (Or.inl rfl) rfl rfl ?_
  refine ev_vret 30 dX0_init_30 ?_ rfl
  exact QW_of ⟨rfl, rfl, fun c hc => by simp only [upI_A hc]⟩
theorem c_hearingI {l : Launch} {g : Gt} {d : Nat} {Z : Zt} {I : It} {P : Pt'} {a n sa so : Nat} (hk : Z.1 a = 2) (hn : Z.2.2 = n) (ha : a < n) : Mt l g mX2_init (d + 1) 2 12 [vA a, vA sa, vA so] Z I P (QW (fun Z' I' P' => Z' = nwL Z [(15, 6), (15, 6)] ∧ (P' = PL P [(a, 2, n), (a, 3, (n + 1)), (a, 0, sa), (a, 1, so)] ∧ ∀ c, c ≠ a → I' c = I c))) := by
  refine Mt.of kmX2_init (ls := [vA a, vA sa, vA so]) (fun _ => rfl) (fun _ => rfl) (okf_k (okf_k (okf_k (okf_n rfl)))) (fun hok => ?_)
  change Ev l g _ _ _ _ (nwL Z []) I P _ _ _ _
  refine ev_aload_0 0 dX2_init_0 ?_
  refine ev_objInit 1 dX2_init_1 oi_X2_3 oi_2 oi_3 ?_
  refine ev_aload_0 4 dX2_init_4 ?_
  refine ev_bipush 5 dX2_init_5 ⟨by decide, by decide⟩ ?_
  refine Ev.mono (bc' := 1 + 1) (bs' := 6 + 6) (by omega) (by omega) ?_
  refine ev_newI 7 dX2_init_7 (Or.inr (Or.inr (Or.inl ⟨rfl, rfl⟩))) ac_int ⟨by omega, by omega⟩ (n' := 6) (bc := 1) (bs := 6) rfl ?_
  try simp only [nwL_snoc, nwL_app, List.cons_append, List.nil_append, nwL_n, hn, List.length_cons, List.length_nil, Nat.reduceAdd, Nat.zero_add]
  refine ev_pA 9 2 2 dX2_init_9 fp_X2_9 ((nwL_o (by omega)).trans hk) (Or.inl rfl) rfl rfl ?_
  refine ev_aload_0 12 dX2_init_12 ?_
  refine ev_bipush 13 dX2_init_13 ⟨by decide, by decide⟩ ?_
  refine Ev.mono (bc' := 0 + 1) (bs' := 0 + 6) (by omega) (by omega) ?_
  refine ev_newI 15 dX2_init_15 (Or.inr (Or.inr (Or.inl ⟨rfl, rfl⟩))) ac_int ⟨by omega, by omega⟩ (n' := 6) (bc := 0) (bs := 0) rfl ?_
  try simp only [nwL_snoc, nwL_app, List.cons_append, List.nil_append, nwL_n, hn, List.length_cons, List.length_nil, Nat.reduceAdd, Nat.zero_add]
  refine ev_pA 17 3 3 dX2_init_17 fp_X2_15 ((nwL_o (by omega)).trans hk) (Or.inl rfl) rfl rfl ?_
  refine ev_aload_0 20 dX2_init_20 ?_
  refine ev_iconst 21 dX2_init_21 ⟨by decide, by decide⟩ ?_
  refine ev_pI 22 4 4 dX2_init_22 fp_X2_18 ((nwL_o (by omega)).trans hk) rfl rfl ?_
  refine ev_aload_0 25 dX2_init_25 ?_
  refine ev_iconst 26 dX2_init_26 ⟨by decide, by decide⟩ ?_
  refine ev_pI 27 5 5 dX2_init_27 fp_X2_22 ((nwL_o (by omega)).trans hk) rfl rfl ?_
  refine ev_aload_0 30 dX2_init_30 ?_
  refine ev_bipush 31 dX2_init_31 ⟨by decide, by decide⟩ ?_
  refine ev_pI 33 6 6 dX2_init_33 fp_X2_25 ((nwL_o (by omega)).trans hk) rfl rfl ?_
  refine ev_aload_0 36 dX2_init_36 ?_
  refine ev_aload_1 37 dX2_init_37 ?_
  refine ev_pA 38 0 0 dX2_init_38 fp_X2_28 ((nwL_o (by omega)).trans hk) (Or.inl rfl) rfl rfl ?_
  refine ev_aload_0 41 dX2_init_41 ?_
  refine ev_aload_2 42 dX2_init_42 ?_
  refine ev_pA 43 1 1 dX2_init_43 fp_X2_32 ((nwL_o (by omega)).trans hk) (Or.inl rfl) rfl rfl ?_
  refine ev_vret 46 dX2_init_46 ?_ rfl
  exact QW_of ⟨rfl, rfl, fun c hc => by simp only [upI_A hc]⟩
theorem c_movesI {l : Launch} {g : Gt} {d : Nat} {Z : Zt} {I : It} {P : Pt'} {a n sa so : Nat} (hk : Z.1 a = 3) (hn : Z.2.2 = n) (ha : a < n) : Mt l g mX3_init (d + 1) 2 12 [vA a, vA sa, vA so] Z I P (QW (fun Z' I' P' => Z' = nwL Z [(15, 6), (17, 6)] ∧ (P' = PL P [(a, 2, n), (a, 3, (n + 1)), (a, 0, sa), (a, 1, so)] ∧ ∀ c, c ≠ a → I' c = I c))) := by
  refine Mt.of kmX3_init (ls := [vA a, vA sa, vA so]) (fun _ => rfl) (fun _ => rfl) (okf_k (okf_k (okf_k (okf_n rfl)))) (fun hok => ?_)
  change Ev l g _ _ _ _ (nwL Z []) I P _ _ _ _
  refine ev_aload_0 0 dX3_init_0 ?_
  refine ev_objInit 1 dX3_init_1 oi_X3_3 oi_2 oi_3 ?_
  refine ev_aload_0 4 dX3_init_4 ?_
  refine ev_bipush 5 dX3_init_5 ⟨by decide, by decide⟩ ?_
  refine Ev.mono (bc' := 1 + 1) (bs' := 6 + 6) (by omega) (by omega) ?_
  refine ev_newI 7 dX3_init_7 (Or.inr (Or.inr (Or.inl ⟨rfl, rfl⟩))) ac_int ⟨by omega, by omega⟩ (n' := 6) (bc := 1) (bs := 6) rfl ?_
  try simp only [nwL_snoc, nwL_app, List.cons_append, List.nil_append, nwL_n, hn, List.length_cons, List.length_nil, Nat.reduceAdd, Nat.zero_add]
  refine ev_pA 9 2 2 dX3_init_9 fp_X3_9 ((nwL_o (by omega)).trans hk) (Or.inl rfl) rfl rfl ?_
  refine ev_aload_0 12 dX3_init_12 ?_
  refine ev_bipush 13 dX3_init_13 ⟨by decide, by decide⟩ ?_
  refine Ev.mono (bc' := 0 + 1) (bs' := 0 + 6) (by omega) (by omega) ?_
  refine ev_newR 15 dX3_init_15 (Or.inl ⟨rfl, rfl⟩) cl_X3_15 ao_5 ⟨by omega, by omega⟩ (n' := 6) (bc := 0) (bs := 0) rfl ?_
  try simp only [nwL_snoc, nwL_app, List.cons_append, List.nil_append, nwL_n, hn, List.length_cons, List.length_nil, Nat.reduceAdd, Nat.zero_add]
  refine ev_pA 18 3 3 dX3_init_18 fp_X3_17 ((nwL_o (by omega)).trans hk) (Or.inl rfl) rfl rfl ?_
  refine ev_aload_0 21 dX3_init_21 ?_
  refine ev_iconst 22 dX3_init_22 ⟨by decide, by decide⟩ ?_
  refine ev_pI 23 4 4 dX3_init_23 fp_X3_21 ((nwL_o (by omega)).trans hk) rfl rfl ?_
  refine ev_aload_0 26 dX3_init_26 ?_
  refine ev_bipush 27 dX3_init_27 ⟨by decide, by decide⟩ ?_
  refine ev_pI 29 5 5 dX3_init_29 fp_X3_25 ((nwL_o (by omega)).trans hk) rfl rfl ?_
  refine ev_aload_0 32 dX3_init_32 ?_
  refine ev_bipush 33 dX3_init_33 ⟨by decide, by decide⟩ ?_
  refine ev_pI 35 6 6 dX3_init_35 fp_X3_28 ((nwL_o (by omega)).trans hk) rfl rfl ?_
  refine ev_aload_0 38 dX3_init_38 ?_
  refine ev_bipush 39 dX3_init_39 ⟨by decide, by decide⟩ ?_
  refine ev_pI 41 7 7 dX3_init_41 fp_X3_31 ((nwL_o (by omega)).trans hk) rfl rfl ?_
  refine ev_aload_0 44 dX3_init_44 ?_
  refine ev_aload_1 45 dX3_init_45 ?_
  refine ev_pA 46 0 0 dX3_init_46 fp_X3_34 ((nwL_o (by omega)).trans hk) (Or.inl rfl) rfl rfl ?_
  refine ev_aload_0 49 dX3_init_49 ?_
  refine ev_aload_2 50 dX3_init_50 ?_
  refine ev_pA 51 1 1 dX3_init_51 fp_X3_38 ((nwL_o (by omega)).trans hk) (Or.inl rfl) rfl rfl ?_
  refine ev_vret 54 dX3_init_54 ?_ rfl
  exact QW_of ⟨rfl, rfl, fun c hc => by simp only [upI_A hc]⟩
theorem c_seaI {l : Launch} {g : Gt} {d : Nat} {Z : Zt} {I : It} {P : Pt'} {a n : Nat} (hk : Z.1 a = 6) (hn : Z.2.2 = n) (ha : a < n) : Mt l g mX6_init (d + 2) 20 144 [vA a] Z I P (QW (fun Z' I' P' => Z' = nwL Z [(10, 0), (15, 8), (15, 8), (15, 8), (15, 6), (15, 6), (15, 6), (15, 6), (15, 8), (15, 8), (15, 5), (15, 5), (15, 5), (8, 0), (15, 6), (13, 6), (15, 7), (15, 7), (15, 7), (15, 7)] ∧ (P' = PL P [(n, 2, (n + 1)), (n, 3, (n + 2)), (n, 4, (n + 3)), (n, 6, (n + 4)), (n, 7, (n + 5)), (n, 8, (n + 6)), (n, 9, (n + 7)), (n, 11, (n + 8)), (n, 12, (n + 9)), (n, 14, (n + 10)), (n, 15, (n + 11)), (n, 16, (n + 12)), (a, 0, n), ((n + 13), 2, (n + 14)), ((n + 13), 3, (n + 15)), ((n + 13), 4, (n + 16)), ((n + 13), 5, (n + 17)), ((n + 13), 6, (n + 18)), ((n + 13), 7, (n + 19)), (a, 1, (n + 13))] ∧ ∀ c, c < n → I' c = I c))) := by
  refine Mt.of kmX6_init (ls := [vA a]) (fun _ => rfl) (fun _ => rfl) (okf_k (okf_n rfl)) (fun hok => ?_)
  change Ev l g _ _ _ _ (nwL Z []) I P _ _ _ _
  refine ev_aload_0 0 dX6_init_0 ?_
  refine ev_objInit 1 dX6_init_1 oi_X6_3 oi_2 oi_3 ?_
  refine ev_aload_0 4 dX6_init_4 ?_
  refine Ev.mono (bc' := 19 + 1) (bs' := 127 + 17) (by omega) (by omega) ?_
  refine ev_new 5 dX6_init_5 ck_10 cl_X6_9 in_10 ii_10 (bc := 19) (bs := 127) ?_
  try simp only [nwL_snoc, nwL_app, List.cons_append, List.nil_append, nwL_n, hn, List.length_cons, List.length_nil, Nat.reduceAdd, Nat.zero_add]
  refine ev_dupA 8 dX6_init_8 ?_
  refine Ev.mono (bc' := 7 + 12) (bs' := 48 + 79) (by omega) (by omega) ?_
  refine ev_cIx_0 9 dX6_init_9 kmX10_init lk_X6_11 (c_toldI (n := (n + 1)) (nwKn (i := 0) hn (by decide)) (by simp only [nwL_n, hn, List.length_cons, List.length_nil, Nat.reduceAdd, Nat.zero_add]) (by omega)) rfl rfl rfl rfl (fun I9 P9 f9 => ?_)
  try simp only [nwL_snoc, nwL_app, List.cons_append, List.nil_append, nwL_n, hn, List.length_cons, List.length_nil, Nat.reduceAdd, Nat.zero_add]
  obtain ⟨rfl, g9⟩ := f9
  refine ev_pA 12 0 0 dX6_init_12 fp_X6_12 ((nwL_o (by omega)).trans hk) (Or.inl rfl) rfl rfl ?_
  refine ev_aload_0 15 dX6_init_15 ?_
  refine Ev.mono (bc' := 6 + 1) (bs' := 40 + 8) (by omega) (by omega) ?_
  refine ev_new 16 dX6_init_16 ck_8 cl_X6_18 in_8 ii_8 (bc := 6) (bs := 40) ?_
  try simp only [nwL_snoc, nwL_app, List.cons_append, List.nil_append, nwL_n, hn, List.length_cons, List.length_nil, Nat.reduceAdd, Nat.zero_add]
  refine ev_dupA 19 dX6_init_19 ?_
  refine Ev.mono (bc' := 0 + 6) (bs' := 0 + 40) (by omega) (by omega) ?_
  refine ev_cIx_0 20 dX6_init_20 kmX8_init lk_X6_20 (c_stateI (n := (n + 14)) (nwKn (i := 13) hn (by decide)) (by simp only [nwL_n, hn, List.length_cons, List.length_nil, Nat.reduceAdd, Nat.zero_add]) (by omega)) rfl rfl rfl rfl (fun I20 P20 f20 => ?_)
  try simp only [nwL_snoc, nwL_app, List.cons_append, List.nil_append, nwL_n, hn, List.length_cons, List.length_nil, Nat.reduceAdd, Nat.zero_add]
  obtain ⟨rfl, g20⟩ := f20
  refine ev_pA 23 1 1 dX6_init_23 fp_X6_21 ((nwL_o (by omega)).trans hk) (Or.inl rfl) rfl rfl ?_
  refine ev_vret 26 dX6_init_26 ?_ rfl
  exact QW_of ⟨rfl, rfl, fun c hc => by rw [g20 c (by omega), g9 c (by omega)]⟩
def sBl : List (Nat × Int) := [(8, 0), (15, 6), (13, 6), (15, 7), (15, 7), (15, 7), (15, 7)]
def stL : Nat → List (Nat × Int)
  | 0 => []
  | i + 1 => stL i ++ sBl
def sPl (b : Nat) : List (Nat × Int × Nat) := [(b, 2, b + 1), (b, 3, b + 1 + 1), (b, 4, b + 1 + 2), (b, 5, b + 1 + 3), (b, 6, b + 1 + 4), (b, 7, b + 1 + 5)]
def stP (t : Nat) : Nat → List (Nat × Int × Nat)
  | 0 => []
  | i + 1 => stP t i ++ (sPl (t + 1 + 7 * i) ++ [(t, (i : Int), t + 1 + 7 * i)])
theorem stL_len : ∀ i, (stL i).length = 7 * i
  | 0 => rfl
  | i + 1 => by show (stL i ++ sBl).length = _; rw [List.length_append, stL_len i]; show 7 * i + 7 = _; omega
theorem stP_ge (t : Nat) : ∀ i, ∀ q ∈ stP t i, t ≤ q.1
  | 0, q, h => by cases h
  | i + 1, q, h => by
    rcases List.mem_append.mp h with h | h
    · exact stP_ge t i q h
    · rcases List.mem_append.mp h with h | h
      · simp only [sPl, List.mem_cons, List.not_mem_nil, or_false] at h
        rcases h with rfl | rfl | rfl | rfl | rfl | rfl <;> (show t ≤ t + 1 + 7 * i; omega)
      · simp only [List.mem_cons, List.not_mem_nil, or_false] at h
        subst h; exact Nat.le_refl _
theorem PL_app (P : Pt') (l l' : List (Nat × Int × Nat)) : PL (PL P l) l' = PL P (l ++ l') := by unfold PL; rw [List.foldl_append]
theorem PL_up (P : Pt') (l : List (Nat × Int × Nat)) (a : Nat) (k : Int) (b : Nat) : upP (PL P l) a k (some b) = PL P (l ++ [(a, k, b)]) := by unfold PL; rw [List.foldl_append]; rfl
theorem PL_o {P : Pt'} {l : List (Nat × Int × Nat)} {a : Nat} (h : ∀ q ∈ l, q.1 ≠ a) : PL P l a = P a := by
  induction l generalizing P with
  | nil => rfl
  | cons q l ih =>
    show PL (upP P q.1 q.2.1 (some q.2.2)) l a = _
    rw [ih (fun q' h' => h q' (List.mem_cons_of_mem _ h')), upP_A (fun e => h q List.mem_cons_self e.symm)]
theorem c_pastI {l : Launch} {g : Gt} {d : Nat} {Z : Zt} {I : It} {P : Pt'} {a n m : Nat} {M : Int} (hM : M = (m : Int)) (hm : 1 ≤ m ∧ m ≤ 8) (hk : Z.1 a = 4) (hn : Z.2.2 = n) (ha : a < n) : Mt l g mX4_init (d + 2) (1 + 7 * m) (m + 48 * m) [vA a, vI M] Z I P (QW (fun Z' I' P' => Z' = nwL Z ((18, M) :: stL m) ∧ (P' = PL P ((a, 0, n) :: stP n m) ∧ ∀ c, c < n → c ≠ a → I' c = I c))) := by
  refine Mt.of kmX4_init (ls := [vA a, vI M, vX]) (fun _ => rfl) (fun _ => rfl) (okf_k (okf_k (okf_n rfl))) (fun hok => ?_)
  change Ev l g _ _ _ _ (nwL Z []) I P _ _ _ _
  have loop : ∀ (k i : Nat) (I1 : It), i + k = m → (∀ c, c < n → c ≠ a → I1 c = I c) → Ev l g mX4_init (d + 2) (7 * k) (48 * k) (nwL Z ((18, M) :: stL i)) I1 (PL P ((a, 0, n) :: stP n i)) 28 [vA a, vI M, vI (i : Int)] [] (QW (fun Z' I' P' => Z' = nwL Z ((18, M) :: stL m) ∧ (P' = PL P ((a, 0, n) :: stP n m) ∧ ∀ c, c < n → c ≠ a → I' c = I c))) := by
    intro k
    induction k with
    | zero =>
      intro i I1 h1 h2
      obtain rfl : i = m := by omega
      have hpl : PL P ((a, 0, n) :: stP n i) a 0 = some n := by
        show PL (upP P a 0 (some n)) (stP n i) a 0 = some n
        rw [PL_o (fun q hq => by have := stP_ge n i q hq; omega), upP_s]
      have hln : (nwL Z ((18, M) :: stL i)).2.1 n = M := nwLn (i := 0) hn (by simp)
      refine ev_iload_2 28 dX4_init_28 ?_
      refine ev_aload_0 29 dX4_init_29 ?_
      refine ev_getA 30 0 dX4_init_30 fa_X4_24 ((nwL_o (by omega)).trans hk) hpl rfl ?_
      refine ev_alen 33 dX4_init_33 (show (nwL Z ((18, M) :: stL i)).1 n = 18 from nwKn (i := 0) hn (by simp)) rfl rfl ?_
      rw [show _ = _ from hln]
      refine ev_icmp_ge 34 56 dX4_init_34 rfl (fun h34 => ?_) (fun h34 => ?_)
      · refine ev_vret 56 dX4_init_56 ?_ rfl
        exact QW_of ⟨rfl, rfl, h2⟩
      · exfalso; omega
    | succ k ih =>
      intro i I1 h1 h2
      have hpl : PL P ((a, 0, n) :: stP n i) a 0 = some n := by
        show PL (upP P a 0 (some n)) (stP n i) a 0 = some n
        rw [PL_o (fun q hq => by have := stP_ge n i q hq; omega), upP_s]
      have hln : (nwL Z ((18, M) :: stL i)).2.1 n = M := nwLn (i := 0) hn (by simp)
      refine ev_iload_2 28 dX4_init_28 ?_
      refine ev_aload_0 29 dX4_init_29 ?_
      refine ev_getA 30 0 dX4_init_30 fa_X4_24 ((nwL_o (by omega)).trans hk) hpl rfl ?_
      refine ev_alen 33 dX4_init_33 (show (nwL Z ((18, M) :: stL i)).1 n = 18 from nwKn (i := 0) hn (by simp)) rfl rfl ?_
      rw [show _ = _ from hln]
      refine ev_icmp_ge 34 56 dX4_init_34 rfl (fun h34 => ?_) (fun h34 => ?_)
      · exfalso; omega
      · refine ev_aload_0 37 dX4_init_37 ?_
        refine ev_getA 38 0 dX4_init_38 fa_X4_24 ((nwL_o (by omega)).trans hk) hpl rfl ?_
        refine ev_iload_2 41 dX4_init_41 ?_
        refine Ev.mono (bc' := 7 * k + 6 + 1) (bs' := 48 * k + 40 + 8) (by omega) (by omega) ?_
        refine ev_new 42 dX4_init_42 ck_8 cl_X4_22 in_8 ii_8 ?_
        have hb : (nwL Z ((18, M) :: stL i)).2.2 = n + 1 + 7 * i := by rw [nwL_n, hn, List.length_cons, stL_len]; omega
        have hk8 : (nwZ (nwL Z ((18, M) :: stL i)) 8 0).1 (nwL Z ((18, M) :: stL i)).2.2 = 8 := by show (if _ = _ then 8 else _) = 8; rw [if_pos rfl]
        rw [nwL_snoc, hb] at hk8
        rw [nwL_snoc, hb]
        have hb2 : (nwL Z ((18, M) :: stL i ++ [(8, 0)])).2.2 = n + 1 + 7 * i + 1 := by rw [nwL_n, hn, List.length_append, List.length_cons, stL_len]; show n + (7 * i + 1 + 1) = _; omega
        refine ev_dupA 45 dX4_init_45 ?_
        refine ev_cIx_0 46 dX4_init_46 kmX8_init lk_X4_28 (c_stateI (d := d) hk8 hb2 (by omega)) rfl rfl rfl rfl (fun I46 P46 f46 => ?_)
        obtain ⟨rfl, g46⟩ := f46
        have eL : (18, M) :: stL i ++ [(8, 0)] ++ [(15, 6), (13, 6), (15, 7), (15, 7), (15, 7), (15, 7)] = (18, M) :: stL (i + 1) := by
          show (18, M) :: ((stL i ++ [(8, 0)]) ++ _) = (18, M) :: (stL i ++ sBl)
          rw [List.append_assoc]; rfl
        have hk8' : (nwL Z ((18, M) :: stL (i + 1))).1 (n + 1 + 7 * i) = 8 := by rw [← eL, ← nwL_app, nwL_o (by omega)]; exact hk8
        have hkn : (nwL Z ((18, M) :: stL (i + 1))).1 n = 18 := nwKn (i := 0) hn (by simp)
        have hln' : (nwL Z ((18, M) :: stL (i + 1))).2.1 n = M := nwLn (i := 0) hn (by simp)
        rw [nwL_app, eL]
        refine ev_aast 49 dX4_init_49 hkn hk8' (Or.inr ⟨rfl, rfl⟩) ⟨by omega, by omega⟩ ?_
        refine ev_iinc_2 50 dX4_init_50 ⟨by omega, by omega⟩ rfl rfl ?_
        refine ev_goto 53 28 dX4_init_53 rfl ?_
        have eP : upP (PL (PL P ((a, 0, n) :: stP n i)) [(n + 1 + 7 * i, 2, n + 1 + 7 * i + 1), (n + 1 + 7 * i, 3, n + 1 + 7 * i + 1 + 1), (n + 1 + 7 * i, 4, n + 1 + 7 * i + 1 + 2), (n + 1 + 7 * i, 5, n + 1 + 7 * i + 1 + 3), (n + 1 + 7 * i, 6, n + 1 + 7 * i + 1 + 4), (n + 1 + 7 * i, 7, n + 1 + 7 * i + 1 + 5)]) n (i : Int) (some (n + 1 + 7 * i)) = PL P ((a, 0, n) :: stP n (i + 1)) := by
          rw [PL_app, PL_up, List.append_assoc]; rfl
        have hi : ((i : Int) + 1) = ((i + 1 : Nat) : Int) := by omega
        rw [eP, hi]
        exact Ev.mono (by omega) (by omega) (ih (i + 1) I46 (by omega) (fun c c1 c2 => by rw [g46 c (by omega)]; exact h2 c c1 c2))
  have hk0 : (nwL Z []).1 a = 4 := hk
  refine ev_aload_0 0 dX4_init_0 ?_
  refine ev_objInit 1 dX4_init_1 oi_X4_1 oi_2 oi_3 ?_
  refine ev_aload_0 4 dX4_init_4 ?_
  refine ev_iconst 5 dX4_init_5 ⟨by decide, by decide⟩ ?_
  refine ev_pI 6 1 1 dX4_init_6 fp_X4_7 hk0 rfl rfl ?_
  refine ev_aload_0 9 dX4_init_9 ?_
  refine ev_iconst 10 dX4_init_10 ⟨by decide, by decide⟩ ?_
  refine ev_pI 11 2 2 dX4_init_11 fp_X4_13 hk0 rfl rfl ?_
  refine ev_aload_0 14 dX4_init_14 ?_
  refine ev_iconst 15 dX4_init_15 ⟨by decide, by decide⟩ ?_
  refine ev_iload_1 16 dX4_init_16 ?_
  refine ev_cSp_2 17 dX4_init_17 kmJ9_max_7cf53 lk_X4_16 (c_max _ _) rfl rfl ?_
  try simp (disch := omega) only [upI_s, upI_a, upI_k]
  rw [show max 1 M = M by omega]
  refine Ev.mono (bc' := 7 * m + 1) (bs' := 48 * m + m) (by omega) (by omega) ?_
  refine ev_newR 20 dX4_init_20 (Or.inr ⟨rfl, rfl⟩) cl_X4_22 ao_8 ⟨by omega, by omega⟩ (n' := m) hM ?_
  have hz : (nwL Z []).2.2 = n := hn
  rw [hz]
  have hka : (nwZ (nwL Z []) 18 M).1 a = 4 := by show (if a = Z.2.2 then _ else Z.1 a) = 4; rw [if_neg (by omega)]; exact hk
  refine ev_pA 23 0 0 dX4_init_23 fp_X4_24 hka (Or.inl rfl) rfl rfl ?_
  refine ev_iconst 26 dX4_init_26 ⟨by decide, by decide⟩ ?_
  refine ev_istore_2 27 dX4_init_27 rfl rfl ?_
  exact loop m 0 _ (by omega) (fun c _ c2 => by simp only [upI_A c2])
theorem c_past8 {l : Launch} {g : Gt} {d : Nat} {Z : Zt} {I : It} {P : Pt'} {a n : Nat} (hk : Z.1 a = 4) (hn : Z.2.2 = n) (ha : a < n) : Mt l g mX4_init (d + 2) 57 392 [vA a, vI 8] Z I P (QW (fun Z' I' P' => Z' = nwL Z [(18, 8), (8, 0), (15, 6), (13, 6), (15, 7), (15, 7), (15, 7), (15, 7), (8, 0), (15, 6), (13, 6), (15, 7), (15, 7), (15, 7), (15, 7), (8, 0), (15, 6), (13, 6), (15, 7), (15, 7), (15, 7), (15, 7), (8, 0), (15, 6), (13, 6), (15, 7), (15, 7), (15, 7), (15, 7), (8, 0), (15, 6), (13, 6), (15, 7), (15, 7), (15, 7), (15, 7), (8, 0), (15, 6), (13, 6), (15, 7), (15, 7), (15, 7), (15, 7), (8, 0), (15, 6), (13, 6), (15, 7), (15, 7), (15, 7), (15, 7), (8, 0), (15, 6), (13, 6), (15, 7), (15, 7), (15, 7), (15, 7)] ∧ (P' = PL P ((a, 0, n) :: stP n 8) ∧ ∀ c, c < n → c ≠ a → I' c = I c))) := c_pastI (m := 8) rfl (by decide) hk hn ha
theorem c_past2 {l : Launch} {g : Gt} {d : Nat} {Z : Zt} {I : It} {P : Pt'} {a n : Nat} (hk : Z.1 a = 4) (hn : Z.2.2 = n) (ha : a < n) : Mt l g mX4_init (d + 2) 15 98 [vA a, vI 2] Z I P (QW (fun Z' I' P' => Z' = nwL Z [(18, 2), (8, 0), (15, 6), (13, 6), (15, 7), (15, 7), (15, 7), (15, 7), (8, 0), (15, 6), (13, 6), (15, 7), (15, 7), (15, 7), (15, 7)] ∧ (P' = PL P ((a, 0, n) :: stP n 2) ∧ ∀ c, c < n → c ≠ a → I' c = I c))) := c_pastI (m := 2) rfl (by decide) hk hn ha
theorem c_rowX {l : Launch} {g : Gt} {d : Nat} {Z : Zt} {I : It} {P : Pt'} {a n : Nat} (hk : Z.1 a = 5) (hn : Z.2.2 = n) (ha : a < n) : Mt l g mX5_init (d + 1) 1 192 [vA a] Z I P (QW (fun Z' I' P' => Z' = nwL Z [(15, 192)] ∧ (P' = PL P [(a, 0, n)] ∧ ∀ c, c ≠ a → I' c = I c))) :=
  Mt.mono (c_rowI hk (by omega)) (fun r Z' I' P' h => by
    obtain ⟨h0, rfl, rfl, rfl⟩ := h
    exact ⟨h0, rfl, by rw [hn]; rfl, fun c hc => upI_A hc⟩)
theorem c_soundI {l : Launch} {g : Gt} {d : Nat} {Z : Zt} {I : It} {P : Pt'} {a n sa : Nat} (hk : Z.1 a = 7) (hn : Z.2.2 = n) (ha : a < n) : Mt l g mX7_init (d + 2) 4 578 [vA a, vA sa] Z I P (QW (fun Z' I' P' => Z' = nwL Z [(17, 192), (5, 0), (15, 192), (13, 192)] ∧ (P' = PL P [(a, 1, n), ((n + 1), 0, (n + 2)), (a, 2, (n + 1)), (a, 3, (n + 3)), (a, 0, sa)] ∧ (∀ i, 0 ≤ i → i < 192 → I' (n + 2) i = 1000000) ∧ ∀ c, c < n → I' c = I c))) := by
  refine Mt.of kmX7_init (ls := [vA a, vA sa]) (fun _ => rfl) (fun _ => rfl) (okf_k (okf_k (okf_n rfl))) (fun hok => ?_)
  change Ev l g _ _ _ _ (nwL Z []) I P _ _ _ _
  refine ev_aload_0 0 dX7_init_0 ?_
  refine ev_objInit 1 dX7_init_1 oi_X7_3 oi_2 oi_3 ?_
  refine ev_aload_0 4 dX7_init_4 ?_
  refine ev_sipush 5 dX7_init_5 ⟨by decide, by decide⟩ ?_
  refine Ev.mono (bc' := 3 + 1) (bs' := 386 + 192) (by omega) (by omega) ?_
  refine ev_newR 8 dX7_init_8 (Or.inl ⟨rfl, rfl⟩) cl_X7_9 ao_5 ⟨by omega, by omega⟩ (n' := 192) (bc := 3) (bs := 386) rfl ?_
  try simp only [nwL_snoc, nwL_app, List.cons_append, List.nil_append, nwL_n, hn, List.length_cons, List.length_nil, Nat.reduceAdd, Nat.zero_add]
  refine ev_pA 11 1 1 dX7_init_11 fp_X7_11 ((nwL_o (by omega)).trans hk) (Or.inl rfl) rfl rfl ?_
  refine ev_aload_0 14 dX7_init_14 ?_
  refine Ev.mono (bc' := 2 + 1) (bs' := 384 + 2) (by omega) (by omega) ?_
  refine ev_new 15 dX7_init_15 ck_5 cl_X7_9 in_5 ii_5 (bc := 2) (bs := 384) ?_
  try simp only [nwL_snoc, nwL_app, List.cons_append, List.nil_append, nwL_n, hn, List.length_cons, List.length_nil, Nat.reduceAdd, Nat.zero_add]
  refine ev_dupA 18 dX7_init_18 ?_
  refine Ev.mono (bc' := 1 + 1) (bs' := 192 + 192) (by omega) (by omega) ?_
  refine ev_cIx_0 19 dX7_init_19 kmX5_init lk_X7_17 (c_rowX (n := (n + 2)) (nwKn (i := 1) hn (by decide)) (by simp only [nwL_n, hn, List.length_cons, List.length_nil, Nat.reduceAdd, Nat.zero_add]) (by omega)) rfl rfl rfl rfl (fun I19 P19 f19 => ?_)
  try simp only [nwL_snoc, nwL_app, List.cons_append, List.nil_append, nwL_n, hn, List.length_cons, List.length_nil, Nat.reduceAdd, Nat.zero_add]
  obtain ⟨rfl, g19⟩ := f19
  refine ev_pA 22 2 2 dX7_init_22 fp_X7_18 ((nwL_o (by omega)).trans hk) (Or.inl rfl) rfl rfl ?_
  refine ev_aload_0 25 dX7_init_25 ?_
  refine ev_sipush 26 dX7_init_26 ⟨by decide, by decide⟩ ?_
  refine Ev.mono (bc' := 0 + 1) (bs' := 0 + 192) (by omega) (by omega) ?_
  refine ev_newI 29 dX7_init_29 (Or.inl ⟨rfl, rfl⟩) ac_boolean ⟨by omega, by omega⟩ (n' := 192) (bc := 0) (bs := 0) rfl ?_
  try simp only [nwL_snoc, nwL_app, List.cons_append, List.nil_append, nwL_n, hn, List.length_cons, List.length_nil, Nat.reduceAdd, Nat.zero_add]
  refine ev_pA 31 3 3 dX7_init_31 fp_X7_22 ((nwL_o (by omega)).trans hk) (Or.inl rfl) rfl rfl ?_
  refine ev_aload_0 34 dX7_init_34 ?_
  refine ev_aload_1 35 dX7_init_35 ?_
  refine ev_pA 36 0 0 dX7_init_36 fp_X7_26 ((nwL_o (by omega)).trans hk) (Or.inl rfl) rfl rfl ?_
  refine ev_aload_0 39 dX7_init_39 ?_
  refine ev_getA 40 2 dX7_init_40 fa_X7_18 ((nwL_o (by omega)).trans hk) (b := n + 1) (by simp only [PL, List.foldl_cons, List.foldl_nil]; simp (disch := omega) only [upP_a, upP_k]; exact upP_s _ _ _ _) rfl ?_
  refine ev_cVv_0 43 dX7_init_43 kmX5_silence lk_X7_30 (nwKn (i := 1) hn (by decide)) (c_silence (⟨nwKn (i := 1) hn (by decide), (by simp only [PL, List.foldl_cons, List.foldl_nil]; simp (disch := omega) only [upP_s, upP_a, upP_k]), nwKn (i := 2) hn (by decide), nwLn (i := 2) hn (by decide)⟩ : RowAt _ _ (n + 1))) rfl rfl (fun I43 f43 => ?_)
  refine ev_vret 46 dX7_init_46 ?_ rfl
  exact QW_of ⟨rfl, rfl, fun i h1 h2 => f43.1 i h1 h2, fun c hc => by rw [f43.2 c (by omega), g19 c (by omega)]⟩
