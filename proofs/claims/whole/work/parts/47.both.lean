/-! both sides are made: the class at 0 to 130, the reference at 131 to 144 -/
def Lc : List (Nat × Int) := [(11, 0), (9, 0), (15, 200), (15, 4), (6, 0), (10, 0), (15, 8), (15, 8), (15, 8), (15, 6), (15, 6), (15, 6), (15, 6), (15, 8), (15, 8), (15, 5), (15, 5), (15, 5), (8, 0), (15, 6), (13, 6), (15, 7), (15, 7), (15, 7), (15, 7), (4, 0), (18, 8), (8, 0), (15, 6), (13, 6), (15, 7), (15, 7), (15, 7), (15, 7), (8, 0), (15, 6), (13, 6), (15, 7), (15, 7), (15, 7), (15, 7), (8, 0), (15, 6), (13, 6), (15, 7), (15, 7), (15, 7), (15, 7), (8, 0), (15, 6), (13, 6), (15, 7), (15, 7), (15, 7), (15, 7), (8, 0), (15, 6), (13, 6), (15, 7), (15, 7), (15, 7), (15, 7), (8, 0), (15, 6), (13, 6), (15, 7), (15, 7), (15, 7), (15, 7), (8, 0), (15, 6), (13, 6), (15, 7), (15, 7), (15, 7), (15, 7), (8, 0), (15, 6), (13, 6), (15, 7), (15, 7), (15, 7), (15, 7), (4, 0), (18, 2), (8, 0), (15, 6), (13, 6), (15, 7), (15, 7), (15, 7), (15, 7), (8, 0), (15, 6), (13, 6), (15, 7), (15, 7), (15, 7), (15, 7), (0, 0), (0, 0), (7, 0), (17, 192), (5, 0), (15, 192), (13, 192), (2, 0), (15, 6), (15, 6), (3, 0), (15, 6), (17, 6), (1, 0), (15, 6), (15, 6), (15, 6), (15, 6), (16, 10), (10, 0), (15, 8), (15, 8), (15, 8), (15, 6), (15, 6), (15, 6), (15, 6), (15, 8), (15, 8), (15, 5), (15, 5), (15, 5)]
def Pn : Pt' := fun _ _ => none
def Pc : Pt' := PL Pn [(1, 0, 2), (1, 1, 3), (0, 0, 1), (5, 2, 6), (5, 3, 7), (5, 4, 8), (5, 6, 9), (5, 7, 10), (5, 8, 11), (5, 9, 12), (5, 11, 13), (5, 12, 14), (5, 14, 15), (5, 15, 16), (5, 16, 17), (4, 0, 5), (18, 2, 19), (18, 3, 20), (18, 4, 21), (18, 5, 22), (18, 6, 23), (18, 7, 24), (4, 1, 18), (0, 1, 4), (25, 0, 26), (27, 2, 28), (27, 3, 29), (27, 4, 30), (27, 5, 31), (27, 6, 32), (27, 7, 33), (26, 0, 27), (34, 2, 35), (34, 3, 36), (34, 4, 37), (34, 5, 38), (34, 6, 39), (34, 7, 40), (26, 1, 34), (41, 2, 42), (41, 3, 43), (41, 4, 44), (41, 5, 45), (41, 6, 46), (41, 7, 47), (26, 2, 41), (48, 2, 49), (48, 3, 50), (48, 4, 51), (48, 5, 52), (48, 6, 53), (48, 7, 54), (26, 3, 48), (55, 2, 56), (55, 3, 57), (55, 4, 58), (55, 5, 59), (55, 6, 60), (55, 7, 61), (26, 4, 55), (62, 2, 63), (62, 3, 64), (62, 4, 65), (62, 5, 66), (62, 6, 67), (62, 7, 68), (26, 5, 62), (69, 2, 70), (69, 3, 71), (69, 4, 72), (69, 5, 73), (69, 6, 74), (69, 7, 75), (26, 6, 69), (76, 2, 77), (76, 3, 78), (76, 4, 79), (76, 5, 80), (76, 6, 81), (76, 7, 82), (26, 7, 76), (0, 2, 25), (83, 0, 84), (85, 2, 86), (85, 3, 87), (85, 4, 88), (85, 5, 89), (85, 6, 90), (85, 7, 91), (84, 0, 85), (92, 2, 93), (92, 3, 94), (92, 4, 95), (92, 5, 96), (92, 6, 97), (92, 7, 98), (84, 1, 92), (0, 3, 83), (99, 0, 4), (0, 4, 99), (100, 0, 4), (0, 5, 100), (101, 1, 102), (103, 0, 104), (101, 2, 103), (101, 3, 105), (101, 0, 4), (0, 6, 101), (106, 2, 107), (106, 3, 108), (106, 0, 4), (106, 1, 101), (0, 7, 106), (109, 2, 110), (109, 3, 111), (109, 0, 4), (109, 1, 101), (0, 8, 109), (112, 0, 113), (112, 1, 114), (112, 2, 115), (112, 3, 116), (0, 9, 112), (0, 10, 117), (118, 2, 119), (118, 3, 120), (118, 4, 121), (118, 6, 122), (118, 7, 123), (118, 8, 124), (118, 9, 125), (118, 11, 126), (118, 12, 127), (118, 14, 128), (118, 15, 129), (118, 16, 130), (0, 11, 118)]
theorem Pc_P : LayP Pc := by unfold LayP; decide +kernel
theorem Pc_4 : Pc 4 0 = some 5 := by decide +kernel
theorem Pc_0 : Pc 0 11 = some 118 := by decide +kernel
theorem Pc_102n : ∀ j : Nat, j < 192 → Pc 102 (j : Int) = none := by decide +kernel
theorem Pc_102 (j : Int) (a : 0 ≤ j) (b : j < 192) : Pc 102 j = none := by
  rw [show j = ((j.toNat : Nat) : Int) by omega]; exact Pc_102n _ (by omega)
theorem Lc_Z : LayC (nwL Z0 Lc) := fun a ha => ⟨by rw [nwK0 (show a < Lc.length from ha)]; revert a; decide +kernel, by rw [nwL0 (show a < Lc.length from ha)]; revert a; decide +kernel⟩
set_option maxRecDepth 20000 in
theorem c_X11_init {l : Launch} {g : Gt} {d : Nat} {I : It} : Mt l g mX11_init (d + 6) 130 1616 [vA 0] (nwL Z0 [(11, 0)]) I Pn (QW (fun Z' I' P' => Z' = nwL Z0 Lc ∧ (P' = upP (upP Pc 4 0 (some 118)) 0 11 (some 5) ∧ ∃ α, FS α ∧ SN0 118 α (nwL Z0 Lc) I' P' ∧ LD1 α I' ∧ I' 1 3 = 0))) := by
  refine Mt.of kmX11_init (ls := [vA 0, vX]) (fun _ => rfl) (fun _ => rfl) (okf_k (okf_n rfl)) (fun hok => ?_)
  have hn : Z0.2.2 = 0 := rfl
  refine ev_aload_0 0 dX11_init_0 ?_
  refine ev_objInit 1 dX11_init_1 oi_X11_3 oi_2 oi_3 ?_
  refine ev_aload_0 4 dX11_init_4 ?_
  refine Ev.mono (bc' := 129 + 1) (bs' := 1612 + 4) (by omega) (by omega) ?_
  refine ev_new 5 dX11_init_5 ck_9 cl_X11_9 in_9 ii_9 (bc := 129) (bs := 1612) ?_
  try simp only [nwL_snoc, nwL_app, List.cons_append, List.nil_append, nwL_n, hn, List.length_cons, List.length_nil, Nat.reduceAdd, Nat.zero_add]
  refine ev_dupA 8 dX11_init_8 ?_
  refine Ev.mono (bc' := 127 + 2) (bs' := 1408 + 204) (by omega) (by omega) ?_
  refine ev_cIx_0 9 dX11_init_9 kmX9_init lk_X11_11 (c_textI (n := 2) (nwK0 (a := 1) (by decide)) (by simp only [nwL_n, hn, List.length_cons, List.length_nil, Nat.reduceAdd, Nat.zero_add]) (by omega)) rfl rfl rfl rfl (fun I9 P9 f9 => ?_)
  try simp only [nwL_snoc, nwL_app, List.cons_append, List.nil_append, nwL_n, hn, List.length_cons, List.length_nil, Nat.reduceAdd, Nat.zero_add]
  obtain ⟨rfl, g9⟩ := f9
  refine ev_pA 12 0 0 dX11_init_12 fp_X11_12 (nwK0 (a := 0) (by decide)) (Or.inl rfl) rfl rfl ?_
  refine ev_aload_0 15 dX11_init_15 ?_
  refine Ev.mono (bc' := 126 + 1) (bs' := 1406 + 2) (by omega) (by omega) ?_
  refine ev_new 16 dX11_init_16 ck_6 cl_X11_16 in_6 ii_6 (bc := 126) (bs := 1406) ?_
  try simp only [nwL_snoc, nwL_app, List.cons_append, List.nil_append, nwL_n, hn, List.length_cons, List.length_nil, Nat.reduceAdd, Nat.zero_add]
  refine ev_dupA 19 dX11_init_19 ?_
  refine Ev.mono (bc' := 106 + 20) (bs' := 1262 + 144) (by omega) (by omega) ?_
  refine ev_cIx_0 20 dX11_init_20 kmX6_init lk_X11_18 (c_seaI (n := 5) (nwK0 (a := 4) (by decide)) (by simp only [nwL_n, hn, List.length_cons, List.length_nil, Nat.reduceAdd, Nat.zero_add]) (by omega)) rfl rfl rfl rfl (fun I20 P20 f20 => ?_)
  try simp only [nwL_snoc, nwL_app, List.cons_append, List.nil_append, nwL_n, hn, List.length_cons, List.length_nil, Nat.reduceAdd, Nat.zero_add]
  obtain ⟨rfl, g20⟩ := f20
  refine ev_pA 23 1 1 dX11_init_23 fp_X11_19 (nwK0 (a := 0) (by decide)) (Or.inl rfl) rfl rfl ?_
  refine ev_aload_0 26 dX11_init_26 ?_
  refine Ev.mono (bc' := 105 + 1) (bs' := 1259 + 3) (by omega) (by omega) ?_
  refine ev_new 27 dX11_init_27 ck_4 cl_X11_23 in_4 ii_4 (bc := 105) (bs := 1259) ?_
  try simp only [nwL_snoc, nwL_app, List.cons_append, List.nil_append, nwL_n, hn, List.length_cons, List.length_nil, Nat.reduceAdd, Nat.zero_add]
  refine ev_dupA 30 dX11_init_30 ?_
  refine ev_bipush 31 dX11_init_31 ⟨by decide, by decide⟩ ?_
  refine Ev.mono (bc' := 48 + 57) (bs' := 867 + 392) (by omega) (by omega) ?_
  refine ev_cIx_1 33 dX11_init_33 kmX4_init lk_X11_25 (c_past8 (n := 26) (nwK0 (a := 25) (by decide)) (by simp only [nwL_n, hn, List.length_cons, List.length_nil, Nat.reduceAdd, Nat.zero_add]) (by omega)) rfl rfl rfl rfl (fun I33 P33 f33 => ?_)
  try simp only [nwL_snoc, nwL_app, List.cons_append, List.nil_append, nwL_n, hn, List.length_cons, List.length_nil, Nat.reduceAdd, Nat.zero_add]
  obtain ⟨rfl, g33⟩ := f33
  refine ev_pA 36 2 2 dX11_init_36 fp_X11_28 (nwK0 (a := 0) (by decide)) (Or.inl rfl) rfl rfl ?_
  refine ev_aload_0 39 dX11_init_39 ?_
  refine Ev.mono (bc' := 47 + 1) (bs' := 864 + 3) (by omega) (by omega) ?_
  refine ev_new 40 dX11_init_40 ck_4 cl_X11_23 in_4 ii_4 (bc := 47) (bs := 864) ?_
  try simp only [nwL_snoc, nwL_app, List.cons_append, List.nil_append, nwL_n, hn, List.length_cons, List.length_nil, Nat.reduceAdd, Nat.zero_add]
  refine ev_dupA 43 dX11_init_43 ?_
  refine ev_iconst 44 dX11_init_44 ⟨by decide, by decide⟩ ?_
  refine Ev.mono (bc' := 32 + 15) (bs' := 766 + 98) (by omega) (by omega) ?_
  refine ev_cIx_1 45 dX11_init_45 kmX4_init lk_X11_25 (c_past2 (n := 84) (nwK0 (a := 83) (by decide)) (by simp only [nwL_n, hn, List.length_cons, List.length_nil, Nat.reduceAdd, Nat.zero_add]) (by omega)) rfl rfl rfl rfl (fun I45 P45 f45 => ?_)
  try simp only [nwL_snoc, nwL_app, List.cons_append, List.nil_append, nwL_n, hn, List.length_cons, List.length_nil, Nat.reduceAdd, Nat.zero_add]
  obtain ⟨rfl, g45⟩ := f45
  refine ev_pA 48 3 3 dX11_init_48 fp_X11_32 (nwK0 (a := 0) (by decide)) (Or.inl rfl) rfl rfl ?_
  refine ev_aload_0 51 dX11_init_51 ?_
  refine Ev.mono (bc' := 31 + 1) (bs' := 761 + 5) (by omega) (by omega) ?_
  refine ev_new 52 dX11_init_52 ck_0 cl_X11_35 in_0 ii_0 (bc := 31) (bs := 761) ?_
  try simp only [nwL_snoc, nwL_app, List.cons_append, List.nil_append, nwL_n, hn, List.length_cons, List.length_nil, Nat.reduceAdd, Nat.zero_add]
  refine ev_dupA 55 dX11_init_55 ?_
  refine ev_aload_0 56 dX11_init_56 ?_
  refine ev_getA 57 1 dX11_init_57 fa_X11_19 (nwK0 (a := 0) (by decide)) (b := 4) (by decide +kernel) rfl ?_
  refine Ev.mono (bc' := 31 + 0) (bs' := 761 + 0) (by omega) (by omega) ?_
  refine ev_cIx_1 60 dX11_init_60 kmX0_init lk_X11_37 (c_drifterI (n := 100) (nwK0 (a := 99) (by decide)) (by simp only [nwL_n, hn, List.length_cons, List.length_nil, Nat.reduceAdd, Nat.zero_add]) (by omega)) rfl rfl rfl rfl (fun I60 P60 f60 => ?_)
  try simp only [nwL_snoc, nwL_app, List.cons_append, List.nil_append, nwL_n, hn, List.length_cons, List.length_nil, Nat.reduceAdd, Nat.zero_add]
  obtain ⟨rfl, g60⟩ := f60
  refine ev_pA 63 4 4 dX11_init_63 fp_X11_40 (nwK0 (a := 0) (by decide)) (Or.inl rfl) rfl rfl ?_
  refine ev_aload_0 66 dX11_init_66 ?_
  refine Ev.mono (bc' := 30 + 1) (bs' := 756 + 5) (by omega) (by omega) ?_
  refine ev_new 67 dX11_init_67 ck_0 cl_X11_35 in_0 ii_0 (bc := 30) (bs := 756) ?_
  try simp only [nwL_snoc, nwL_app, List.cons_append, List.nil_append, nwL_n, hn, List.length_cons, List.length_nil, Nat.reduceAdd, Nat.zero_add]
  refine ev_dupA 70 dX11_init_70 ?_
  refine ev_aload_0 71 dX11_init_71 ?_
  refine ev_getA 72 1 dX11_init_72 fa_X11_19 (nwK0 (a := 0) (by decide)) (b := 4) (by decide +kernel) rfl ?_
  refine Ev.mono (bc' := 30 + 0) (bs' := 756 + 0) (by omega) (by omega) ?_
  refine ev_cIx_1 75 dX11_init_75 kmX0_init lk_X11_37 (c_drifterI (n := 101) (nwK0 (a := 100) (by decide)) (by simp only [nwL_n, hn, List.length_cons, List.length_nil, Nat.reduceAdd, Nat.zero_add]) (by omega)) rfl rfl rfl rfl (fun I75 P75 f75 => ?_)
  try simp only [nwL_snoc, nwL_app, List.cons_append, List.nil_append, nwL_n, hn, List.length_cons, List.length_nil, Nat.reduceAdd, Nat.zero_add]
  obtain ⟨rfl, g75⟩ := f75
  refine ev_pA 78 5 5 dX11_init_78 fp_X11_44 (nwK0 (a := 0) (by decide)) (Or.inl rfl) rfl rfl ?_
  refine ev_aload_0 81 dX11_init_81 ?_
  refine Ev.mono (bc' := 29 + 1) (bs' := 752 + 4) (by omega) (by omega) ?_
  refine ev_new 82 dX11_init_82 ck_7 cl_X11_47 in_7 ii_7 (bc := 29) (bs := 752) ?_
  try simp only [nwL_snoc, nwL_app, List.cons_append, List.nil_append, nwL_n, hn, List.length_cons, List.length_nil, Nat.reduceAdd, Nat.zero_add]
  refine ev_dupA 85 dX11_init_85 ?_
  refine ev_aload_0 86 dX11_init_86 ?_
  refine ev_getA 87 1 dX11_init_87 fa_X11_19 (nwK0 (a := 0) (by decide)) (b := 4) (by decide +kernel) rfl ?_
  refine Ev.mono (bc' := 25 + 4) (bs' := 174 + 578) (by omega) (by omega) ?_
  refine ev_cIx_1 90 dX11_init_90 kmX7_init lk_X11_49 (c_soundI (n := 102) (nwK0 (a := 101) (by decide)) (by simp only [nwL_n, hn, List.length_cons, List.length_nil, Nat.reduceAdd, Nat.zero_add]) (by omega)) rfl rfl rfl rfl (fun I90 P90 f90 => ?_)
  try simp only [nwL_snoc, nwL_app, List.cons_append, List.nil_append, nwL_n, hn, List.length_cons, List.length_nil, Nat.reduceAdd, Nat.zero_add]
  obtain ⟨rfl, g90⟩ := f90
  refine ev_pA 93 6 6 dX11_init_93 fp_X11_50 (nwK0 (a := 0) (by decide)) (Or.inl rfl) rfl rfl ?_
  refine ev_aload_0 96 dX11_init_96 ?_
  refine Ev.mono (bc' := 24 + 1) (bs' := 167 + 7) (by omega) (by omega) ?_
  refine ev_new 97 dX11_init_97 ck_2 cl_X11_54 in_2 ii_2 (bc := 24) (bs := 167) ?_
  try simp only [nwL_snoc, nwL_app, List.cons_append, List.nil_append, nwL_n, hn, List.length_cons, List.length_nil, Nat.reduceAdd, Nat.zero_add]
  refine ev_dupA 100 dX11_init_100 ?_
  refine ev_aload_0 101 dX11_init_101 ?_
  refine ev_getA 102 1 dX11_init_102 fa_X11_19 (nwK0 (a := 0) (by decide)) (b := 4) (by decide +kernel) rfl ?_
  refine ev_aload_0 105 dX11_init_105 ?_
  refine ev_getA 106 6 dX11_init_106 fa_X11_50 (nwK0 (a := 0) (by decide)) (b := 101) (by decide +kernel) rfl ?_
  refine Ev.mono (bc' := 22 + 2) (bs' := 155 + 12) (by omega) (by omega) ?_
  refine ev_cIx_2 109 dX11_init_109 kmX2_init lk_X11_56 (c_hearingI (n := 107) (nwK0 (a := 106) (by decide)) (by simp only [nwL_n, hn, List.length_cons, List.length_nil, Nat.reduceAdd, Nat.zero_add]) (by omega)) rfl rfl rfl rfl (fun I109 P109 f109 => ?_)
  try simp only [nwL_snoc, nwL_app, List.cons_append, List.nil_append, nwL_n, hn, List.length_cons, List.length_nil, Nat.reduceAdd, Nat.zero_add]
  obtain ⟨rfl, g109⟩ := f109
  refine ev_pA 112 7 7 dX11_init_112 fp_X11_59 (nwK0 (a := 0) (by decide)) (Or.inl rfl) rfl rfl ?_
  refine ev_aload_0 115 dX11_init_115 ?_
  refine Ev.mono (bc' := 21 + 1) (bs' := 147 + 8) (by omega) (by omega) ?_
  refine ev_new 116 dX11_init_116 ck_3 cl_X11_63 in_3 ii_3 (bc := 21) (bs := 147) ?_
  try simp only [nwL_snoc, nwL_app, List.cons_append, List.nil_append, nwL_n, hn, List.length_cons, List.length_nil, Nat.reduceAdd, Nat.zero_add]
  refine ev_dupA 119 dX11_init_119 ?_
  refine ev_aload_0 120 dX11_init_120 ?_
  refine ev_getA 121 1 dX11_init_121 fa_X11_19 (nwK0 (a := 0) (by decide)) (b := 4) (by decide +kernel) rfl ?_
  refine ev_aload_0 124 dX11_init_124 ?_
  refine ev_getA 125 6 dX11_init_125 fa_X11_50 (nwK0 (a := 0) (by decide)) (b := 101) (by decide +kernel) rfl ?_
  refine Ev.mono (bc' := 19 + 2) (bs' := 135 + 12) (by omega) (by omega) ?_
  refine ev_cIx_2 128 dX11_init_128 kmX3_init lk_X11_65 (c_movesI (n := 110) (nwK0 (a := 109) (by decide)) (by simp only [nwL_n, hn, List.length_cons, List.length_nil, Nat.reduceAdd, Nat.zero_add]) (by omega)) rfl rfl rfl rfl (fun I128 P128 f128 => ?_)
  try simp only [nwL_snoc, nwL_app, List.cons_append, List.nil_append, nwL_n, hn, List.length_cons, List.length_nil, Nat.reduceAdd, Nat.zero_add]
  obtain ⟨rfl, g128⟩ := f128
  refine ev_pA 131 8 8 dX11_init_131 fp_X11_66 (nwK0 (a := 0) (by decide)) (Or.inl rfl) rfl rfl ?_
  refine ev_aload_0 134 dX11_init_134 ?_
  refine Ev.mono (bc' := 18 + 1) (bs' := 130 + 5) (by omega) (by omega) ?_
  refine ev_new 135 dX11_init_135 ck_1 cl_X11_70 in_1 ii_1 (bc := 18) (bs := 130) ?_
  try simp only [nwL_snoc, nwL_app, List.cons_append, List.nil_append, nwL_n, hn, List.length_cons, List.length_nil, Nat.reduceAdd, Nat.zero_add]
  refine ev_dupA 138 dX11_init_138 ?_
  refine Ev.mono (bc' := 14 + 4) (bs' := 106 + 24) (by omega) (by omega) ?_
  refine ev_cIx_0 139 dX11_init_139 kmX1_init lk_X11_72 (c_driftsI (n := 113) (nwK0 (a := 112) (by decide)) (by simp only [nwL_n, hn, List.length_cons, List.length_nil, Nat.reduceAdd, Nat.zero_add]) (by omega)) rfl rfl rfl rfl (fun I139 P139 f139 => ?_)
  try simp only [nwL_snoc, nwL_app, List.cons_append, List.nil_append, nwL_n, hn, List.length_cons, List.length_nil, Nat.reduceAdd, Nat.zero_add]
  obtain ⟨rfl, g139⟩ := f139
  refine ev_pA 142 9 9 dX11_init_142 fp_X11_73 (nwK0 (a := 0) (by decide)) (Or.inl rfl) rfl rfl ?_
  refine ev_aload_0 145 dX11_init_145 ?_
  refine ev_bipush 146 dX11_init_146 ⟨by decide, by decide⟩ ?_
  refine Ev.mono (bc' := 13 + 1) (bs' := 96 + 10) (by omega) (by omega) ?_
  refine ev_newI 148 dX11_init_148 (Or.inr (Or.inr (Or.inr ⟨rfl, rfl⟩))) ac_long ⟨by omega, by omega⟩ (n' := 10) (bc := 13) (bs := 96) rfl ?_
  try simp only [nwL_snoc, nwL_app, List.cons_append, List.nil_append, nwL_n, hn, List.length_cons, List.length_nil, Nat.reduceAdd, Nat.zero_add]
  refine ev_pA 150 10 10 dX11_init_150 fp_X11_77 (nwK0 (a := 0) (by decide)) (Or.inl rfl) rfl rfl ?_
  refine ev_aload_0 153 dX11_init_153 ?_
  refine Ev.mono (bc' := 12 + 1) (bs' := 79 + 17) (by omega) (by omega) ?_
  refine ev_new 154 dX11_init_154 ck_10 cl_X11_81 in_10 ii_10 (bc := 12) (bs := 79) ?_
  try simp only [nwL_snoc, nwL_app, List.cons_append, List.nil_append, nwL_n, hn, List.length_cons, List.length_nil, Nat.reduceAdd, Nat.zero_add]
  refine ev_dupA 157 dX11_init_157 ?_
  refine Ev.mono (bc' := 0 + 12) (bs' := 0 + 79) (by omega) (by omega) ?_
  refine ev_cIx_0 158 dX11_init_158 kmX10_init lk_X11_83 (c_toldI (n := 119) (nwK0 (a := 118) (by decide)) (by simp only [nwL_n, hn, List.length_cons, List.length_nil, Nat.reduceAdd, Nat.zero_add]) (by omega)) rfl rfl rfl rfl (fun I158 P158 f158 => ?_)
  try simp only [nwL_snoc, nwL_app, List.cons_append, List.nil_append, nwL_n, hn, List.length_cons, List.length_nil, Nat.reduceAdd, Nat.zero_add]
  obtain ⟨rfl, g158⟩ := f158
  refine ev_pA 161 11 11 dX11_init_161 fp_X11_84 (nwK0 (a := 0) (by decide)) (Or.inl rfl) rfl rfl ?_
  have hn1 : I158 1 3 = 0 := by
    rw [g158 1 (by omega), g139 1 (by omega), g128 1 (by omega), g109 1 (by omega), g90.2 1 (by omega), g75 1 (by omega), g60 1 (by omega), g45 1 (by omega) (by omega), g33 1 (by omega) (by omega), g20 1 (by omega)]; exact g9.1
  have hv1 : ∀ v, 0 ≤ v → v < 192 → I158 104 v = 1000000 := fun v a b => by
    rw [g158 104 (by omega), g139 104 (by omega), g128 104 (by omega), g109 104 (by omega)]; exact g90.1 v a b
  change Ev l g _ _ _ _ (nwL Z0 Lc) _ Pc _ _ _ _
  exact c_initB (d := d) Lc_Z Pc_P Pc_4 Pc_0 Pc_102 hv1 hn1
def L12 : List (Nat × Int) := [(14, 200), (15, 12), (15, 48), (15, 48), (15, 32), (15, 30), (15, 504), (15, 12), (15, 24), (15, 36864), (15, 6), (16, 11), (15, 4)]
def P12 (P : Pt') : Pt' := PL P [(131, 1, 132), (131, 3, (132 + 1)), (131, 4, (132 + 2)), (131, 5, (132 + 3)), (131, 6, (132 + 4)), (131, 7, (132 + 5)), (131, 8, (132 + 6)), (131, 12, (132 + 7)), (131, 14, (132 + 8)), (131, 15, (132 + 9)), (131, 17, (132 + 10)), (131, 20, (132 + 11)), (131, 21, (132 + 12))]
theorem L12_M {Z : Zt} (hk : Z.1 131 = 12) (hl : Z.2.1 131 = 0) (hn : Z.2.2 = 132) : LayM (nwL Z L12) := fun a ha hb => by
  by_cases e : a = 131
  · subst e
    rw [nwL_o (by omega), nwL_o2 (by omega), hk, hl]; exact ⟨by decide +kernel, by decide +kernel⟩
  · obtain ⟨i, rfl⟩ : ∃ i, a = 132 + i := ⟨a - 132, by omega⟩
    have hi : i < 13 := by omega
    rw [nwKn hn (show i < L12.length from hi), nwLn hn (show i < L12.length from hi)]
    clear hk hl hn ha hb e
    revert i; decide +kernel
theorem L12_C {Z : Zt} (hn : Z.2.2 = 132) (h : LayC Z) : LayC (nwL Z L12) := fun a ha => by rw [nwL_o (by omega), nwL_o2 (by omega)]; exact h a ha
theorem P12_Q (P : Pt') : LayQ (P12 P) := by
  intro q hq
  simp only [rfM, List.mem_cons, List.not_mem_nil, or_false] at hq
  rcases hq with rfl | rfl | rfl | rfl | rfl | rfl | rfl | rfl | rfl | rfl | rfl | rfl | rfl <;> (simp [P12, PL, upP])
theorem P12_o {P : Pt'} {a : Nat} (h : a ≠ 131) : P12 P a = P a := by
  unfold P12 PL
  simp only [List.foldl_cons, List.foldl_nil]
  simp only [upP_A h]
set_option maxRecDepth 20000 in
theorem c_X12_init {l : Launch} {g : Gt} {d : Nat} {Z : Zt} {I : It} {P : Pt'} {α : Nat → Int → Int} (hα : FS α) (hk : Z.1 131 = 12) (hl : Z.2.1 131 = 0) (hn : Z.2.2 = 132) (h0 : I 131 0 = 0) : Mt l g mX12_init (d + 1) 13 37795 [vA 131] Z I P (QW (fun Z' I' P' => Z' = nwL Z L12 ∧ (P' = P12 P ∧ VM I' α ∧ (∀ σ, INI α σ → RS 0 I' α σ) ∧ (I' 131 16 = 0 ∧ I' 131 11 = 0 ∧ I' 131 13 = 0 ∧ I' 131 10 = 0 ∧ I' 131 9 = 0) ∧ I' 131 0 = 0 ∧ ∀ a, (a < 131 ∨ 145 ≤ a) → I' a = I a))) := by
  refine Mt.of kmX12_init (ls := [vA 131]) (fun _ => rfl) (fun _ => rfl) (okf_k (okf_n rfl)) (fun hok => ?_)
  change Ev l g _ _ _ _ (nwL Z []) I P _ _ _ _
  refine ev_aload_0 0 dX12_init_0 ?_
  refine ev_objInit 1 dX12_init_1 oi_X12_1 oi_2 oi_3 ?_
  refine ev_aload_0 4 dX12_init_4 ?_
  refine ev_sipush 5 dX12_init_5 ⟨by decide, by decide⟩ ?_
  refine Ev.mono (bc' := 12 + 1) (bs' := 37595 + 200) (by omega) (by omega) ?_
  refine ev_newI 8 dX12_init_8 (Or.inr (Or.inl ⟨rfl, rfl⟩)) ac_byte ⟨by omega, by omega⟩ (n' := 200) (bc := 12) (bs := 37595) rfl ?_
  try simp only [nwL_snoc, nwL_app, List.cons_append, List.nil_append, nwL_n, hn, List.length_cons, List.length_nil, Nat.reduceAdd, Nat.zero_add]
  refine ev_pA 10 1 1 dX12_init_10 fp_X12_7 ((nwL_o (by omega)).trans hk) (Or.inl rfl) rfl rfl ?_
  refine ev_aload_0 13 dX12_init_13 ?_
  refine ev_bipush 14 dX12_init_14 ⟨by decide, by decide⟩ ?_
  refine Ev.mono (bc' := 11 + 1) (bs' := 37583 + 12) (by omega) (by omega) ?_
  refine ev_newI 16 dX12_init_16 (Or.inr (Or.inr (Or.inl ⟨rfl, rfl⟩))) ac_int ⟨by omega, by omega⟩ (n' := 12) (bc := 11) (bs := 37583) rfl ?_
  try simp only [nwL_snoc, nwL_app, List.cons_append, List.nil_append, nwL_n, hn, List.length_cons, List.length_nil, Nat.reduceAdd, Nat.zero_add]
  refine ev_pA 18 3 3 dX12_init_18 fp_X12_13 ((nwL_o (by omega)).trans hk) (Or.inl rfl) rfl rfl ?_
  refine ev_aload_0 21 dX12_init_21 ?_
  refine ev_bipush 22 dX12_init_22 ⟨by decide, by decide⟩ ?_
  refine Ev.mono (bc' := 10 + 1) (bs' := 37535 + 48) (by omega) (by omega) ?_
  refine ev_newI 24 dX12_init_24 (Or.inr (Or.inr (Or.inl ⟨rfl, rfl⟩))) ac_int ⟨by omega, by omega⟩ (n' := 48) (bc := 10) (bs := 37535) rfl ?_
  try simp only [nwL_snoc, nwL_app, List.cons_append, List.nil_append, nwL_n, hn, List.length_cons, List.length_nil, Nat.reduceAdd, Nat.zero_add]
  refine ev_pA 26 4 4 dX12_init_26 fp_X12_17 ((nwL_o (by omega)).trans hk) (Or.inl rfl) rfl rfl ?_
  refine ev_aload_0 29 dX12_init_29 ?_
  refine ev_bipush 30 dX12_init_30 ⟨by decide, by decide⟩ ?_
  refine Ev.mono (bc' := 9 + 1) (bs' := 37487 + 48) (by omega) (by omega) ?_
  refine ev_newI 32 dX12_init_32 (Or.inr (Or.inr (Or.inl ⟨rfl, rfl⟩))) ac_int ⟨by omega, by omega⟩ (n' := 48) (bc := 9) (bs := 37487) rfl ?_
  try simp only [nwL_snoc, nwL_app, List.cons_append, List.nil_append, nwL_n, hn, List.length_cons, List.length_nil, Nat.reduceAdd, Nat.zero_add]
  refine ev_pA 34 5 5 dX12_init_34 fp_X12_20 ((nwL_o (by omega)).trans hk) (Or.inl rfl) rfl rfl ?_
  refine ev_aload_0 37 dX12_init_37 ?_
  refine ev_bipush 38 dX12_init_38 ⟨by decide, by decide⟩ ?_
  refine Ev.mono (bc' := 8 + 1) (bs' := 37455 + 32) (by omega) (by omega) ?_
  refine ev_newI 40 dX12_init_40 (Or.inr (Or.inr (Or.inl ⟨rfl, rfl⟩))) ac_int ⟨by omega, by omega⟩ (n' := 32) (bc := 8) (bs := 37455) rfl ?_
  try simp only [nwL_snoc, nwL_app, List.cons_append, List.nil_append, nwL_n, hn, List.length_cons, List.length_nil, Nat.reduceAdd, Nat.zero_add]
  refine ev_pA 42 6 6 dX12_init_42 fp_X12_23 ((nwL_o (by omega)).trans hk) (Or.inl rfl) rfl rfl ?_
  refine ev_aload_0 45 dX12_init_45 ?_
  refine ev_bipush 46 dX12_init_46 ⟨by decide, by decide⟩ ?_
  refine Ev.mono (bc' := 7 + 1) (bs' := 37425 + 30) (by omega) (by omega) ?_
  refine ev_newI 48 dX12_init_48 (Or.inr (Or.inr (Or.inl ⟨rfl, rfl⟩))) ac_int ⟨by omega, by omega⟩ (n' := 30) (bc := 7) (bs := 37425) rfl ?_
  try simp only [nwL_snoc, nwL_app, List.cons_append, List.nil_append, nwL_n, hn, List.length_cons, List.length_nil, Nat.reduceAdd, Nat.zero_add]
  refine ev_pA 50 7 7 dX12_init_50 fp_X12_26 ((nwL_o (by omega)).trans hk) (Or.inl rfl) rfl rfl ?_
  refine ev_aload_0 53 dX12_init_53 ?_
  refine ev_sipush 54 dX12_init_54 ⟨by decide, by decide⟩ ?_
  refine Ev.mono (bc' := 6 + 1) (bs' := 36921 + 504) (by omega) (by omega) ?_
  refine ev_newI 57 dX12_init_57 (Or.inr (Or.inr (Or.inl ⟨rfl, rfl⟩))) ac_int ⟨by omega, by omega⟩ (n' := 504) (bc := 6) (bs := 36921) rfl ?_
  try simp only [nwL_snoc, nwL_app, List.cons_append, List.nil_append, nwL_n, hn, List.length_cons, List.length_nil, Nat.reduceAdd, Nat.zero_add]
  refine ev_pA 59 8 8 dX12_init_59 fp_X12_29 ((nwL_o (by omega)).trans hk) (Or.inl rfl) rfl rfl ?_
  refine ev_aload_0 62 dX12_init_62 ?_
  refine ev_bipush 63 dX12_init_63 ⟨by decide, by decide⟩ ?_
  refine Ev.mono (bc' := 5 + 1) (bs' := 36909 + 12) (by omega) (by omega) ?_
  refine ev_newI 65 dX12_init_65 (Or.inr (Or.inr (Or.inl ⟨rfl, rfl⟩))) ac_int ⟨by omega, by omega⟩ (n' := 12) (bc := 5) (bs := 36909) rfl ?_
  try simp only [nwL_snoc, nwL_app, List.cons_append, List.nil_append, nwL_n, hn, List.length_cons, List.length_nil, Nat.reduceAdd, Nat.zero_add]
  refine ev_pA 67 12 12 dX12_init_67 fp_X12_32 ((nwL_o (by omega)).trans hk) (Or.inl rfl) rfl rfl ?_
  refine ev_aload_0 70 dX12_init_70 ?_
  refine ev_bipush 71 dX12_init_71 ⟨by decide, by decide⟩ ?_
  refine Ev.mono (bc' := 4 + 1) (bs' := 36885 + 24) (by omega) (by omega) ?_
  refine ev_newI 73 dX12_init_73 (Or.inr (Or.inr (Or.inl ⟨rfl, rfl⟩))) ac_int ⟨by omega, by omega⟩ (n' := 24) (bc := 4) (bs := 36885) rfl ?_
  try simp only [nwL_snoc, nwL_app, List.cons_append, List.nil_append, nwL_n, hn, List.length_cons, List.length_nil, Nat.reduceAdd, Nat.zero_add]
  refine ev_pA 75 14 14 dX12_init_75 fp_X12_35 ((nwL_o (by omega)).trans hk) (Or.inl rfl) rfl rfl ?_
  refine ev_aload_0 78 dX12_init_78 ?_
  refine ev_ldc 79 dX12_init_79 kc_X12_38 ⟨by decide, by decide⟩ ?_
  refine Ev.mono (bc' := 3 + 1) (bs' := 21 + 36864) (by omega) (by omega) ?_
  refine ev_newI 81 dX12_init_81 (Or.inr (Or.inr (Or.inl ⟨rfl, rfl⟩))) ac_int ⟨by omega, by omega⟩ (n' := 36864) (bc := 3) (bs := 21) rfl ?_
  try simp only [nwL_snoc, nwL_app, List.cons_append, List.nil_append, nwL_n, hn, List.length_cons, List.length_nil, Nat.reduceAdd, Nat.zero_add]
  refine ev_pA 83 15 15 dX12_init_83 fp_X12_39 ((nwL_o (by omega)).trans hk) (Or.inl rfl) rfl rfl ?_
  refine ev_aload_0 86 dX12_init_86 ?_
  refine ev_bipush 87 dX12_init_87 ⟨by decide, by decide⟩ ?_
  refine Ev.mono (bc' := 2 + 1) (bs' := 15 + 6) (by omega) (by omega) ?_
  refine ev_newI 89 dX12_init_89 (Or.inr (Or.inr (Or.inl ⟨rfl, rfl⟩))) ac_int ⟨by omega, by omega⟩ (n' := 6) (bc := 2) (bs := 15) rfl ?_
  try simp only [nwL_snoc, nwL_app, List.cons_append, List.nil_append, nwL_n, hn, List.length_cons, List.length_nil, Nat.reduceAdd, Nat.zero_add]
  refine ev_pA 91 17 17 dX12_init_91 fp_X12_42 ((nwL_o (by omega)).trans hk) (Or.inl rfl) rfl rfl ?_
  refine ev_aload_0 94 dX12_init_94 ?_
  refine ev_bipush 95 dX12_init_95 ⟨by decide, by decide⟩ ?_
  refine Ev.mono (bc' := 1 + 1) (bs' := 4 + 11) (by omega) (by omega) ?_
  refine ev_newI 97 dX12_init_97 (Or.inr (Or.inr (Or.inr ⟨rfl, rfl⟩))) ac_long ⟨by omega, by omega⟩ (n' := 11) (bc := 1) (bs := 4) rfl ?_
  try simp only [nwL_snoc, nwL_app, List.cons_append, List.nil_append, nwL_n, hn, List.length_cons, List.length_nil, Nat.reduceAdd, Nat.zero_add]
  refine ev_pA 99 20 20 dX12_init_99 fp_X12_45 ((nwL_o (by omega)).trans hk) (Or.inl rfl) rfl rfl ?_
  refine ev_aload_0 102 dX12_init_102 ?_
  refine ev_iconst 103 dX12_init_103 ⟨by decide, by decide⟩ ?_
  refine Ev.mono (bc' := 0 + 1) (bs' := 0 + 4) (by omega) (by omega) ?_
  refine ev_newI 104 dX12_init_104 (Or.inr (Or.inr (Or.inl ⟨rfl, rfl⟩))) ac_int ⟨by omega, by omega⟩ (n' := 4) (bc := 0) (bs := 0) rfl ?_
  try simp only [nwL_snoc, nwL_app, List.cons_append, List.nil_append, nwL_n, hn, List.length_cons, List.length_nil, Nat.reduceAdd, Nat.zero_add]
  refine ev_pA 106 21 21 dX12_init_106 fp_X12_49 ((nwL_o (by omega)).trans hk) (Or.inl rfl) rfl rfl ?_
  have hM : LayM (nwL Z L12) := L12_M hk hl hn
  have hN : LayQ (P12 P) := P12_Q P
  change Ev l g _ _ _ _ (nwL Z L12) _ (P12 P) _ _ _ _
  refine ev_aload_0 109 dX12_init_109 ?_
  refine ev_cVv_0 110 dX12_init_110 kmX12_begins lk_X12_52 (kd_131 hM) (m_begins hM hN (fun _ _ => 0)) rfl rfl (fun I110 f110 => ?_)
  refine ev_aload_0 113 dX12_init_113 ?_
  refine ev_getA 114 3 dX12_init_114 fa_X12_13 (kd_131 hM) (pr_131_3 hN) rfl ?_
  refine ev_bipush 117 dX12_init_117 ⟨by decide, by decide⟩ ?_
  refine ev_iconst 119 dX12_init_119 ⟨by decide, by decide⟩ ?_
  refine ev_iast 120 dX12_init_120 (kd_133 hM) ⟨by omega, by have := (ln_133 hM); omega⟩ ?_
  refine ev_aload_0 121 dX12_init_121 ?_
  refine ev_getA 122 4 dX12_init_122 fa_X12_17 (kd_131 hM) (pr_131_4 hN) rfl ?_
  refine ev_bipush 125 dX12_init_125 ⟨by decide, by decide⟩ ?_
  refine ev_iconst 127 dX12_init_127 ⟨by decide, by decide⟩ ?_
  refine ev_iast 128 dX12_init_128 (kd_134 hM) ⟨by omega, by have := (ln_134 hM); omega⟩ ?_
  refine ev_aload_0 129 dX12_init_129 ?_
  refine ev_getA 130 4 dX12_init_130 fa_X12_17 (kd_131 hM) (pr_131_4 hN) rfl ?_
  refine ev_bipush 133 dX12_init_133 ⟨by decide, by decide⟩ ?_
  refine ev_iconst 135 dX12_init_135 ⟨by decide, by decide⟩ ?_
  refine ev_iast 136 dX12_init_136 (kd_134 hM) ⟨by omega, by have := (ln_134 hM); omega⟩ ?_
  refine ev_aload_0 137 dX12_init_137 ?_
  refine ev_getA 138 4 dX12_init_138 fa_X12_17 (kd_131 hM) (pr_131_4 hN) rfl ?_
  refine ev_bipush 141 dX12_init_141 ⟨by decide, by decide⟩ ?_
  refine ev_iconst 143 dX12_init_143 ⟨by decide, by decide⟩ ?_
  refine ev_iast 144 dX12_init_144 (kd_134 hM) ⟨by omega, by have := (ln_134 hM); omega⟩ ?_
  refine ev_aload_0 145 dX12_init_145 ?_
  refine ev_getA 146 4 dX12_init_146 fa_X12_17 (kd_131 hM) (pr_131_4 hN) rfl ?_
  refine ev_bipush 149 dX12_init_149 ⟨by decide, by decide⟩ ?_
  refine ev_iconst 151 dX12_init_151 ⟨by decide, by decide⟩ ?_
  refine ev_iast 152 dX12_init_152 (kd_134 hM) ⟨by omega, by have := (ln_134 hM); omega⟩ ?_
  refine ev_aload_0 153 dX12_init_153 ?_
  refine ev_getA 154 4 dX12_init_154 fa_X12_17 (kd_131 hM) (pr_131_4 hN) rfl ?_
  refine ev_bipush 157 dX12_init_157 ⟨by decide, by decide⟩ ?_
  refine ev_iconst 159 dX12_init_159 ⟨by decide, by decide⟩ ?_
  refine ev_iast 160 dX12_init_160 (kd_134 hM) ⟨by omega, by have := (ln_134 hM); omega⟩ ?_
  refine ev_aload_0 161 dX12_init_161 ?_
  refine ev_getA 162 4 dX12_init_162 fa_X12_17 (kd_131 hM) (pr_131_4 hN) rfl ?_
  refine ev_bipush 165 dX12_init_165 ⟨by decide, by decide⟩ ?_
  refine ev_iconst 167 dX12_init_167 ⟨by decide, by decide⟩ ?_
  refine ev_iast 168 dX12_init_168 (kd_134 hM) ⟨by omega, by have := (ln_134 hM); omega⟩ ?_
  refine ev_aload_0 169 dX12_init_169 ?_
  refine ev_getA 170 4 dX12_init_170 fa_X12_17 (kd_131 hM) (pr_131_4 hN) rfl ?_
  refine ev_bipush 173 dX12_init_173 ⟨by decide, by decide⟩ ?_
  refine ev_iconst 175 dX12_init_175 ⟨by decide, by decide⟩ ?_
  refine ev_iast 176 dX12_init_176 (kd_134 hM) ⟨by omega, by have := (ln_134 hM); omega⟩ ?_
  refine ev_aload_0 177 dX12_init_177 ?_
  refine ev_getA 178 4 dX12_init_178 fa_X12_17 (kd_131 hM) (pr_131_4 hN) rfl ?_
  refine ev_bipush 181 dX12_init_181 ⟨by decide, by decide⟩ ?_
  refine ev_bipush 183 dX12_init_183 ⟨by decide, by decide⟩ ?_
  refine ev_iast 185 dX12_init_185 (kd_134 hM) ⟨by omega, by have := (ln_134 hM); omega⟩ ?_
  refine ev_aload_0 186 dX12_init_186 ?_
  refine ev_getA 187 4 dX12_init_187 fa_X12_17 (kd_131 hM) (pr_131_4 hN) rfl ?_
  refine ev_bipush 190 dX12_init_190 ⟨by decide, by decide⟩ ?_
  refine ev_iconst 192 dX12_init_192 ⟨by decide, by decide⟩ ?_
  refine ev_iast 193 dX12_init_193 (kd_134 hM) ⟨by omega, by have := (ln_134 hM); omega⟩ ?_
  refine ev_aload_0 194 dX12_init_194 ?_
  refine ev_getA 195 3 dX12_init_195 fa_X12_13 (kd_131 hM) (pr_131_3 hN) rfl ?_
  refine ev_bipush 198 dX12_init_198 ⟨by decide, by decide⟩ ?_
  refine ev_iconst 200 dX12_init_200 ⟨by decide, by decide⟩ ?_
  refine ev_iast 201 dX12_init_201 (kd_133 hM) ⟨by omega, by have := (ln_133 hM); omega⟩ ?_
  refine ev_aload_0 202 dX12_init_202 ?_
  refine ev_getA 203 5 dX12_init_203 fa_X12_20 (kd_131 hM) (pr_131_5 hN) rfl ?_
  refine ev_bipush 206 dX12_init_206 ⟨by decide, by decide⟩ ?_
  refine ev_iconst 208 dX12_init_208 ⟨by decide, by decide⟩ ?_
  refine ev_iast 209 dX12_init_209 (kd_135 hM) ⟨by omega, by have := (ln_135 hM); omega⟩ ?_
  refine ev_aload_0 210 dX12_init_210 ?_
  refine ev_getA 211 5 dX12_init_211 fa_X12_20 (kd_131 hM) (pr_131_5 hN) rfl ?_
  refine ev_bipush 214 dX12_init_214 ⟨by decide, by decide⟩ ?_
  refine ev_iconst 216 dX12_init_216 ⟨by decide, by decide⟩ ?_
  refine ev_iast 217 dX12_init_217 (kd_135 hM) ⟨by omega, by have := (ln_135 hM); omega⟩ ?_
  refine ev_aload_0 218 dX12_init_218 ?_
  refine ev_getA 219 5 dX12_init_219 fa_X12_20 (kd_131 hM) (pr_131_5 hN) rfl ?_
  refine ev_bipush 222 dX12_init_222 ⟨by decide, by decide⟩ ?_
  refine ev_iconst 224 dX12_init_224 ⟨by decide, by decide⟩ ?_
  refine ev_iast 225 dX12_init_225 (kd_135 hM) ⟨by omega, by have := (ln_135 hM); omega⟩ ?_
  refine ev_aload_0 226 dX12_init_226 ?_
  refine ev_getA 227 5 dX12_init_227 fa_X12_20 (kd_131 hM) (pr_131_5 hN) rfl ?_
  refine ev_bipush 230 dX12_init_230 ⟨by decide, by decide⟩ ?_
  refine ev_iconst 232 dX12_init_232 ⟨by decide, by decide⟩ ?_
  refine ev_iast 233 dX12_init_233 (kd_135 hM) ⟨by omega, by have := (ln_135 hM); omega⟩ ?_
  refine ev_aload_0 234 dX12_init_234 ?_
  refine ev_getA 235 5 dX12_init_235 fa_X12_20 (kd_131 hM) (pr_131_5 hN) rfl ?_
  refine ev_bipush 238 dX12_init_238 ⟨by decide, by decide⟩ ?_
  refine ev_bipush 240 dX12_init_240 ⟨by decide, by decide⟩ ?_
  refine ev_iast 242 dX12_init_242 (kd_135 hM) ⟨by omega, by have := (ln_135 hM); omega⟩ ?_
  refine ev_aload_0 243 dX12_init_243 ?_
  refine ev_getA 244 5 dX12_init_244 fa_X12_20 (kd_131 hM) (pr_131_5 hN) rfl ?_
  refine ev_bipush 247 dX12_init_247 ⟨by decide, by decide⟩ ?_
  refine ev_iconst 249 dX12_init_249 ⟨by decide, by decide⟩ ?_
  refine ev_iast 250 dX12_init_250 (kd_135 hM) ⟨by omega, by have := (ln_135 hM); omega⟩ ?_
  refine ev_aload_0 251 dX12_init_251 ?_
  refine ev_getA 252 5 dX12_init_252 fa_X12_20 (kd_131 hM) (pr_131_5 hN) rfl ?_
  refine ev_bipush 255 dX12_init_255 ⟨by decide, by decide⟩ ?_
  refine ev_iconst 257 dX12_init_257 ⟨by decide, by decide⟩ ?_
  refine ev_iast 258 dX12_init_258 (kd_135 hM) ⟨by omega, by have := (ln_135 hM); omega⟩ ?_
  refine ev_aload_0 259 dX12_init_259 ?_
  refine ev_getA 260 5 dX12_init_260 fa_X12_20 (kd_131 hM) (pr_131_5 hN) rfl ?_
  refine ev_bipush 263 dX12_init_263 ⟨by decide, by decide⟩ ?_
  refine ev_iconst 265 dX12_init_265 ⟨by decide, by decide⟩ ?_
  refine ev_iast 266 dX12_init_266 (kd_135 hM) ⟨by omega, by have := (ln_135 hM); omega⟩ ?_
  refine ev_aload_0 267 dX12_init_267 ?_
  refine ev_getA 268 3 dX12_init_268 fa_X12_13 (kd_131 hM) (pr_131_3 hN) rfl ?_
  refine ev_bipush 271 dX12_init_271 ⟨by decide, by decide⟩ ?_
  refine ev_iconst 273 dX12_init_273 ⟨by decide, by decide⟩ ?_
  refine ev_iast 274 dX12_init_274 (kd_133 hM) ⟨by omega, by have := (ln_133 hM); omega⟩ ?_
  refine ev_aload_0 275 dX12_init_275 ?_
  refine ev_getA 276 7 dX12_init_276 fa_X12_26 (kd_131 hM) (pr_131_7 hN) rfl ?_
  refine ev_bipush 279 dX12_init_279 ⟨by decide, by decide⟩ ?_
  refine ev_iconst 281 dX12_init_281 ⟨by decide, by decide⟩ ?_
  refine ev_iast 282 dX12_init_282 (kd_137 hM) ⟨by omega, by have := (ln_137 hM); omega⟩ ?_
  refine ev_aload_0 283 dX12_init_283 ?_
  refine ev_getA 284 7 dX12_init_284 fa_X12_26 (kd_131 hM) (pr_131_7 hN) rfl ?_
  refine ev_bipush 287 dX12_init_287 ⟨by decide, by decide⟩ ?_
  refine ev_iconst 289 dX12_init_289 ⟨by decide, by decide⟩ ?_
  refine ev_iast 290 dX12_init_290 (kd_137 hM) ⟨by omega, by have := (ln_137 hM); omega⟩ ?_
  refine ev_aload_0 291 dX12_init_291 ?_
  refine ev_getA 292 7 dX12_init_292 fa_X12_26 (kd_131 hM) (pr_131_7 hN) rfl ?_
  refine ev_bipush 295 dX12_init_295 ⟨by decide, by decide⟩ ?_
  refine ev_iconst 297 dX12_init_297 ⟨by decide, by decide⟩ ?_
  refine ev_iast 298 dX12_init_298 (kd_137 hM) ⟨by omega, by have := (ln_137 hM); omega⟩ ?_
  refine ev_aload_0 299 dX12_init_299 ?_
  obtain ⟨⟨b0, b1, b2, b3, b4, -, -⟩, -⟩ := f110.1
  obtain ⟨f1, f2, f3, f4, f5, f6⟩ := f110.2
  have hDw : DMw (upI (upI (upI (upI (upI (upI (upI (upI (upI (upI (upI (upI (upI (upI (upI (upI (upI (upI (upI (upI (upI (upI (upI I110 133 7 3) 134 24 4) 134 25 1) 134 26 2) 134 27 2) 134 28 3) 134 29 1) 134 30 3) 134 31 6) 134 32 1) 133 8 2) 135 24 0) 135 25 1) 135 26 3) 135 27 5) 135 28 6) 135 29 2) 135 30 4) 135 31 2) 133 10 1) 137 15 0) 137 16 3) 137 17 5) α := by
    obtain ⟨⟨a0, a1, a2, a3, a4⟩, ⟨⟨l1, l2, l3⟩, ⟨l4, l5, l6⟩, l7, l8, l9⟩, ⟨⟨t1, t2, t3, t4⟩, t5, t6, t7, t8⟩, g1, g2, g3⟩ := hα
    refine ⟨⟨?_, ?_, ?_, ?_, ?_⟩, fun t x y => ?_, fun t x y => ?_, fun t x y => ?_, fun t x y => ?_⟩
    · simp (disch := omega) only [upI_s, upI_k, upI_A]; rw [b0, a0]; rfl
    · simp (disch := omega) only [upI_s, upI_k, upI_A]; rw [a1]
    · simp (disch := omega) only [upI_s, upI_k, upI_A]; rw [a2]
    · simp (disch := omega) only [upI_s, upI_k, upI_A]; rw [b3, a3]; rfl
    · simp (disch := omega) only [upI_s, upI_k, upI_A]; rw [a4]
    · rcases (show t = 0 ∨ t = 1 ∨ t = 2 by omega) with rfl | rfl | rfl
      · simp (disch := omega) only [upI_s, upI_k, upI_A]; rw [l1, l2, l3]; simp [upI]
      · simp (disch := omega) only [upI_s, upI_k, upI_A]; rw [l4, l5, l6]; simp [upI]
      · simp (disch := omega) only [upI_s, upI_k, upI_A]; rw [l7, l8, l9]; simp [upI]
    · rcases (show t = 0 ∨ t = 1 by omega) with rfl | rfl
      · simp (disch := omega) only [upI_s, upI_k, upI_A]; rw [t1, t2, t3, t4]; simp [upI]
      · simp (disch := omega) only [upI_s, upI_k, upI_A]; rw [t5, t6, t7, t8]; simp [upI]
    · omega
    · obtain rfl : t = 0 := by omega
      simp (disch := omega) only [upI_s, upI_k, upI_A]; rw [g1, g2, g3]; simp [upI]
  refine ev_cVv_0 300 dX12_init_300 kmX12_takes lk_X12_55 (kd_131 hM) (m_takes hM hN hDw hα.cn) rfl rfl (fun I300 f300 => ?_)
  refine ev_vret 303 dX12_init_303 ?_ rfl
  obtain ⟨t1, t2, t3, t4, t5, t6⟩ := f300
  refine QW_of ⟨rfl, rfl, t1, t2, t3, ?_, fun a z => ?_⟩
  · rw [t4 0 (by omega) (by omega) (by omega) (by omega) (by omega)]
    simp (disch := omega) only [upI_A]
    rw [f6 131 (by omega) (by omega) (by omega) (by omega) (by omega)]
    exact h0
  · rw [t6 a z]
    simp (disch := omega) only [upI_A]
    rw [f6 a (by omega) (by omega) (by omega) (by omega) (by omega)]
