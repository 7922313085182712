/-! THE STRING CONSTANT: length and charAt of the text that the class is made with, through the JDK members that they call -/
def JP (as : List Value) (q v : Nat) (Hh : Heap) : Array Value → State → Prop := fun a U => a = as.toArray ∧ U.heap = Hh ∧ SJ q v U Hh
theorem JP.blind (as : List Value) (q v : Nat) (Hh : Heap) : FrameBlind (JP as q v Hh) := fun a U gg mk h => ⟨h.1, h.2.1, SJ.moved (U := U) (U' := U.calling gg mk a) (Vm.Alike.refl U.vm) h.2.2⟩
def JQ (x : Option Value) (Hh : Heap) : Array Value → State → Outcome → State → Prop := fun _ _ oc t => oc = .returned x ∧ t.heap = Hh
abbrev JM (l : Launch) (mm : Mm) (d : Nat) (as : List Value) (q v : Nat) (Hh : Heap) (x : Option Value) : Prop := Met l mm.1 (wsOf mm) (rmOf d 0 0) (JP as q v Hh) (JQ x Hh) 0 0 (fun _ => False)
def Jx (mm : Mm) (d : Nat) (p : Program) (R : Room) (s : State) (m : MethodId) (args : Array Value) (c : Code) : Prop := p.tables.exec = Jvm.exec ∧ c.code = mm.2.1 ∧ c.maxLocals = mm.2.2.1 ∧ s.vm.findClass mm.1.cls = some m.cls ∧ (∀ w ∈ tbl, w.before args s = true) ∧ d ≤ R.frames ∧ 40 * d ≤ R.locals
theorem JM.of {l : Launch} {mm : Mm} {n d : Nat} {as : List Value} {q v : Nat} {Hh : Heap} {x : Option Value} (hM : MK mm n) (hln : Nat.ble (lg_sl as).length mm.2.2.1 = true)
    (k : ∀ (p : Program) (e : Env) (s : State) (m : MethodId) (args : Array Value) (below : List Frame) (meth : Method) (c : Code) (lj : Array Slot), s.heap = Hh → Jx mm d p (rmOf d 0 0) s m args c → meth.sig.returnType = mm.2.2.2 → meth.locks = false → SJ q v s Hh → lv_has lj mm.2.2.1 (lv_args 0 as) → W p l e (rmOf d 0 0) s m args below meth c Hh [] 0 0 (MQ below (JQ x Hh) args s 0 0 (fun _ => False)) (F0 m 0 lj [])) : JM l mm d as q v Hh x := by
  refine Met_ofF (cc := mm.2.1) (maxL := mm.2.2.1) (ret := mm.2.2.2) hM.1 rfl ?_
  intro p e s m args below meth c s₁ B hml hv
  obtain ⟨rfl, hh, hJ⟩ := hv
  have hts : ∀ w ∈ tbl, w.before (as.toArray) s = true := fun w hw => atoms_spec (ws := wsOf mm) B.pre w (List.mem_cons_of_mem _ hw)
  have h1 := lv_entry as (n := mm.2.2.1) (Nat.le_of_ble_eq_true hln)
  rw [lg_entry_eq, hh]
  exact k p e s m _ below meth c _ hh ⟨B.exec, B.bytes, hml, findClass_of_methodNamed B.named, hts, Nat.le_refl _, Nat.le_refl _⟩ B.returns B.notSynchronized hJ h1
section JCALL
variable {p : Program} {l : Launch} {e : Env} {R : Room} {s : State} {m : MethodId} {args : Array Value} {below : List Frame} {meth : Method} {c : Code} {H : Heap} {locs : List Loc} {cells slots : Nat} {Q : State → Prop} {ls : Array Slot} {rest : List Value} {mm mk : Mm} {n d ix q v : Nat} {x : Option Value}
theorem j_run {pc : Nat} {st0 : List Value} {a : Array Value} (hr : va_Run p l e R s m args below meth c H locs cells slots 0 0 (F0 m pc ls st0) rest (JQ x H a) (fun _ => False))
    (kk : W p l e R s m args below meth c H locs cells slots Q (F0 m (pc + 3) ls (x.toList ++ rest))) : W p l e R s m args below meth c H locs cells slots Q (F0 m pc ls st0) := by
  intro T hT X
  obtain ⟨v, st₀, t, T', L, h0, X', hL, e1, e2, ⟨hv, hz⟩, st⟩ := hr T hT X
  cases hv
  have hL0 : L = [] := by
    cases L with
    | nil => rfl
    | cons q L => exact (hL q List.mem_cons_self).elim
  subst hL0
  rw [List.append_nil] at X'
  obtain ⟨t2, a1, b1⟩ := kk T' (by rw [e1, hz]) X'
  exact ⟨t2, st t2 a1, b1⟩
theorem j_V (pc : Nat) {a : Nat} (As : List Value) {st0 : List Value} (hJx : Jx mm (d + 1) p R s m args c) (hd : decode mm.2.1 pc = .ok (.invokevirtual ix, 3)) (hM : MK mk n) (hl : Cond.methodLink mm.1.cls ix mk.1 ∈ tbl) (hin : Cond.instanceMethod mk.1 ∈ tbl) (hse : Cond.selects mk.1.cls mk.1 mk.1 ∈ tbl) (hm : JM l mk d (.ref a :: As) q v H x)
    (hrc : ∃ cell : Cell, H[a]? = some cell ∧ cell.vm.isStatics = false ∧ s.vm.findClass mk.1.cls = some cell.cls) (hJ : SJ q v s H) (hn : As.length = n) (hsz : ls.size = mm.2.2.1) (hst : st0 = As.reverse ++ .ref a :: rest) (h8 : (rest.map fun v => v.category).sum ≤ 8) (hfit : cells ≤ R.cells ∧ slots ≤ R.slots)
    (kk : W p l e R s m args below meth c H locs cells slots Q (F0 m (pc + 3) ls (x.toList ++ rest))) : W p l e R s m args below meth c H locs cells slots Q (F0 m pc ls st0) := by
  obtain ⟨hx, hb, hml, hown, hts, hfr, hlo⟩ := hJx
  have hpre : PreV s H mk.1.cls a (JP (.ref a :: As) q v H) As := ⟨JP.blind _ _ _ _, hrc, fun U hU hW => ⟨rfl, hU, SJ.moved hW.alike hJ⟩⟩
  exact j_run (va_runV (As := As) ⟨hx, hb, hml, hown, hts⟩ hm ⟨cb_of (p := p) (m := m) (meth := meth) (c := c) hM hts hfr hlo hl, hts _ hin, hts _ hse⟩ hpre rfl hn hsz hst (lv_room h8) hd hfit) kk
theorem j_S (pc : Nat) (As : List Value) {st0 : List Value} (hJx : Jx mm (d + 1) p R s m args c) (hd : decode mm.2.1 pc = .ok (.invokestatic ix, 3)) (hM : MK mk n) (hl : Cond.methodLink mm.1.cls ix mk.1 ∈ tbl) (hstt : Cond.static mk.1 ∈ tbl) (hm : JM l mk d As q v H x)
    (hJ : SJ q v s H) (hn : As.length = n) (hsz : ls.size = mm.2.2.1) (hst : st0 = As.reverse ++ rest) (h8 : (rest.map fun v => v.category).sum ≤ 8) (hfit : cells ≤ R.cells ∧ slots ≤ R.slots)
    (kk : W p l e R s m args below meth c H locs cells slots Q (F0 m (pc + 3) ls (x.toList ++ rest))) : W p l e R s m args below meth c H locs cells slots Q (F0 m pc ls st0) := by
  obtain ⟨hx, hb, hml, hown, hts, hfr, hlo⟩ := hJx
  have hpre : PreS s H (JP As q v H) As := ⟨JP.blind _ _ _ _, fun U hU hW => ⟨rfl, hU, SJ.moved hW.alike hJ⟩⟩
  exact j_run (va_runS (As := As) ⟨hx, hb, hml, hown, hts⟩ hm ⟨cb_of (p := p) (m := m) (meth := meth) (c := c) hM hts hfr hlo hl, hts _ hstt⟩ hpre rfl hn hsz hst (lv_room h8) hd hfit) kk
end JCALL
theorem s_triv (s : State) (H : Heap) (hh : s.heap = H) : va_S (fun _ => False) s.heap H [] := ⟨by rw [hh]; exact Nat.le_refl _, fun q _ _ => by rw [hh], fun q hq => by cases hq⟩
def mJ0_coder_7d493 : Mm := (yJ0_coder_7d493, cJ0_coder_7d493, 1, (some .byte))
theorem kmJ0_coder_7d493 : MK mJ0_coder_7d493 0 := ⟨by decide +kernel, tbl_of (List.mem_of_getElem? (i := 463) (by decide +kernel)) rfl, tbl_of (List.mem_of_getElem? (i := 83) (by decide +kernel)) rfl, by decide +kernel, by decide +kernel, by decide +kernel, rfl⟩
def mJ0_length_8abf5 : Mm := (yJ0_length_8abf5, cJ0_length_8abf5, 1, (some .int))
theorem kmJ0_length_8abf5 : MK mJ0_length_8abf5 0 := ⟨by decide +kernel, tbl_of (List.mem_of_getElem? (i := 459) (by decide +kernel)) rfl, tbl_of (List.mem_of_getElem? (i := 83) (by decide +kernel)) rfl, by decide +kernel, by decide +kernel, by decide +kernel, rfl⟩
def mJ0_isLatin1_aae02 : Mm := (yJ0_isLatin1_aae02, cJ0_isLatin1_aae02, 1, (some .boolean))
theorem kmJ0_isLatin1_aae02 : MK mJ0_isLatin1_aae02 0 := ⟨by decide +kernel, tbl_of (List.mem_of_getElem? (i := 473) (by decide +kernel)) rfl, tbl_of (List.mem_of_getElem? (i := 83) (by decide +kernel)) rfl, by decide +kernel, by decide +kernel, by decide +kernel, rfl⟩
def mJ3_checkIndex_8e157 : Mm := (yJ3_checkIndex_8e157, cJ3_checkIndex_8e157, 3, (some .int))
theorem kmJ3_checkIndex_8e157 : MK mJ3_checkIndex_8e157 3 := ⟨by decide +kernel, tbl_of (List.mem_of_getElem? (i := 484) (by decide +kernel)) rfl, tbl_of (List.mem_of_getElem? (i := 85) (by decide +kernel)) rfl, by decide +kernel, by decide +kernel, by decide +kernel, rfl⟩
def mJ0_checkIndex_df160 : Mm := (yJ0_checkIndex_df160, cJ0_checkIndex_df160, 2, none)
theorem kmJ0_checkIndex_df160 : MK mJ0_checkIndex_df160 2 := ⟨by decide +kernel, tbl_of (List.mem_of_getElem? (i := 479) (by decide +kernel)) rfl, tbl_of (List.mem_of_getElem? (i := 83) (by decide +kernel)) rfl, by decide +kernel, by decide +kernel, by decide +kernel, rfl⟩
def mJ1_charAt_3b067 : Mm := (yJ1_charAt_3b067, cJ1_charAt_3b067, 2, (some .char))
theorem kmJ1_charAt_3b067 : MK mJ1_charAt_3b067 2 := ⟨by decide +kernel, tbl_of (List.mem_of_getElem? (i := 476) (by decide +kernel)) rfl, tbl_of (List.mem_of_getElem? (i := 84) (by decide +kernel)) rfl, by decide +kernel, by decide +kernel, by decide +kernel, rfl⟩
def mJ0_charAt_5068e : Mm := (yJ0_charAt_5068e, cJ0_charAt_5068e, 2, (some .char))
theorem kmJ0_charAt_5068e : MK mJ0_charAt_5068e 1 := ⟨by decide +kernel, tbl_of (List.mem_of_getElem? (i := 469) (by decide +kernel)) rfl, tbl_of (List.mem_of_getElem? (i := 83) (by decide +kernel)) rfl, by decide +kernel, by decide +kernel, by decide +kernel, rfl⟩
section JDK
variable {l : Launch} {q v : Nat} {Hh : Heap}
theorem j_coder (d : Nat) : JM l mJ0_coder_7d493 d [.ref q] q v Hh (some (.int 0)) := by
  refine JM.of kmJ0_coder_7d493 rfl ?_
  intro p e s m args below meth c lj hh hJx hret hlk hJ hl
  obtain ⟨hx, hb, hml, hown, hts, hfr, hlo⟩ := id hJx
  have hS := s_triv s Hh hh
  rw [← hh] at hJ
  refine va_gets hx hb hJ.2.1 hS hown (hts _ (tbl_of (List.mem_of_getElem? (i := 464) (by decide +kernel)) rfl)) (fun _ h9 => h9) dJ0_coder_7d493_0 ?_
  refine lv_if_eq hx hb dJ0_coder_7d493_3 (tgt := 13) rfl (fun z => absurd z (by decide)) (fun _ => ?_)
  refine lv_aload_n hx hb dJ0_coder_7d493_6 rfl (lv_at hl 0 rfl) ?_
  refine vk_getf hx hb (hJ.1.1 0 (by decide)).2.1 hS hown (hts _ (tbl_of (List.mem_of_getElem? (i := 1402) (by decide +kernel)) rfl)) (fun _ h9 => h9) dJ0_coder_7d493_7 ?_
  refine lv_goto hx hb dJ0_coder_7d493_10 (tgt := 14) rfl ?_
  exact W.zret hx hb hret rfl (fun t ht hW => ⟨rfl, ht⟩) (fun q hq => by cases hq) dJ0_coder_7d493_14
theorem j_isLatin1 (d : Nat) : JM l mJ0_isLatin1_aae02 d [.ref q] q v Hh (some (.int 1)) := by
  refine JM.of kmJ0_isLatin1_aae02 rfl ?_
  intro p e s m args below meth c lj hh hJx hret hlk hJ hl
  obtain ⟨hx, hb, hml, hown, hts, hfr, hlo⟩ := id hJx
  have hS := s_triv s Hh hh
  rw [← hh] at hJ
  refine va_gets hx hb hJ.2.1 hS hown (hts _ (tbl_of (List.mem_of_getElem? (i := 464) (by decide +kernel)) rfl)) (fun _ h9 => h9) dJ0_isLatin1_aae02_0 ?_
  refine lv_if_eq hx hb dJ0_isLatin1_aae02_3 (tgt := 17) rfl (fun z => absurd z (by decide)) (fun _ => ?_)
  refine lv_aload_n hx hb dJ0_isLatin1_aae02_6 rfl (lv_at hl 0 rfl) ?_
  refine vk_getf hx hb (hJ.1.1 0 (by decide)).2.1 hS hown (hts _ (tbl_of (List.mem_of_getElem? (i := 1402) (by decide +kernel)) rfl)) (fun _ h9 => h9) dJ0_isLatin1_aae02_7 ?_
  refine lv_if_ne hx hb dJ0_isLatin1_aae02_10 (tgt := 17) rfl (fun z => absurd rfl z) (fun _ => ?_)
  refine lv_iconst (v := 1) hx hb dJ0_isLatin1_aae02_13 (by decide) ?_
  refine lv_goto hx hb dJ0_isLatin1_aae02_14 (tgt := 18) rfl ?_
  exact W.zret hx hb hret rfl (fun t ht hW => ⟨rfl, ht⟩) (fun q hq => by cases hq) dJ0_isLatin1_aae02_18
theorem j_length (d : Nat) : JM l mJ0_length_8abf5 (d + 1) [.ref q] q v Hh (some (.int 46)) := by
  refine JM.of kmJ0_length_8abf5 rfl ?_
  intro p e s m args below meth c lj hh hJx hret hlk hJ hl
  obtain ⟨hx, hb, hml, hown, hts, hfr, hlo⟩ := id hJx
  have hS := s_triv s Hh hh
  have hJ0 := hJ
  rw [← hh] at hJ
  refine lv_aload_n hx hb dJ0_length_8abf5_0 rfl (lv_at hl 0 rfl) ?_
  refine vk_getf hx hb (hJ.1.1 0 (by decide)).2.2.1 hS hown (hts _ (tbl_of (List.mem_of_getElem? (i := 1401) (by decide +kernel)) rfl)) (fun _ h9 => h9) dJ0_length_8abf5_1 ?_
  refine va_tlen (v := 46) hx hb (hJ.1.1 0 (by decide)).2.2.2 hS (by decide) dJ0_length_8abf5_4 ?_
  refine lv_aload_n hx hb dJ0_length_8abf5_5 rfl (lv_at hl 0 rfl) ?_
  refine j_V (mm := mJ0_length_8abf5) (mk := mJ0_coder_7d493) 6 [] (rest := [.int 46]) hJx dJ0_length_8abf5_6 kmJ0_coder_7d493 (tbl_of (List.mem_of_getElem? (i := 460) (by decide +kernel)) rfl) (tbl_of (List.mem_of_getElem? (i := 461) (by decide +kernel)) rfl) (tbl_of (List.mem_of_getElem? (i := 462) (by decide +kernel)) rfl) (j_coder d) (vk_recv hJ.1 (i := 0) (by decide) hS) hJ0 rfl hl.1 rfl (by decide) ⟨Nat.le_refl _, Nat.le_refl _⟩ ?_
  refine lv_ishr hx hb dJ0_length_8abf5_9 ?_
  exact W.iret hx hb hret (fun t ht hW => ⟨by rfl, ht⟩) (fun q hq => by cases hq) dJ0_length_8abf5_10
theorem i_lt' {a b : Nat} (ha : a < 2147483648) (hb : b < 2147483648) : (Int32.ofNat a < Int32.ofNat b) ↔ a < b := by
  have h1 : Int32.ofNat a = Int32.ofInt (a : Int) := rfl
  have h2 : Int32.ofNat b = Int32.ofInt (b : Int) := rfl
  rw [h1, h2, i_lt ⟨by omega, by omega⟩ ⟨by omega, by omega⟩]; omega
theorem i_neg' {a : Nat} (ha : a < 2147483648) : ¬ Int32.ofNat a < 0 := by
  have h := i_lt' (a := a) (b := 0) ha (by omega)
  intro z
  exact absurd (h.mp z) (by omega)
theorem j_check3 (d : Nat) {k r : Nat} (hk : k < 46) : JM l mJ3_checkIndex_8e157 d [.int (Int32.ofNat k), .int 46, .ref r] q v Hh (some (.int (Int32.ofNat k))) := by
  refine JM.of kmJ3_checkIndex_8e157 rfl ?_
  intro p e s m args below meth c lj hh hJx hret hlk hJ hl
  obtain ⟨hx, hb, hml, hown, hts, hfr, hlo⟩ := id hJx
  refine lv_iload_n hx hb dJ3_checkIndex_8e157_0 rfl (lv_at hl 0 rfl) ?_
  refine lv_if_lt hx hb dJ3_checkIndex_8e157_1 (tgt := 9) rfl (fun z => absurd z (i_neg' (by omega))) (fun _ => ?_)
  refine lv_iload_n hx hb dJ3_checkIndex_8e157_4 rfl (lv_at hl 0 rfl) ?_
  refine lv_iload_n hx hb dJ3_checkIndex_8e157_5 rfl (lv_at hl 1 rfl) ?_
  refine lv_icmp_lt hx hb dJ3_checkIndex_8e157_6 (tgt := 16) rfl (fun _ => ?_) (fun z => absurd ((i_lt' (a := k) (b := 46) (by omega) (by omega)).mpr hk) z)
  refine lv_iload_n hx hb dJ3_checkIndex_8e157_16 rfl (lv_at hl 0 rfl) ?_
  exact W.iret hx hb hret (fun t ht hW => ⟨rfl, ht⟩) (fun q hq => by cases hq) dJ3_checkIndex_8e157_17
theorem j_check3N (d : Nat) {k : Nat} (hk : k < 46) : JM l mJ3_checkIndex_8e157 d [.int (Int32.ofNat k), .int 46, .null] q v Hh (some (.int (Int32.ofNat k))) := by
  refine JM.of kmJ3_checkIndex_8e157 rfl ?_
  intro p e s m args below meth c lj hh hJx hret hlk hJ hl
  obtain ⟨hx, hb, hml, hown, hts, hfr, hlo⟩ := id hJx
  refine lv_iload_n hx hb dJ3_checkIndex_8e157_0 rfl (lv_at hl 0 rfl) ?_
  refine lv_if_lt hx hb dJ3_checkIndex_8e157_1 (tgt := 9) rfl (fun z => absurd z (i_neg' (by omega))) (fun _ => ?_)
  refine lv_iload_n hx hb dJ3_checkIndex_8e157_4 rfl (lv_at hl 0 rfl) ?_
  refine lv_iload_n hx hb dJ3_checkIndex_8e157_5 rfl (lv_at hl 1 rfl) ?_
  refine lv_icmp_lt hx hb dJ3_checkIndex_8e157_6 (tgt := 16) rfl (fun _ => ?_) (fun z => absurd ((i_lt' (a := k) (b := 46) (by omega) (by omega)).mpr hk) z)
  refine lv_iload_n hx hb dJ3_checkIndex_8e157_16 rfl (lv_at hl 0 rfl) ?_
  exact W.iret hx hb hret (fun t ht hW => ⟨rfl, ht⟩) (fun q hq => by cases hq) dJ3_checkIndex_8e157_17
theorem j_check (d : Nat) {k : Nat} (hk : k < 46) : JM l mJ0_checkIndex_df160 (d + 1) [.int (Int32.ofNat k), .int 46] q v Hh none := by
  refine JM.of kmJ0_checkIndex_df160 rfl ?_
  intro p e s m args below meth c lj hh hJx hret hlk hJ hl
  obtain ⟨hx, hb, hml, hown, hts, hfr, hlo⟩ := id hJx
  have hS := s_triv s Hh hh
  have hJ0 := hJ
  rw [← hh] at hJ
  rcases hJ.2.2 with hr | ⟨r, hr⟩
  · refine lv_iload_n hx hb dJ0_checkIndex_df160_0 rfl (lv_at hl 0 rfl) ?_
    refine lv_iload_n hx hb dJ0_checkIndex_df160_1 rfl (lv_at hl 1 rfl) ?_
    refine va_gets hx hb hr hS hown (hts _ (tbl_of (List.mem_of_getElem? (i := 480) (by decide +kernel)) rfl)) (fun _ h9 => h9) dJ0_checkIndex_df160_2 ?_
    refine j_S (mm := mJ0_checkIndex_df160) (mk := mJ3_checkIndex_8e157) 5 [.int (Int32.ofNat k), .int 46, .null] (rest := []) hJx dJ0_checkIndex_df160_5 kmJ3_checkIndex_8e157 (tbl_of (List.mem_of_getElem? (i := 482) (by decide +kernel)) rfl) (tbl_of (List.mem_of_getElem? (i := 483) (by decide +kernel)) rfl) (j_check3N d hk) hJ0 rfl hl.1 rfl (by decide) ⟨Nat.le_refl _, Nat.le_refl _⟩ ?_
    refine lv_pop hx hb dJ0_checkIndex_df160_8 rfl ?_
    exact W.vret hx hb hret (fun t ht hW => ⟨rfl, ht⟩) (fun q hq => by cases hq) dJ0_checkIndex_df160_9
  · refine lv_iload_n hx hb dJ0_checkIndex_df160_0 rfl (lv_at hl 0 rfl) ?_
    refine lv_iload_n hx hb dJ0_checkIndex_df160_1 rfl (lv_at hl 1 rfl) ?_
    refine va_gets hx hb hr hS hown (hts _ (tbl_of (List.mem_of_getElem? (i := 480) (by decide +kernel)) rfl)) (fun _ h9 => h9) dJ0_checkIndex_df160_2 ?_
    refine j_S (mm := mJ0_checkIndex_df160) (mk := mJ3_checkIndex_8e157) 5 [.int (Int32.ofNat k), .int 46, .ref r] (rest := []) hJx dJ0_checkIndex_df160_5 kmJ3_checkIndex_8e157 (tbl_of (List.mem_of_getElem? (i := 482) (by decide +kernel)) rfl) (tbl_of (List.mem_of_getElem? (i := 483) (by decide +kernel)) rfl) (j_check3 d hk) hJ0 rfl hl.1 rfl (by decide) ⟨Nat.le_refl _, Nat.le_refl _⟩ ?_
    refine lv_pop hx hb dJ0_checkIndex_df160_8 rfl ?_
    exact W.vret hx hb hret (fun t ht hW => ⟨rfl, ht⟩) (fun q hq => by cases hq) dJ0_checkIndex_df160_9
theorem sB_ok : ∀ k, k < 46 → ((SB.getD k 0 &&& 255).toUInt32 % 65536).toInt32 = Int32.ofInt (sL k) := by decide +kernel
theorem sB_in : ∀ k, k < 46 → 32 ≤ sL k ∧ sL k ≤ 126 := by decide +kernel
theorem sB_nar : ∀ k, k < 46 → narrow .char (.int (Int32.ofInt (sL k))) = .int (Int32.ofInt (sL k)) := by
  intro k hk
  have h : (Int32.ofInt (sL k)).toUInt32.toUInt16.toUInt32.toInt32 = Int32.ofInt (sL k) := by revert k; decide +kernel
  simp only [narrow, h]
theorem j_charAtL (d : Nat) {k : Nat} (hk : k < 46) : JM l mJ1_charAt_3b067 (d + 2) [.ref v, .int (Int32.ofNat k)] q v Hh (some (.int (Int32.ofInt (sL k)))) := by
  refine JM.of kmJ1_charAt_3b067 rfl ?_
  intro p e s m args below meth c lj hh hJx hret hlk hJ hl
  obtain ⟨hx, hb, hml, hown, hts, hfr, hlo⟩ := id hJx
  have hS := s_triv s Hh hh
  have hJ0 := hJ
  rw [← hh] at hJ
  refine lv_iload_n hx hb dJ1_charAt_3b067_0 rfl (lv_at hl 1 rfl) ?_
  refine lv_aload_n hx hb dJ1_charAt_3b067_1 rfl (lv_at hl 0 rfl) ?_
  refine va_tlen (v := 46) hx hb (hJ.1.1 0 (by decide)).2.2.2 hS (by decide) dJ1_charAt_3b067_2 ?_
  refine j_S (mm := mJ1_charAt_3b067) (mk := mJ0_checkIndex_df160) 3 [.int (Int32.ofNat k), .int 46] (rest := []) hJx dJ1_charAt_3b067_3 kmJ0_checkIndex_df160 (tbl_of (List.mem_of_getElem? (i := 477) (by decide +kernel)) rfl) (tbl_of (List.mem_of_getElem? (i := 478) (by decide +kernel)) rfl) (j_check d hk) hJ0 rfl hl.1 rfl (by decide) ⟨Nat.le_refl _, Nat.le_refl _⟩ ?_
  refine lv_aload_n hx hb dJ1_charAt_3b067_6 rfl (lv_at hl 0 rfl) ?_
  refine lv_iload_n hx hb dJ1_charAt_3b067_7 rfl (lv_at hl 1 rfl) ?_
  have hkn : (Int32.ofNat k).toNatClampNeg = k := by
    have := i_nat (x := (k : Int)) ⟨by omega, by omega⟩
    show (Int32.ofInt (k : Int)).toNatClampNeg = k
    rw [this]; omega
  refine va_tb (v := .int (SB.getD k 0)) hx hb (hJ.1.1 0 (by decide)).2.2.2 hS ?_ (by rw [hkn]; rfl) dJ1_charAt_3b067_8 ?_
  · exact i_in (x := (k : Int)) (n := 46) ⟨by omega, by omega⟩ (by omega) (by omega)
  refine lv_sipush (v := 255) hx hb dJ1_charAt_3b067_9 (by decide) ?_
  refine lv_iand hx hb dJ1_charAt_3b067_12 ?_
  refine lv_i2c hx hb dJ1_charAt_3b067_13 (sB_ok k hk) ?_
  exact W.zret hx hb hret (sB_nar k hk) (fun t ht hW => ⟨rfl, ht⟩) (fun q hq => by cases hq) dJ1_charAt_3b067_14
theorem j_charAt (d : Nat) {k : Nat} (hk : k < 46) : JM l mJ0_charAt_5068e (d + 3) [.ref q, .int (Int32.ofNat k)] q v Hh (some (.int (Int32.ofInt (sL k)))) := by
  refine JM.of kmJ0_charAt_5068e rfl ?_
  intro p e s m args below meth c lj hh hJx hret hlk hJ hl
  obtain ⟨hx, hb, hml, hown, hts, hfr, hlo⟩ := id hJx
  have hS := s_triv s Hh hh
  have hJ0 := hJ
  rw [← hh] at hJ
  refine lv_aload_n hx hb dJ0_charAt_5068e_0 rfl (lv_at hl 0 rfl) ?_
  refine j_V (mm := mJ0_charAt_5068e) (mk := mJ0_isLatin1_aae02) 1 [] (rest := []) hJx dJ0_charAt_5068e_1 kmJ0_isLatin1_aae02 (tbl_of (List.mem_of_getElem? (i := 470) (by decide +kernel)) rfl) (tbl_of (List.mem_of_getElem? (i := 471) (by decide +kernel)) rfl) (tbl_of (List.mem_of_getElem? (i := 472) (by decide +kernel)) rfl) (j_isLatin1 (d + 2)) (vk_recv hJ.1 (i := 0) (by decide) hS) hJ0 rfl hl.1 rfl (by decide) ⟨Nat.le_refl _, Nat.le_refl _⟩ ?_
  refine lv_if_eq hx hb dJ0_charAt_5068e_4 (tgt := 16) rfl (fun z => absurd z (by decide)) (fun _ => ?_)
  refine lv_aload_n hx hb dJ0_charAt_5068e_7 rfl (lv_at hl 0 rfl) ?_
  refine vk_getf hx hb (hJ.1.1 0 (by decide)).2.2.1 hS hown (hts _ (tbl_of (List.mem_of_getElem? (i := 1401) (by decide +kernel)) rfl)) (fun _ h9 => h9) dJ0_charAt_5068e_8 ?_
  refine lv_iload_n hx hb dJ0_charAt_5068e_11 rfl (lv_at hl 1 rfl) ?_
  refine j_S (mm := mJ0_charAt_5068e) (mk := mJ1_charAt_3b067) 12 [.ref v, .int (Int32.ofNat k)] (rest := []) hJx dJ0_charAt_5068e_12 kmJ1_charAt_3b067 (tbl_of (List.mem_of_getElem? (i := 474) (by decide +kernel)) rfl) (tbl_of (List.mem_of_getElem? (i := 475) (by decide +kernel)) rfl) (j_charAtL d hk) hJ0 rfl hl.1 rfl (by decide) ⟨Nat.le_refl _, Nat.le_refl _⟩ ?_
  exact W.zret hx hb hret (sB_nar k hk) (fun t ht hW => ⟨rfl, ht⟩) (fun q hq => by cases hq) dJ0_charAt_5068e_15
end JDK
section SEV
variable {l : Launch} {g : Gt} {mm : Mm} {d bc bs : Nat} {Z : Zt} {I : It} {P : Pt'} {ls st : List Vv} {Q : Qt}
theorem SW.now {s : State} {H : Heap} (h : SW g s) (hR : Rel g Z I P H) : ∃ q v : Nat, vk_R "HungFromIce" 88 TX q s ∧ SJ q v s H := by
  obtain ⟨q, v, h1, h2⟩ := h.1
  exact ⟨q, v, h1, SJ.kept h2 (fun a ha => hR.2.1 a ha)⟩
theorem ev_strLen (pc : Nat) (hc : mm.1.cls = RX11) (hd1 : decode mm.2.1 pc = .ok (.ldc 88, 2)) (hd2 : decode mm.2.1 (pc + 2) = .ok (.invokevirtual 90, 3)) (h8 : Nat.ble ((st.map fun v => if isLg v = true then 2 else 1).sum) 8 = true := by rfl)
    (kk : Ev l g mm (d + 2) bc bs Z I P (pc + 5) ls (vI 46 :: st) Q) : Ev l g mm (d + 2) bc bs Z I P pc ls st Q := by
  intro p e R s m args below meth c H locs cells slots lj hF hD hbc hbs
  obtain ⟨hx, hb, hml, hr, hlk, hnm, hts, hown, hK, hfr, hlo⟩ := id hF
  obtain ⟨q, v, hq, hJ⟩ := (SW.now hK.2.2 hD.1)
  have hown' : s.vm.findClass "HungFromIce" = some m.cls := by rw [hc] at hown; exact hown
  have k1 := kk p e R s m args below meth c H locs (H.size - s.heap.size) (hsz H (g0 g) - hsz s.heap (g0 g)) lj hF ⟨hD.1, hD.2.1, hD.2.2.1, hD.2.2.2.1, fun v hv => by
    rcases List.mem_cons.mp hv with h | h
    · rw [h]; exact ⟨by decide, by decide⟩
    · exact hD.2.2.2.2 v h⟩ hbc hbs
  refine W.tight2 hbc.1 (fun hm1 hm2 => ?_)
  have hb1 := hbc.2
  have hb2 : TZ Z + _ ≤ _ := hbs
  rw [← rel_hsz hD.1] at hb2
  have hH := hD.1.1
  refine va_ldcS hx hb hown' hq hd1 ?_
  have hrec : ∃ cell : Cell, H[q]? = some cell ∧ cell.vm.isStatics = false ∧ s.vm.findClass "java/lang/String" = some cell.cls := by
    obtain ⟨cell, h1, h2, h3, -⟩ := (hJ.1.1 0 (by decide)).1
    exact ⟨cell, h1, h2, h3⟩
  refine j_V (mm := mm) (mk := mJ0_length_8abf5) (d := d + 1) (pc + 2) [] (rest := st.map (toV g)) ⟨hx, hb, hml, hown, hts, hfr, hlo⟩ hd2 kmJ0_length_8abf5 (by rw [hc]; exact tbl_of (List.mem_of_getElem? (i := 456) (by decide +kernel)) rfl) (tbl_of (List.mem_of_getElem? (i := 457) (by decide +kernel)) rfl) (tbl_of (List.mem_of_getElem? (i := 458) (by decide +kernel)) rfl) (j_length d) hrec hJ rfl hD.2.2.1.1 rfl (cat_sum g st (Nat.le_of_ble_eq_true h8)) ⟨by omega, by omega⟩ ?_
  exact k1
theorem ev_strAt (pc : Nat) {k : Nat} {x : Int} (hx : x = (k : Int)) (hk : k < 46) (hc : mm.1.cls = RX11) (hd1 : decode mm.2.1 pc = .ok (.ldc 88, 2)) (hd2 : decode mm.2.1 (pc + 2) = .ok (.iload_n 1, 1)) (hd3 : decode mm.2.1 (pc + 3) = .ok (.invokevirtual 96, 3)) (h1 : ls[1]? = some (vI x)) (h8 : Nat.ble ((st.map fun v => if isLg v = true then 2 else 1).sum) 8 = true := by rfl)
    (kk : Ev l g mm (d + 4) bc bs Z I P (pc + 6) ls (vI (sL k) :: st) Q) : Ev l g mm (d + 4) bc bs Z I P pc ls st Q := by
  subst hx
  intro p e R s m args below meth c H locs cells slots lj hF hD hbc hbs
  obtain ⟨hx, hb, hml, hr, hlk, hnm, hts, hown, hK, hfr, hlo⟩ := id hF
  obtain ⟨q, v, hq, hJ⟩ := (SW.now hK.2.2 hD.1)
  have hown' : s.vm.findClass "HungFromIce" = some m.cls := by rw [hc] at hown; exact hown
  have k1 := kk p e R s m args below meth c H locs (H.size - s.heap.size) (hsz H (g0 g) - hsz s.heap (g0 g)) lj hF ⟨hD.1, hD.2.1, hD.2.2.1, hD.2.2.2.1, fun v hv => by
    rcases List.mem_cons.mp hv with h | h
    · have := sB_in k hk
      rw [h]; exact ⟨by omega, by omega⟩
    · exact hD.2.2.2.2 v h⟩ hbc hbs
  refine W.tight2 hbc.1 (fun hm1 hm2 => ?_)
  have hb1 := hbc.2
  have hb2 : TZ Z + _ ≤ _ := hbs
  rw [← rel_hsz hD.1] at hb2
  have hH := hD.1.1
  refine va_ldcS hx hb hown' hq hd1 ?_
  refine lv_iload_n hx hb hd2 rfl (lv_rd hD.2.2.1 h1 rfl) ?_
  have hrec : ∃ cell : Cell, H[q]? = some cell ∧ cell.vm.isStatics = false ∧ s.vm.findClass "java/lang/String" = some cell.cls := by
    obtain ⟨cell, h1, h2, h3, -⟩ := (hJ.1.1 0 (by decide)).1
    exact ⟨cell, h1, h2, h3⟩
  refine j_V (mm := mm) (mk := mJ0_charAt_5068e) (d := d + 3) (pc + 3) [.int (Int32.ofNat k)] (rest := st.map (toV g)) ⟨hx, hb, hml, hown, hts, hfr, hlo⟩ hd3 kmJ0_charAt_5068e (by rw [hc]; exact tbl_of (List.mem_of_getElem? (i := 466) (by decide +kernel)) rfl) (tbl_of (List.mem_of_getElem? (i := 467) (by decide +kernel)) rfl) (tbl_of (List.mem_of_getElem? (i := 468) (by decide +kernel)) rfl) (j_charAt d hk) hrec hJ rfl hD.2.2.1.1 rfl (cat_sum g st (Nat.le_of_ble_eq_true h8)) ⟨by omega, by omega⟩ ?_
  exact k1
end SEV
