/-! THE CLAIM OUT OF ONE WALK OF THE LAW'S BODY. Your part is whole_start (and what it stands on); all else here is the same for every law, but numbers. -/
def R_law : String := "HungFromIceLaw"
def lw_P (b : Addr) (xs : List Int32) (args : Array Value) (s : State) : Prop := args = #[.ref b] ∧ s.IntsAt b xs ∧ xs.length ≤ 384 ∧ (Jvm.Cond.and given_1 narrow_1).before args s = true
def lw_Q (_ : Array Value) (s : State) (o : Outcome) (t : State) : Prop := o = .returned (some (.int 1)) ∧ Framed s o t [] 600000 7302250
def lw_Z (below : List Frame) (a : Array Value) (s : State) : State → Prop := fun t => ∃ o, t.status = .running ∧ Ended t below o ∧ lw_Q a s o t
/-- the law's own end, with 1 on the stack, nothing written that was there before, its room as the claim has it -/
theorem lw_ret {p : Program} {l : Launch} {e : Env} {s : State} {m : MethodId} {below : List Frame} {meth : Method} {c : Code} {b : Nat} (hx : p.tables.exec = Jvm.exec) (hb : c.code = code) (hr : meth.sig.returnType = ret) (hlocks : meth.locks = false) {pc : Nat} {H : Heap} {ls : Array Slot} (hdg : decode code pc = .ok (.ireturn, 1)) : W p l e room_1 s m #[Value.ref b] below meth c H [] 600000 7302250 (lw_Z below #[Value.ref b] s) (F0 m pc ls [.int 1]) := by
  intro T hT X
  obtain ⟨fs, hret, hrun, hended, hW, hframe⟩ := X.leave (v := some (.int 1)) (hlocks := hlocks) (fun h => by rw [hr] at h; cases h)
  have hmeth' : T.vm.method? m = some meth := X.method'
  refine ⟨T.setFrames fs, ?_, .returned (some (.int 1)), hrun, hended, rfl, ⟨_, rfl⟩, hW, hframe⟩
  jvm_step X.here [X.here.top, hx, hb, hdg, hmeth', hr, ret, narrow_b1]
  (try refine ⟨rfl, ?_⟩); (try refine ⟨rfl, ?_⟩)
  first | (intro acts; rw [hret _ acts rfl rfl rfl]) | rw [hret _ _ rfl rfl rfl]
  exact Steps.refl _
/-- what holds at the law's entry: the machine, the code, the tables' words (any of lw_tbl by 'hts w (by decide +kernel)'), the script of L ints xs at the cell b, what the Statement gives of the start (any of its parts by flat_of_before) -/
def lw_At (p : Program) (s : State) (m : MethodId) (meth : Method) (c : Code) (b L : Nat) (xs : Nat → Int32) : Prop :=
  p.tables.exec = Jvm.exec ∧ c.code = code ∧ meth.sig.returnType = ret ∧ c.maxLocals = 4 ∧ s.vm.findClass R_law = some m.cls ∧ (∀ w ∈ lw_tbl, w.before #[Value.ref b] s = true) ∧ va_X b L xs s s.heap ∧ b < s.heap.size ∧ meth.locks = false ∧ (Jvm.Cond.and given_1 narrow_1).before #[Value.ref b] s = true ∧ meth.name = yL_law.name
theorem law_arr {args : Array Value} {s : State} {ty : FieldType} (hp : ∀ C, ty ≠ .object C) (h : (Cond.arrayClass ty).before args s = true) : ∃ cA : ClassId, ArrOfT s cA ty ∧ va_RA s cA ty := by
  obtain ⟨cA, kA, comp, h1, h2, h3⟩ := Cond.arrayClass_spec h
  refine ⟨cA, fun n z => ⟨fun k h => (by cases h), kA, h2, comp, h3⟩, ?_⟩
  cases ty with
  | object C => exact absurd rfl (hp C)
  | _ => exact h1
theorem law_arrO {args : Array Value} {s : State} {C : String} (h : (Cond.arrayOver (.object C)).before args s = true) : ∃ cA : ClassId, ArrOfT s cA (.object C) ∧ va_RA s cA (.object C) := by
  obtain ⟨comp, cA, kA, h1, h2, h3, h4, h5⟩ := Cond.arrayOver_spec h
  exact ⟨cA, fun n z => ⟨fun k h => (by cases h), kA, h3, comp, h4⟩, kA, comp, h3, h4, h1, h5⟩
theorem law_cls {args : Array Value} {s : State} (hts : ∀ w ∈ tbl, w.before args s = true) : ∃ (dC : Nat → ClassId) (dI : Nat → Nat → Nat), ∀ (k : Nat) (q : vw_C), vwCl[k]? = some q → u_Kn s q.1 q.2.1 q.2.2 (dC k) (dI k) := by
  have h : ∀ k : Nat, ∃ (c : ClassId) (i : Nat → Nat), ∀ q : vw_C, vwCl[k]? = some q → u_Kn s q.1 q.2.1 q.2.2 c i := by
    intro k
    match k with
    | 0 =>
      obtain ⟨c, i, hk⟩ := u_known (C := RX0) (T := TX0) (N := 5) (n := 5) hts iu_0 (hts _ in_0)
      exact ⟨c, i, fun q hq => by cases hq; exact hk⟩
    | 1 =>
      obtain ⟨c, i, hk⟩ := u_known (C := RX1) (T := TX1) (N := 5) (n := 5) hts iu_1 (hts _ in_1)
      exact ⟨c, i, fun q hq => by cases hq; exact hk⟩
    | 2 =>
      obtain ⟨c, i, hk⟩ := u_known (C := RX2) (T := TX2) (N := 7) (n := 7) hts iu_2 (hts _ in_2)
      exact ⟨c, i, fun q hq => by cases hq; exact hk⟩
    | 3 =>
      obtain ⟨c, i, hk⟩ := u_known (C := RX3) (T := TX3) (N := 8) (n := 8) hts iu_3 (hts _ in_3)
      exact ⟨c, i, fun q hq => by cases hq; exact hk⟩
    | 4 =>
      obtain ⟨c, i, hk⟩ := u_known (C := RX4) (T := TX4) (N := 3) (n := 3) hts iu_4 (hts _ in_4)
      exact ⟨c, i, fun q hq => by cases hq; exact hk⟩
    | 5 =>
      obtain ⟨c, i, hk⟩ := u_known (C := RX5) (T := TX5) (N := 2) (n := 2) hts iu_5 (hts _ in_5)
      exact ⟨c, i, fun q hq => by cases hq; exact hk⟩
    | 6 =>
      obtain ⟨c, i, hk⟩ := u_known (C := RX6) (T := TX6) (N := 2) (n := 2) hts iu_6 (hts _ in_6)
      exact ⟨c, i, fun q hq => by cases hq; exact hk⟩
    | 7 =>
      obtain ⟨c, i, hk⟩ := u_known (C := RX7) (T := TX7) (N := 4) (n := 4) hts iu_7 (hts _ in_7)
      exact ⟨c, i, fun q hq => by cases hq; exact hk⟩
    | 8 =>
      obtain ⟨c, i, hk⟩ := u_known (C := RX8) (T := TX8) (N := 8) (n := 8) hts iu_8 (hts _ in_8)
      exact ⟨c, i, fun q hq => by cases hq; exact hk⟩
    | 9 =>
      obtain ⟨c, i, hk⟩ := u_known (C := RX9) (T := TX9) (N := 4) (n := 4) hts iu_9 (hts _ in_9)
      exact ⟨c, i, fun q hq => by cases hq; exact hk⟩
    | 10 =>
      obtain ⟨c, i, hk⟩ := u_known (C := RX10) (T := TX10) (N := 17) (n := 17) hts iu_10 (hts _ in_10)
      exact ⟨c, i, fun q hq => by cases hq; exact hk⟩
    | 11 =>
      obtain ⟨c, i, hk⟩ := u_known (C := RX11) (T := TX11) (N := 12) (n := 12) hts iu_11 (hts _ in_11)
      exact ⟨c, i, fun q hq => by cases hq; exact hk⟩
    | 12 =>
      obtain ⟨c, i, hk⟩ := u_known (C := RX12) (T := TX12) (N := 23) (n := 23) hts iu_12 (hts _ in_12)
      exact ⟨c, i, fun q hq => by cases hq; exact hk⟩
    | k + 13 =>
      obtain ⟨c, i, hk⟩ := u_known (C := RX0) (T := TX0) (N := 5) (n := 5) hts iu_0 (hts _ in_0)
      exact ⟨c, i, fun q hq => by simp [vwCl] at hq⟩
  obtain ⟨dC, h1⟩ := Classical.axiomOfChoice h
  obtain ⟨dI, h2⟩ := Classical.axiomOfChoice h1
  exact ⟨dC, dI, h2⟩
theorem law_str {b : Nat} {s : State} (hlt : ∀ w ∈ lw_tbl, w.before #[Value.ref b] s = true) (hgv : (Jvm.Cond.and given_1 narrow_1).before #[Value.ref b] s = true) : ∃ q v : Nat, vk_R "HungFromIce" 88 TX q s ∧ SJ q v s s.heap := by
  have hs := flat_of_before _ hgv
  have hA : ∀ a : Nat, a < s.heap.size → ¬ (fun _ : Nat => False) a := fun _ _ h => h
  have one : ∀ i : Nat, i < 1 → i = 0 := fun i h => by omega
  obtain ⟨adK, adV, h1, h2⟩ := vk_Sof (args := #[Value.ref b]) (s := s) (N := 1) (tm := fun _ => .string "HungFromIce" 88) (len := [46]) (byt := [SB]) (A := fun _ => False)
    (fun i hi => by obtain rfl := one i hi; decide) (fun i hi => by obtain rfl := one i hi; exact hs _ (by decide +kernel)) (fun i hi => by obtain rfl := one i hi; exact hs _ (by decide +kernel)) (fun i hi => by obtain rfl := one i hi; exact hs _ (by decide +kernel))
    (fun i hi => by obtain rfl := one i hi; exact hs _ (by decide +kernel))
    (fun i hi j hj => by
      obtain rfl := one i hi
      have hm : ∀ j : Nat, j < 46 → (Cond.eq (.elem (.field (.string "HungFromIce" 88) "java/lang/String" "value" "[B") (.int (Int32.ofNat j))) (.int (SB.getD j 0))) ∈ flatC (Jvm.Cond.and given_1 narrow_1) := by decide +kernel
      exact hs _ (hm j hj))
    (fun i j hi hj hij => by have := one i hi; have := one j hj; omega) hA
  refine ⟨adK 0, adV 0, vk_R.of (A := #[Value.ref b]) (hlt _ (List.mem_of_getElem? (i := 455) (by decide +kernel))) (h2 0 (by decide)), ⟨fun i hi => ?_, fun i j hi hj _ => by have := one i hi; have := one j hj; omega⟩, ?_, ?_⟩
  · obtain rfl := one i hi
    exact h1.1 0 (by decide)
  · exact va_Zof (hlt _ (List.mem_of_getElem? (i := 465) (by decide +kernel))) (hlt _ (List.mem_of_getElem? (i := 83) (by decide +kernel))) (va_eqt (hs _ (by decide +kernel))) hA
  · exact va_Zqof (hlt _ (List.mem_of_getElem? (i := 481) (by decide +kernel))) (hlt _ (List.mem_of_getElem? (i := 85) (by decide +kernel))) (hs _ (by decide +kernel)) hA
theorem law_end {below : List Frame} {b : Nat} {s : State} {g : Gt} (hg : g0 g = s.heap.size) {mc ms : Nat} (hmc : mc ≤ 600000) (hms : ms ≤ 7302250) {t : State} (h : MQ below (Qe g QO) #[Value.ref b] s mc ms (fun q => g0 g ≤ q) t) : lw_Z below #[Value.ref b] s t := by
  obtain ⟨o, h1, h2, ⟨r, Z, I, P, h3, h4, -, -⟩, L, ⟨f1, f2, f3⟩, hL⟩ := h
  have h4' : r = some (vI 1) := h4
  subst h4'
  refine ⟨o, h1, h2, by rw [h3]; rfl, f1, f2, f3.weaken (fun y hy hlt => ?_) hmc hms⟩
  have := hL y hy
  rw [hg] at this
  exact absurd hlt (Nat.not_lt.mpr this)
theorem whole_start {p : Program} {e : Env} {s : State} {m : MethodId} {below : List Frame} {meth : Method} {c : Code} (l : Launch) (hflags : l.flags = flags0) {b L : Nat} {xs : Nat → Int32} (hL : L ≤ 384) (C0 : lw_At p s m meth c b L xs) : W p l e room_1 s m #[Value.ref b] below meth c s.heap [] 0 0 (lw_Z below #[Value.ref b] s) (entryFrame m ([Value.ref b] : List Value).toArray 4) := by
  obtain ⟨hx, hb, hr, hml, hown, hlt, hX, hbl, hlocks, hgv, hnm⟩ := id C0
  have hts : ∀ w ∈ tbl, w.before #[Value.ref b] s = true := fun w hw => hlt w (tbl_in hw)
  obtain ⟨dC, dI, hKc⟩ := law_cls hts
  obtain ⟨cz, az, rz⟩ := law_arr (fun C h => by cases h) (hts _ ac_boolean)
  obtain ⟨cb, ab, rb⟩ := law_arr (fun C h => by cases h) (hts _ ac_byte)
  obtain ⟨ci, ai, ri⟩ := law_arr (fun C h => by cases h) (hts _ ac_int)
  obtain ⟨cj, aj, rj⟩ := law_arr (fun C h => by cases h) (hts _ ac_long)
  obtain ⟨c5, a5, r5⟩ := law_arrO (hlt _ (List.mem_filter.mp ao_5).1)
  obtain ⟨c8, a8, r8⟩ := law_arrO (hlt _ (List.mem_filter.mp ao_8).1)
  obtain ⟨g, hg⟩ : ∃ g : Gt, g = (s.heap, (dC, dI), (fun k => if k = 13 then cz else if k = 14 then cb else if k = 15 then ci else if k = 16 then cj else if k = 17 then c5 else c8), b) := ⟨_, rfl⟩
  have hg0 : g0 g = s.heap.size := by rw [hg]; rfl
  obtain ⟨scr, x1, x2, x3, x4, x5⟩ := hX
  have hK : Kst g s := by
    refine ⟨⟨?_, ?_⟩, fun w hw => ?_, ?_⟩
    · rw [hg]; exact hKc
    · rw [hg]
      intro k q hq
      match k, hq with
      | 0, hq => cases hq; exact ⟨az, rz⟩
      | 1, hq => cases hq; exact ⟨ab, rb⟩
      | 2, hq => cases hq; exact ⟨ai, ri⟩
      | 3, hq => cases hq; exact ⟨aj, rj⟩
      | 4, hq => cases hq; exact ⟨a5, r5⟩
      | 5, hq => cases hq; exact ⟨a8, r8⟩
      | k + 6, hq => simp [tysOf] at hq
    · have h1 := hlt w (List.mem_filter.mp hw).1
      have h2 := (List.mem_filter.mp hw).2
      cases w <;> first | (simp [isNest] at h2; done) | exact va_Nw.of rfl h1 | (rename_i ty; cases ty <;> first | (simp [isNest] at h2; done) | exact va_AO.of h1)
    · obtain ⟨q, v, y1, y2⟩ := law_str hlt hgv
      exact ⟨⟨q, v, y1, by rw [hg]; exact y2⟩, scr, by rw [hg]; exact x1, x2, x3⟩
  have hS : SCR g (L : Int) (fun j => (xs j.toNat).toInt) := by
    refine ⟨by rw [hg0, hg]; exact hbl, by omega, fun j => i_of _, scr, by rw [hg]; exact x1, by rw [x4]; omega, fun j hj => ?_⟩
    rw [x5 j (by omega)]
    simp only [Int.toNat_natCast]
    rw [Int32.ofInt_toInt]
  have k := law_start (l := l) (g := g) hS
  have h1 := lv_entry ([.ref b] : List Value) (n := 4) (Nat.le_of_ble_eq_true rfl)
  rw [lg_entry_eq]
  generalize (lg_sl ([.ref b] : List Value) ++ List.replicate (4 - (lg_sl ([.ref b] : List Value)).length) Slot.unset).toArray = lj at h1 ⊢
  have hRel : Rel g Z0 (fun _ _ => 0) Pn s.heap := by
    refine ⟨by rw [hg0]; rfl, fun q hq => by rw [hg], fun a ha => absurd ha (Nat.not_lt_zero a), fun a _ => ⟨rfl, fun i => ⟨rfl, rfl⟩⟩, fun a i => ?_, fun a => ⟨by show (0 : Int) ≤ 0; omega, by show (0 : Int) ≤ _; omega⟩⟩
    unfold rgOK
    split
    · exact (show InL 0 from ⟨by omega, by omega⟩)
    · exact (show InR 0 from ⟨by omega, by omega⟩)
  have hF : Fx g mL 9 p room_1 s m #[Value.ref b] meth c := ⟨hx, hb, hml, hr, hlocks, hnm, hts, hown, hK, by decide, by decide⟩
  have k2 := k p e room_1 s m #[Value.ref b] below meth c s.heap [] 0 0 lj hF ⟨hRel, (fun q hq => by cases hq), (by
      have : lvFrom g 0 [vS, vX, vX, vX] = [(0, .ref b)] := by rw [hg]; rfl
      rw [this]; exact h1), (fun v hv => by simp only [List.mem_cons, List.not_mem_nil, or_false] at hv; rcases hv with rfl | rfl | rfl | rfl <;> exact trivial), (fun v hv => by cases hv)⟩ ⟨Nat.le_of_eq hg0, by rw [hg0]; show s.heap.size + 0 + 529 ≤ s.heap.size + 600000; omega⟩ (by show TZ Z0 + 76694 ≤ _ + 7302250; rw [show TZ Z0 = 0 from rfl]; omega)
  intro T hT X
  obtain ⟨t, s1, s2⟩ := k2 T hT X
  exact ⟨t, s1, law_end hg0 (Nat.le_refl _) (Nat.le_refl _) s2⟩
set_option maxHeartbeats 4000000 in
theorem lw_walk (l : Launch) (hflags : l.flags = flags0) (b : Addr) (xs : List Int32) : MetFree l x (headSpec (Jvm.Cond.code x code maxLocals ret :: tables_1) room_1) (lw_P b xs) (fun _ _ _ _ _ => True) lw_Q := by
  refine MetFree.of_bodyS (code := code) (maxLocals := maxLocals) (ret := ret) (by decide) ?_ ?_
  · intro args s m h hn
    obtain ⟨meth, c, h1, h2, h3, h4, h5, h6, -, -⟩ := Cond.code_spec hn (atoms_spec (ws := Jvm.Cond.code x code maxLocals ret :: tables_1) h _ List.mem_cons_self)
    exact ⟨meth, c, h1, h2, h3, h4, h5, h6⟩
  · intro p e s m args below meth c s₁ B hml0 hP _
    obtain ⟨rfl, hx, hbd, hgv⟩ := hP
    obtain ⟨scr, harrAt, hlist, hof, hsmall⟩ := hx
    obtain ⟨hcb, hkn, -, -⟩ := State.arrayAt?_spec harrAt
    have hown : s.vm.findClass R_law = some m.cls := findClass_of_methodNamed B.named
    have hts0 : ∀ c ∈ (Jvm.Cond.code x code maxLocals ret :: tables_1), c.before #[Value.ref b] s = true := atoms_spec (ws := Jvm.Cond.code x code maxLocals ret :: tables_1) B.pre
    have hts : ∀ w ∈ lw_tbl, w.before #[Value.ref b] s = true := k2_hts_sels lw_privs (fun w hw => hts0 w (List.mem_cons_of_mem _ hw)) lw_privs_ok
    have hml : c.maxLocals = 4 := B.maxLocals_eq (hts0 _ List.mem_cons_self)
    have X₀ : Stand p l e room_1 s m #[Value.ref b] below meth c s₁ [] 0 0 := Stand.of_body B
    have hh0 : s₁.heap = s.heap := by rw [B.state]; rfl
    have hsz : scr.slots.size = xs.length := by rw [← Array.length_toList, hlist, List.length_map]
    have hval : ∀ j : Nat, j < xs.length → scr.slots[j]? = some (.int (xs.getD j 0)) := fun j hj => by
      rw [← Array.getElem?_toList, hlist]
      simp [hj]
    have hbl : b < s.heap.size := (Array.getElem?_eq_some_iff.mp hcb).1
    have hX : va_X b xs.length (fun j => xs.getD j 0) s s.heap := ⟨scr, hcb, hof, hkn, hsz, hval⟩
    have K : W p l e room_1 s m #[Value.ref b] below meth c s₁.heap [] 0 0 (lw_Z below #[Value.ref b] s) (entryFrame m ([Value.ref b] : List Value).toArray 4) := by
      rw [hh0]
      exact whole_start l hflags hbd ⟨B.exec, B.bytes, B.returns, hml, hown, hts, hX, hbl, B.notSynchronized, hgv, (name_of_methodNamed B.named B.method).1⟩
    obtain ⟨t, a1, o, b1, b2, b3⟩ := K s₁ rfl X₀
    exact ⟨t, o, a1, b1, b2, b3⟩
theorem lw_pre_spec {args : Array Value} {s : State} (h : (Jvm.Cond.and given_1 narrow_1).before args s = true) (hr : rest_1_c.before args s = true) : ∃ (b : Addr) (xs : List Int32), lw_P b xs args s := by
  have hs := flat_of_before _ h
  have hq := flat_of_before _ hr
  have hc : (Cond.count 1).before args s = true := hs _ (by decide +kernel)
  have harr : (Cond.arrayOf (.arg 0) .int).before args s = true := hs _ (by decide +kernel)
  have hle : (Cond.le (.length (.arg 0)) (.int 384)).before args s = true := hs _ (by decide +kernel)
  have hlen : (Cond.isInt (.length (.arg 0))).before args s = true := hq _ (by decide +kernel)
  have hall : (Cond.all (.arg 0) (.isInt (.elem (.arg 0) (.index 0)))).before args s = true := hq _ (by decide +kernel)
  obtain ⟨b, xs, hb, hx⟩ := State.ints_of_pre rfl harr hlen hall
  have hsm : xs.length < 2 ^ 31 := hx.choose_spec.2.2.2
  have hev : (Term.length (.arg 0)).eval args s none [] s = some (.int xs.length.toInt32) := hx.length_eval hb
  have hv := Cond.le_ints hev (show (Term.int 384).eval args s none [] s = some (.int 384) from rfl)
  have hd : xs.length.toInt32 ≤ 384 := by
    simpa [Cond.before, Cond.holds, hv] using hle
  have hN : xs.length ≤ 384 := (Int32.ofNat_le_ofNat hsm (by decide)).mp (show Int32.ofNat xs.length ≤ Int32.ofNat 384 from hd)
  exact ⟨b, xs, Cond.one_arg hc (show args[0]? = some (.ref b) from hb), hx, hN, h⟩
theorem lw_comes (l : Launch) (hflags : l.flags = flags0) : Comes l x (Jvm.Cond.code x code maxLocals ret :: tables_1) room_1 (fun tb e args s => Calls_1 tb e args s ∧ rest_1 tb e args s ∧ Pre_1 tb e args s)
    (fun _ _ args s o t => lw_Q args s o t) := by
  intro p e ha hc hk s m args below hf hfit hheap happ hpre
  obtain ⟨b, xs, hP⟩ := lw_pre_spec hpre.2.2 hpre.2.1
  obtain ⟨k, o, h1, h2, h3, hQ⟩ := lw_walk l hflags b xs p e ha hc hk s m args below hf ((Spec.applies_iff_loose hf).mp happ).1 hP trivial
  exact ⟨k, o, h1, h2, h3, hQ⟩
theorem lw_frame {s t : State} {o : Outcome} {args : Array Value} (h : Framed s o t [] 600000 7302250) :
    Framed s o t (fieldLocs frame_1_writes args s ++ arrayLocs frame_1_arrays args s ++ staticLocs frame_1_statics s) 600000 7302250 := h
theorem lw_limb (L : Cond) (hL : ∀ (args : Array Value) (s t : State), L.after args s (.returned (some (.int 1))) t = true) :
    ArmFor flags0 classFile x code maxLocals ret World_1 tables_1 room_1 Calls_1 rest_1 Pre_1
      (fun tb e a s o t => postC L tb e a s o t ∧ Framed s o t (fieldLocs frame_1_writes a s ++ arrayLocs frame_1_arrays a s ++ staticLocs frame_1_statics s) 600000 7302250) := by
  intro l hflags _ _ p e ha hc hk s m args below hf hfit hheap happ hpre
  obtain ⟨k, o, h1, h2, h3, rfl, hF⟩ := lw_comes l hflags p e ha hc hk s m args below hf hfit hheap happ hpre
  exact ⟨k, _, h1, h2, h3, hL args s _, lw_frame hF⟩
theorem i_vc : Claimed_1_1 ∧ Claimed_1_2 := ⟨lw_limb limb_1_1 (fun args s t => by simp [limb_1_1, Cond.after, Cond.holds, Cond.value]), lw_limb limb_1_2 (fun args s t => Cond.after_iff.mpr (by
  first | (rw [show limb_1_2 = Cond.eq .result (.int 1) from rfl, Cond.eq_ints (x := 1) (y := 1) rfl rfl]; simp; done) | (simp [limb_1_2, Cond.value, Term.eval]; done)))⟩

