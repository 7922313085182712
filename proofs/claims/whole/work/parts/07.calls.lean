/-! new cells, calls, ends; a method's contract out of its walk -/
theorem Rel.bound {g : Gt} {Z : Zt} {I : It} {P : Pt'} {H : Heap} (h : Rel g Z I P H) : H.size = g0 g + Z.2.2 := h.1
section CAL
variable {l : Launch} {g : Gt} {mm : Mm} {d bc bs : Nat} {Z : Zt} {I : It} {P : Pt'} {ls st : List Vv} {Q : Qt}
theorem ev_newI (pc : Nat) {n : Int} {at' : ArrayType} {k : Nat} (hd : decode mm.2.1 pc = .ok (.newarray at', 2)) (hk : (at' = .boolean ∧ k = 13) ∨ (at' = .byte ∧ k = 14) ∨ (at' = .int ∧ k = 15) ∨ (at' = .long ∧ k = 16)) (hw : Cond.arrayClass (newarray.typeOf at') ∈ tbl) (hn : 0 ≤ n ∧ n ≤ 60000)
    {n' : Nat} (hn' : n = (n' : Int)) (kk : Ev l g mm d bc bs (nwZ Z k n) I P (pc + 2) ls (vA Z.2.2 :: st) Q) : Ev l g mm d (bc + 1) (bs + n') Z I P pc ls (vI n :: st) Q := by
  refine Ev.mem (fun h => ok_cA (ok_t h)) (fun p e R s m args below meth c H locs cells slots lj Q0 hF hR hok hc hs kw => ?_) kk
  obtain ⟨hx, hb, hml, hr, hlk, hnm, hts, hown, hK, hfr, hlo⟩ := id hF
  have hrn : InR n := ok_h hok
  have hH : H.size = g0 g + Z.2.2 := hR.1
  have key : ∀ (ty : FieldType) (j : Nat), newarray.typeOf at' = ty → 13 ≤ k → k < 19 → (tysOf g)[j]? = some (g.2.2.1 k, ty) → (∀ t, ty ≠ .object t) → (∀ cA, s.vm.findClass ("[" ++ ty.toString) = some cA → va_RA s cA ty → cA = g.2.2.1 k) → (∀ i, av g k (I Z.2.2) (P Z.2.2) i = defaultValue ty) → n.toNat * componentBytes ty ≤ 536870912 → W p l e R s m args below meth c H locs cells slots Q0 (F0 m pc lj ((vI n :: st).map (toV g))) := by
    intro ty j hty hk1 hk2 htys hno hun hdef hby
    subst hty
    refine va_newaK hx hb (hts _ hw) rfl hd rfl (by rw [show (0 : Int32) = Int32.ofInt 0 from rfl, i_lt hrn ⟨by omega, by omega⟩]; omega) (i_nat hrn) hby (by omega) (by omega) hH fun H1 cA e1 z1 o1 hAr hNm => ?_
    have hcA : cA = g.2.2.1 k := hun cA hNm (by
      cases htt : newarray.typeOf at' with
      | object t => exact absurd htt (hno t)
      | _ => rw [htt] at hNm; exact hNm)
    subst hcA
    have := kw H1 [] (cells + 1) (slots + n.toNat) (hR.push (by rw [z1, hH]) (fun q hq => o1 q (by omega)) hk2 ⟨hn.1, by omega⟩ (by
      unfold cOK; rw [if_neg (by omega), e1]
      congr 2; funext i; exact (hdef i).symm)) (fun q hq => by cases hq) (by omega) (by omega)
    rw [List.append_nil] at this
    exact this
  have h4 : ∀ i, I Z.2.2 i = 0 ∧ P Z.2.2 i = none := (hR.2.2.2.1 Z.2.2 (Nat.le_refl _)).2
  have hk2 : ∀ (j : Nat) (q : ClassId × FieldType), (tysOf g)[j]? = some q → va_RA s q.1 q.2 := fun j q h => (hK.2 j q h).2
  rcases hk with ⟨rfl, rfl⟩ | ⟨rfl, rfl⟩ | ⟨rfl, rfl⟩ | ⟨rfl, rfl⟩
  · refine key .boolean 0 rfl (by omega) (by omega) rfl (fun t h => by cases h) (fun cA h _ => Option.some.inj (h.symm.trans (hk2 0 _ rfl))) (fun i => by simp [av, h4 i]; rfl) (by show _ * 1 ≤ _; omega)
  · refine key .byte 1 rfl (by omega) (by omega) rfl (fun t h => by cases h) (fun cA h _ => Option.some.inj (h.symm.trans (hk2 1 _ rfl))) (fun i => by simp [av, h4 i]; rfl) (by show _ * 1 ≤ _; omega)
  · refine key .int 2 rfl (by omega) (by omega) rfl (fun t h => by cases h) (fun cA h _ => Option.some.inj (h.symm.trans (hk2 2 _ rfl))) (fun i => by simp [av, h4 i]; rfl) (by show _ * 4 ≤ _; omega)
  · refine key .long 3 rfl (by omega) (by omega) rfl (fun t h => by cases h) (fun cA h _ => Option.some.inj (h.symm.trans (hk2 3 _ rfl))) (fun i => by simp [av, h4 i]; rfl) (by show _ * 8 ≤ _; omega)
theorem ev_newR (pc : Nat) {n : Int} {ix k : Nat} {C : String} (hd : decode mm.2.1 pc = .ok (.anewarray ix, 3)) (hk : (C = RX5 ∧ k = 17) ∨ (C = RX8 ∧ k = 18)) (hw : Cond.classLink mm.1.cls ix C ∈ tbl) (hw2 : Cond.arrayOver (.object C) ∈ tbl) (hn : 0 ≤ n ∧ n ≤ 60000)
    {n' : Nat} (hn' : n = (n' : Int)) (kk : Ev l g mm d bc bs (nwZ Z k n) I P (pc + 3) ls (vA Z.2.2 :: st) Q) : Ev l g mm d (bc + 1) (bs + n') Z I P pc ls (vI n :: st) Q := by
  refine Ev.mem (fun h => ok_cA (ok_t h)) (fun p e R s m args below meth c H locs cells slots lj Q0 hF hR hok hc hs kw => ?_) kk
  obtain ⟨hx, hb, hml, hr, hlk, hnm, hts, hown, hK, hfr, hlo⟩ := id hF
  have hrn : InR n := ok_h hok
  have hH : H.size = g0 g + Z.2.2 := hR.1
  have h4 : ∀ i, I Z.2.2 i = 0 ∧ P Z.2.2 i = none := (hR.2.2.2.1 Z.2.2 (Nat.le_refl _)).2
  have htys : ∃ j : Nat, (tysOf g)[j]? = some (g.2.2.1 k, FieldType.object C) := by
    rcases hk with ⟨rfl, rfl⟩ | ⟨rfl, rfl⟩
    · exact ⟨4, rfl⟩
    · exact ⟨5, rfl⟩
  obtain ⟨j, hj⟩ := htys
  obtain ⟨kA0, comp0, -, -, -, hfc⟩ := (hK.2 j _ hj).2
  refine W.anew hx hb hown (hts _ hw) (hts _ hw2) rfl hd rfl (by rw [show (0 : Int32) = Int32.ofInt 0 from rfl, i_lt hrn ⟨by omega, by omega⟩]; omega) (by rw [i_nat hrn]; omega) (by omega) (by rw [i_nat hrn]; omega) fun cA kA comp f1 f2 f3 f4 => ?_
  have hcA : cA = g.2.2.1 k := Option.some.inj (f1.symm.trans hfc)
  subst hcA
  rw [i_nat hrn]
  generalize hH1 : H.push ({ cls := g.2.2.1 k, slots := Array.replicate n.toNat .null, vm := .none } : Cell) = H1
  have z1 : H1.size = H.size + 1 := by rw [← hH1, Array.size_push]
  have e1 : H1[H.size]? = some (arrV (g.2.2.1 k) n.toNat (fun _ => .null)) := by rw [← hH1, Array.getElem?_push_size, ← arrV_new]
  have o1 : ∀ q : Nat, q < H.size → H1[q]? = H[q]? := fun q hq => by rw [← hH1, Array.getElem?_push, if_neg (Nat.ne_of_lt hq)]
  have := kw H1 [] (cells + 1) (slots + n.toNat) (hR.push z1 o1 (by omega) ⟨hn.1, by omega⟩ (by
    unfold cOK; rw [if_neg (by omega), ← hH, e1]
    congr 2; funext i
    have h1 : k ≠ 16 := by omega
    have h2 : 17 ≤ k := by omega
    simp [av, h1, h2, (h4 i).2]; rfl)) (fun q hq => by cases hq) (by omega) (by omega)
  rw [List.append_nil] at this
  rw [hH]
  exact this
theorem ev_new (pc : Nat) {ix ci : Nat} {C : String} {T : u_T} {N : Nat} {ty : Nat → FieldType} (hd : decode mm.2.1 pc = .ok (.new ix, 3)) (hCK : CK ci C T N ty) (hw : Cond.classLink mm.1.cls ix C ∈ tbl) (hw2 : Cond.instantiable C N ∈ tbl) (hw3 : Cond.initialized C ∈ tbl)
    (kk : Ev l g mm d bc bs (nwZ Z ci 0) I P (pc + 3) ls (vA Z.2.2 :: st) Q) : Ev l g mm d (bc + 1) (bs + N) Z I P pc ls st Q := by
  refine Ev.mem (fun h => ok_cA h) (fun p e R s m args below meth c H locs cells slots lj Q0 hF hR hok hc hs kw => ?_) kk
  obtain ⟨hx, hb, hml, hr, hlk, hnm, hts, hown, hK, hfr, hlo⟩ := id hF
  obtain ⟨hc1, hc2, hin, hty, hnn, hdf, h13⟩ := id hCK
  have hH : H.size = g0 g + Z.2.2 := hR.1
  have h4 : ∀ i, I Z.2.2 i = 0 ∧ P Z.2.2 i = none := (hR.2.2.2.1 Z.2.2 (Nat.le_refl _)).2
  have hKn := hK.1 ci _ hc1
  refine W.newcK hx hb hown (hts _ hw) (hts _ hw2) (hts _ hw3) rfl hd (by omega) (by omega) hKn.2.1 hH fun H1 kC hkC e1 z1 o1 => ?_
  have := kw H1 [] (cells + 1) (slots + N) (hR.push (by rw [z1, hH]) (fun q hq => o1 q (by omega)) (by omega) ⟨by omega, by omega⟩ (by
    unfold cOK; rw [if_pos h13, ← hc2]
    refine (u_born ty hts hin hKn hkC e1 hty).to (fun j hj => ?_)
    rw [hdf j hj]
    unfold fv
    split
    · rw [(h4 j).2]; rfl
    · rw [(h4 j).1]; rfl)) (fun q hq => by cases hq) (by omega) (by omega)
  rw [List.append_nil] at this
  exact this
theorem ev_objInit (pc : Nat) {ix a : Nat} (hd : decode mm.2.1 pc = .ok (.invokespecial ix, 3)) (hw1 : Cond.methodLink mm.1.cls ix Lib.objectInit ∈ tbl) (hw2 : Cond.instanceMethod Lib.objectInit ∈ tbl) (hw3 : Cond.code Lib.objectInit ⟨#[0xb1]⟩ 1 none ∈ tbl)
    (kk : Ev l g mm (d + 1) bc bs Z I P (pc + 3) ls [] Q) : Ev l g mm (d + 1) bc bs Z I P pc ls (vA a :: []) Q := by
  intro p e R s m args below meth c H locs cells slots lj hF hD hc hs
  obtain ⟨hx, hb, hml, hr, hlk, hnm, hts, hown, hK, hfr, hlo⟩ := id hF
  have k1 := kk p e R s m args below meth c H locs cells slots lj hF ⟨hD.1, hD.2.1, hD.2.2.1, hD.2.2.2.1, ok_t hD.2.2.2.2⟩ hc hs
  exact W.objInit hx hb hown (hts _ hw1) (hts _ hw2) (hts _ hw3) rfl (by rw [hml]; exact hD.2.2.1.1) rfl hd (by omega) (by show 2 * 0 + 0 + 12 ≤ _; omega) k1
-- what a method is, by the tables
def MK (mm : Mm) (n : Nat) : Prop := plainFor mm.1 = true ∧ Cond.code mm.1 mm.2.1 mm.2.2.1 mm.2.2.2 ∈ tbl ∧ Cond.initialized mm.1.cls ∈ tbl ∧ mm.1.cls ≠ "java/lang/invoke/MethodHandle" ∧ mm.1.cls ≠ "java/lang/invoke/VarHandle" ∧
  (parseMethodDescriptor mm.1.desc).map (fun d => d.parameters.length) = some n ∧ Nat.ble mm.2.2.1 21 = true
theorem goodWs {mm : Mm} {n : Nat} (h : MK mm n) : GoodIn tbl (wsOf mm) := by
  intro w hw
  have hm : w ∈ tbl := by
    rcases List.mem_cons.mp hw with e | e
    · rw [e]; exact h.2.1
    · exact e
  exact ⟨hm, good_of_word (List.mem_filter.mp hm).2⟩
theorem Pe.blind (as : List Vv) : FrameBlind (Pe g as Z I P) := fun a U gg mk h => ⟨h.1, h.2.1, va_K.moved (u := U) (U := U.calling gg mk a) (Vm.Alike.refl U.vm) h.2.2.1, h.2.2.2⟩
theorem ev_back {mk : Mm} {n d' mc ms : Nat} {Q' : Qt} {pc : Nat} {as : List Vv} {stA stB : List Vv} (hdd : d = d' + 1) (hok : ∀ v ∈ stA, okV v) {ok2 : ∀ v ∈ stB, okV v}
    {p : Program} {e : Env} {R : Room} {s : State} {m : MethodId} {args : Array Value} {below : List Frame} {meth : Method} {c : Code} {H : Heap} {locs : List Loc} {cells slots : Nat} {lj : Array Slot} {av' : Array Value}
    (hF : Fx g mm d p R s m args meth c) (hD : Dx g mm Z I P ls stA H locs lj) (hc : cells + (bc + mc) ≤ R.cells) (hs : slots + (bs + ms) ≤ R.slots)
    (hr : va_Run p l e R s m args below meth c H locs cells slots mc ms (F0 m pc lj (stA.map (toV g))) (stB.map (toV g)) (Qe g Q' av') (fun q => g0 g ≤ q))
    (kk : ∀ r Z' I' P', Q' r Z' I' P' → Ev l g mm d bc bs Z' I' P' (pc + 3) ls (r.toList ++ stB) Q) :
    W p l e R s m args below meth c H locs cells slots (MQ below (Qe g Q) args s R.cells R.slots (fun q => g0 g ≤ q)) (F0 m pc lj (stA.map (toV g))) := by
  intro T hT X
  obtain ⟨v, st₀, t, T', L, h0, X', hL, e1, e2, ⟨r, Z', I', P', ho, hq, hRel, hrok⟩, st⟩ := hr T hT X
  have hv : v = r.map (toV g) := Outcome.returned.inj ho
  subst hv
  obtain ⟨t2, a1, b1⟩ := kk r Z' I' P' hq p e R s m args below meth c T'.heap (locs ++ L) (cells + mc) (slots + ms) lj hF ⟨by rw [e1]; exact hRel, fun q hq => by
      rcases List.mem_append.mp hq with h | h
      · exact hD.2.1 q h
      · exact hL q h, hD.2.2.1, hD.2.2.2.1, fun v hv => by
      rcases List.mem_append.mp hv with h | h
      · exact hrok v (by cases r <;> simp_all)
      · exact ok2 v h⟩ (by omega) (by omega) T' rfl X'
  refine ⟨t2, st t2 ?_, b1⟩
  have e3 : (r.toList ++ stB).map (toV g) = (r.map (toV g)).toList ++ stB.map (toV g) := by cases r <;> rfl
  rw [e3] at a1
  exact a1
theorem cat_sum (g : Gt) (st : List Vv) (h : (st.map fun v => if isLg v = true then 2 else 1).sum ≤ 8) : ((st.map (toV g)).map fun v => v.category).sum ≤ 8 := by
  rw [List.map_map]
  have : (fun v => v.category) ∘ toV g = fun v => if isLg v = true then 2 else 1 := by funext v; exact toV_cat g v
  rw [this]; exact h
/-- which object a call goes to -/
theorem rcv_of {s : State} {H : Heap} (hR : Rel g Z I P H) (hK : Kst g s) {a ci : Nat} {r : vw_C} (ha : Z.1 a = ci) (h13 : ci < 13) (hc : vwCl[ci]? = some r) : ∃ cell : Cell, H[g0 g + a]? = some cell ∧ cell.vm.isStatics = false ∧ s.vm.findClass r.1 = some cell.cls := by
  have hlt : a < Z.2.2 := hR.lt (by omega)
  have h1 := (hR.2.2.1 a hlt).2
  rw [ha] at h1
  unfold cOK at h1
  rw [if_pos h13] at h1
  obtain ⟨cell, g1, g2, g3, -⟩ := h1
  exact ⟨cell, g1, by rw [g3]; rfl, by rw [g2]; exact (hK.1 ci r hc).2.1⟩
def LV (own : String) (ix : Nat) (mk : Mm) (ci : Nat) : Prop := (Cond.methodLink own ix mk.1 ∈ tbl ∨ ∃ host, Cond.methodLinkNest own ix mk.1 host ∈ tbl) ∧ Cond.instanceMethod mk.1 ∈ tbl ∧ Cond.selects mk.1.cls mk.1 mk.1 ∈ tbl ∧ ci < 13 ∧ ∃ T N, vwCl[ci]? = some (mk.1.cls, T, N)
def LI (own : String) (ix : Nat) (mk : Mm) : Prop := (Cond.methodLink own ix mk.1 ∈ tbl ∨ ∃ host, Cond.methodLinkNest own ix mk.1 host ∈ tbl) ∧ Cond.instanceMethod mk.1 ∈ tbl ∧ mk.1.name = "<init>" ∧ mk.2.2.2 = none
def LSx (own : String) (ix : Nat) (mk : Mm) : Prop := (Cond.methodLink own ix mk.1 ∈ tbl ∨ ∃ host, Cond.methodLinkNest own ix mk.1 host ∈ tbl) ∧ Cond.static mk.1 ∈ tbl
theorem cb_of {mk : Mm} {n d' mc ms : Nat} {p : Program} {R : Room} {s : State} {m : MethodId} {args : Array Value} {meth : Method} {c : Code} {own : String} {ix : Nat} (hM : MK mk n) (hts : ∀ w ∈ tbl, w.before args s = true) (hfr : d' + 1 ≤ R.frames) (hlo : 40 * (d' + 1) ≤ R.locals) (hl : Cond.methodLink own ix mk.1 ∈ tbl) :
    CallB R s args own ix mk.1 mk.2.1 mk.2.2.1 mk.2.2.2 (wsOf mk) (rmOf d' mc ms) mc ms n :=
  callB_of n hts (goodWs hM) rfl rfl rfl (hts _ hM.2.2.1) (hts _ hl) ⟨hM.2.2.2.1, hM.2.2.2.2.1, hM.2.2.2.2.2.1⟩ ⟨hfr, by have := Nat.le_of_ble_eq_true hM.2.2.2.2.2.2; show 8 + (mk.2.2.1 + 11) + 40 * d' ≤ _; omega⟩
theorem cbN_of {mk : Mm} {n d' mc ms : Nat} {R : Room} {s : State} {args : Array Value} {own host : String} {ix : Nat} (hM : MK mk n) (hts : ∀ w ∈ tbl, w.before args s = true) (hfr : d' + 1 ≤ R.frames) (hlo : 40 * (d' + 1) ≤ R.locals) (hl : Cond.methodLinkNest own ix mk.1 host ∈ tbl) :
    va_CN R s args own ix mk.1 host mk.2.1 mk.2.2.1 mk.2.2.2 (wsOf mk) (rmOf d' mc ms) mc ms n := by
  have hG := goodWs hM
  exact ⟨⟨rfl, rfl, hfr, by have := Nat.le_of_ble_eq_true hM.2.2.2.2.2.2; show 8 + (mk.2.2.1 + 11) + 40 * d' ≤ _; omega, pay_in hts hG, List.mem_cons_self⟩, hts _ hM.2.1, hts _ hM.2.2.1, ⟨hM.2.2.2.1, hM.2.2.2.2.1⟩, fun sig h => by
    have h2 := hM.2.2.2.2.2.1
    rw [h] at h2
    exact (Option.some.inj h2).symm, hts _ hl⟩
theorem ev_callV (pc : Nat) {mk : Mm} {n d' mc ms ix a ci : Nat} {Q' : Qt} (as : List Vv) {stA : List Vv} (hd : decode mm.2.1 pc = .ok (.invokevirtual ix, 3)) (hM : MK mk n) (hL : LV mm.1.cls ix mk ci) (ha : Z.1 a = ci) (hm : Mt l g mk d' mc ms (vA a :: as) Z I P Q')
    (hn : as.length = n) (hst : stA = as.reverse ++ vA a :: st) (h8 : Nat.ble ((st.map fun v => if isLg v = true then 2 else 1).sum) 8 = true := by rfl)
    (kk : ∀ r Z' I' P', Q' r Z' I' P' → Ev l g mm (d' + 1) bc bs Z' I' P' (pc + 3) ls (r.toList ++ st) Q) : Ev l g mm (d' + 1) (bc + mc) (bs + ms) Z I P pc ls stA Q := by
  intro p e R s m args below meth c H locs cells slots lj hF hD hc hs
  obtain ⟨hx, hb, hml, hr, hlk, hnm, hts, hown, hK, hfr, hlo⟩ := id hF
  obtain ⟨hl, hin, hse, h13, T, N, hci⟩ := hL
  subst hst
  have okst : ∀ v ∈ st, okV v := fun v hv => hD.2.2.2.2 v (List.mem_append_right _ (List.mem_cons_of_mem _ hv))
  have okas : ∀ v ∈ vA a :: as, okV v := fun v hv => by
    rcases List.mem_cons.mp hv with h | h
    · rw [h]; exact trivial
    · exact hD.2.2.2.2 v (List.mem_append_left _ (List.mem_reverse.mpr h))
  have hpre : PreV s H mk.1.cls (g0 g + a) (Pe g (vA a :: as) Z I P) (as.map (toV g)) := ⟨Pe.blind _, rcv_of hD.1 hK ha h13 hci, fun U hU hW => ⟨rfl, by rw [hU]; exact hD.1, va_K.moved hW.alike hK, okas⟩⟩
  have hstk : ((as.reverse ++ vA a :: st).map (toV g)) = (as.map (toV g)).reverse ++ .ref (g0 g + a) :: st.map (toV g) := by
    rw [List.map_append, List.map_reverse]; rfl
  have h8' := cat_sum g st (Nat.le_of_ble_eq_true h8)
  refine ev_back (mk := mk) (n := n) (as := as) rfl hD.2.2.2.2 (ok2 := okst) hF hD hc hs (av' := (Value.ref (g0 g + a) :: as.map (toV g)).toArray) ?_ kk
  rcases hl with hl | ⟨host, hl⟩
  · exact va_runV (As := as.map (toV g)) ⟨hx, hb, hml, hown, hts⟩ hm ⟨cb_of (p := p) (m := m) (meth := meth) (c := c) hM hts hfr hlo hl, hts _ hin, hts _ hse⟩ hpre rfl (by rw [List.length_map]; exact hn) hD.2.2.1.1 hstk (lv_room h8') hd ⟨by omega, by omega⟩
  · exact va_runVN (As := as.map (toV g)) ⟨hx, hb, hml, hown, hts⟩ hm ⟨cbN_of hM hts hfr hlo hl, hts _ hin, hts _ hse⟩ hpre rfl (by rw [List.length_map]; exact hn) hD.2.2.1.1 hstk (lv_room h8') hd ⟨by omega, by omega⟩
theorem ev_callI (pc : Nat) {mk : Mm} {n d' mc ms ix a : Nat} {Q' : Qt} (as : List Vv) {stA : List Vv} (hd : decode mm.2.1 pc = .ok (.invokespecial ix, 3)) (hM : MK mk n) (hL : LI mm.1.cls ix mk) (hm : Mt l g mk d' mc ms (vA a :: as) Z I P Q')
    (hn : as.length = n) (hst : stA = as.reverse ++ vA a :: st) (h8 : Nat.ble ((st.map fun v => if isLg v = true then 2 else 1).sum) 8 = true := by rfl)
    (kk : ∀ r Z' I' P', Q' r Z' I' P' → Ev l g mm (d' + 1) bc bs Z' I' P' (pc + 3) ls (r.toList ++ st) Q) : Ev l g mm (d' + 1) (bc + mc) (bs + ms) Z I P pc ls stA Q := by
  intro p e R s m args below meth c H locs cells slots lj hF hD hc hs
  obtain ⟨hx, hb, hml, hr, hlk, hnm, hts, hown, hK, hfr, hlo⟩ := id hF
  obtain ⟨hl, hin, hy1, hno⟩ := hL
  subst hst
  have okst : ∀ v ∈ st, okV v := fun v hv => hD.2.2.2.2 v (List.mem_append_right _ (List.mem_cons_of_mem _ hv))
  have okas : ∀ v ∈ vA a :: as, okV v := fun v hv => by
    rcases List.mem_cons.mp hv with h | h
    · rw [h]; exact trivial
    · exact hD.2.2.2.2 v (List.mem_append_left _ (List.mem_reverse.mpr h))
  have hpre : PreS s H (Pe g (vA a :: as) Z I P) (.ref (g0 g + a) :: as.map (toV g)) := ⟨Pe.blind _, fun U hU hW => ⟨rfl, by rw [hU]; exact hD.1, va_K.moved hW.alike hK, okas⟩⟩
  have hstk : ((as.reverse ++ vA a :: st).map (toV g)) = (as.map (toV g)).reverse ++ .ref (g0 g + a) :: st.map (toV g) := by
    rw [List.map_append, List.map_reverse]; rfl
  have h8' := cat_sum g st (Nat.le_of_ble_eq_true h8)
  obtain ⟨y, cc, nL, rt⟩ := mk
  dsimp only at hno
  subst hno
  refine ev_back (mk := (y, cc, nL, none)) (n := n) (as := as) rfl hD.2.2.2.2 (ok2 := okst) hF hD hc hs (av' := (Value.ref (g0 g + a) :: as.map (toV g)).toArray) ?_ kk
  rcases hl with hl | ⟨host, hl⟩
  · exact va_runI (As := as.map (toV g)) ⟨hx, hb, hml, hown, hts⟩ hm ⟨cb_of (p := p) (m := m) (meth := meth) (c := c) hM hts hfr hlo hl, hy1, hts _ hin⟩ hpre rfl (by rw [List.length_map]; exact hn) hD.2.2.1.1 hstk (lv_room h8') hd ⟨by omega, by omega⟩
  · exact va_runIN (As := as.map (toV g)) ⟨hx, hb, hml, hown, hts⟩ hm ⟨cbN_of hM hts hfr hlo hl, hy1, hts _ hin⟩ hpre rfl (by rw [List.length_map]; exact hn) hD.2.2.1.1 hstk (lv_room h8') hd ⟨by omega, by omega⟩
theorem ev_callS (pc : Nat) {mk : Mm} {n d' mc ms ix : Nat} {Q' : Qt} (as : List Vv) {stA : List Vv} (hd : decode mm.2.1 pc = .ok (.invokestatic ix, 3)) (hM : MK mk n) (hL : LSx mm.1.cls ix mk) (hm : Mt l g mk d' mc ms as Z I P Q')
    (hn : as.length = n) (hst : stA = as.reverse ++ st) (h8 : Nat.ble ((st.map fun v => if isLg v = true then 2 else 1).sum) 8 = true := by rfl)
    (kk : ∀ r Z' I' P', Q' r Z' I' P' → Ev l g mm (d' + 1) bc bs Z' I' P' (pc + 3) ls (r.toList ++ st) Q) : Ev l g mm (d' + 1) (bc + mc) (bs + ms) Z I P pc ls stA Q := by
  intro p e R s m args below meth c H locs cells slots lj hF hD hc hs
  obtain ⟨hx, hb, hml, hr, hlk, hnm, hts, hown, hK, hfr, hlo⟩ := id hF
  obtain ⟨hl, hstt⟩ := hL
  subst hst
  have okst : ∀ v ∈ st, okV v := fun v hv => hD.2.2.2.2 v (List.mem_append_right _ hv)
  have okas : ∀ v ∈ as, okV v := fun v hv => hD.2.2.2.2 v (List.mem_append_left _ (List.mem_reverse.mpr hv))
  have hpre : PreS s H (Pe g as Z I P) (as.map (toV g)) := ⟨Pe.blind _, fun U hU hW => ⟨rfl, by rw [hU]; exact hD.1, va_K.moved hW.alike hK, okas⟩⟩
  have hstk : ((as.reverse ++ st).map (toV g)) = (as.map (toV g)).reverse ++ st.map (toV g) := by
    rw [List.map_append, List.map_reverse]
  have h8' := cat_sum g st (Nat.le_of_ble_eq_true h8)
  refine ev_back (mk := mk) (n := n) (as := as) rfl hD.2.2.2.2 (ok2 := okst) hF hD hc hs (av' := (as.map (toV g)).toArray) ?_ kk
  rcases hl with hl | ⟨host, hl⟩
  · exact va_runS (As := as.map (toV g)) ⟨hx, hb, hml, hown, hts⟩ hm ⟨cb_of (p := p) (m := m) (meth := meth) (c := c) hM hts hfr hlo hl, hts _ hstt⟩ hpre rfl (by rw [List.length_map]; exact hn) hD.2.2.1.1 hstk (lv_room h8') hd ⟨by omega, by omega⟩
  · exact va_runSN (As := as.map (toV g)) ⟨hx, hb, hml, hown, hts⟩ hm ⟨cbN_of hM hts hfr hlo hl, hts _ hstt, trivial⟩ hpre rfl (by rw [List.length_map]; exact hn) hD.2.2.1.1 hstk (lv_room h8') hd ⟨by omega, by omega⟩
-- ends
theorem ev_iret (pc : Nat) {x : Int} (hd : decode mm.2.1 pc = .ok (.ireturn, 1)) (hQ : Q (some (vI x)) Z I P) (hr : mm.2.2.2 = some .int := by rfl) : Ev l g mm d bc bs Z I P pc ls [vI x] Q := by
  intro p e R s m args below meth c H locs cells slots lj hF hD hc hs
  obtain ⟨hx, hb, hml, hr0, hlk, hnm, hts, hown, hK, hfr, hlo⟩ := id hF
  exact W.widen (k := R.cells) (n := R.slots) (by omega) (by omega) (W.iret hx hb (hr0.trans hr) (fun t ht hW => ⟨_, _, _, _, rfl, hQ, by rw [ht]; exact hD.1, fun v hv => by cases hv; exact ok_h hD.2.2.2.2⟩) hD.2.1 hd)
theorem ev_zret (pc : Nat) {x : Int} (hd : decode mm.2.1 pc = .ok (.ireturn, 1)) (hx1 : x = 0 ∨ x = 1) (hQ : Q (some (vI x)) Z I P) (hr : mm.2.2.2 = some .boolean := by rfl) : Ev l g mm d bc bs Z I P pc ls [vI x] Q := by
  intro p e R s m args below meth c H locs cells slots lj hF hD hc hs
  obtain ⟨hx, hb, hml, hr0, hlk, hnm, hts, hown, hK, hfr, hlo⟩ := id hF
  exact W.widen (k := R.cells) (n := R.slots) (by omega) (by omega) (W.zret hx hb (hr0.trans hr) (by rcases hx1 with rfl | rfl <;> rfl) (fun t ht hW => ⟨_, _, _, _, rfl, hQ, by rw [ht]; exact hD.1, fun v hv => by cases hv; exact ok_h hD.2.2.2.2⟩) hD.2.1 hd)
theorem ev_lret (pc : Nat) {x : Int} (hd : decode mm.2.1 pc = .ok (.lreturn, 1)) (hQ : Q (some (vL x)) Z I P) (hr : mm.2.2.2 = some .long := by rfl) : Ev l g mm d bc bs Z I P pc ls [vL x] Q := by
  intro p e R s m args below meth c H locs cells slots lj hF hD hc hs
  obtain ⟨hx, hb, hml, hr0, hlk, hnm, hts, hown, hK, hfr, hlo⟩ := id hF
  exact W.widen (k := R.cells) (n := R.slots) (by omega) (by omega) (W.lret hx hb (hr0.trans hr) (fun t ht hW => ⟨_, _, _, _, rfl, hQ, by rw [ht]; exact hD.1, fun v hv => by cases hv; exact ok_h hD.2.2.2.2⟩) hD.2.1 hd)
theorem ev_vret (pc : Nat) (hd : decode mm.2.1 pc = .ok (.return_, 1)) (hQ : Q none Z I P) (hr : mm.2.2.2 = none := by rfl) : Ev l g mm d bc bs Z I P pc ls [] Q := by
  intro p e R s m args below meth c H locs cells slots lj hF hD hc hs
  obtain ⟨hx, hb, hml, hr0, hlk, hnm, hts, hown, hK, hfr, hlo⟩ := id hF
  exact W.widen (k := R.cells) (n := R.slots) (by omega) (by omega) (W.vret hx hb (hr0.trans hr) (fun t ht hW => ⟨none, _, _, _, rfl, hQ, by rw [ht]; exact hD.1, fun v hv => by cases hv⟩) hD.2.1 hd)
theorem ev_aret (pc : Nat) {a : Nat} (hd : decode mm.2.1 pc = .ok (.areturn, 1)) (hQ : Q (some (vA a)) Z I P) {nm : String} (hr : mm.2.2.2 = some (.object nm) := by rfl) : Ev l g mm d bc bs Z I P pc ls [vA a] Q := by
  intro p e R s m args below meth c H locs cells slots lj hF hD hc hs
  obtain ⟨hx, hb, hml, hr0, hlk, hnm, hts, hown, hK, hfr, hlo⟩ := id hF
  exact W.widen (k := R.cells) (n := R.slots) (by omega) (by omega) (W.aret hx hb (hr0.trans hr) (Or.inl ⟨_, rfl⟩) (Or.inr ⟨_, rfl⟩) (fun t ht hW => ⟨_, _, _, _, rfl, hQ, by rw [ht]; exact hD.1, fun v hv => by cases hv; exact trivial⟩) hD.2.1 hd)
end CAL
theorem Met_ofF {l : Launch} {y : MethodName} {ws ws' : List Cond} {rm : Room} {Pc : Array Value → State → Prop} {Qc : Array Value → State → Outcome → State → Prop} {mc ms : Nat} {free : Addr → Prop} {cc : ByteArray} {maxL : Nat} {ret : Option FieldType}
    (hy : plainFor y = true) (hw : ws = Cond.code y cc maxL ret :: ws')
    (body : ∀ p e s m args below meth c s₁, BodyLoose p l y (headSpec ws rm) cc maxL ret e s m args below meth c s₁ → c.maxLocals = maxL → Pc args s →
      W p l e (headSpec ws rm).room s m args below meth c s.heap [] 0 0 (MQ below Qc args s mc ms free) (entryFrame m args maxL)) : Met l y ws rm Pc Qc mc ms free := by
  refine MetFree.of_bodySF (code := cc) (maxLocals := maxL) (ret := ret) hy ?_ ?_
  · intro args s m h hn
    obtain ⟨meth, c, h1, h2, h3, h4, h5, h6, -, -⟩ := Cond.code_spec hn (atoms_spec (ws := ws) h _ (by rw [hw]; exact List.mem_cons_self))
    exact ⟨meth, c, h1, h2, h3, h4, h5, h6⟩
  · intro p e s m args below meth c s₁ B hml hP _
    have hh0 : s₁.heap = s.heap := by rw [B.state]; rfl
    obtain ⟨t, a1, o, b1, b2, b3⟩ := body p e s m args below meth c s₁ B hml hP s₁ hh0 (Stand.of_body B)
    exact ⟨t, o, a1, b1, b2, ⟨b3.1, b3.2⟩⟩
/-- the contract, out of the walk from the entry -/
theorem Mt.of {l : Launch} {g : Gt} {mm : Mm} {n d mc ms : Nat} {as ls : List Vv} {Z : Zt} {I : It} {P : Pt'} {Q : Qt} (hM : MK mm n) (hl : ∀ g, lv_args 0 (as.map (toV g)) = lvFrom g 0 ls) (hln : ∀ g, Nat.ble (lg_sl (as.map (toV g))).length mm.2.2.1 = true) (hok : (∀ v ∈ as, okV v) → ∀ v ∈ ls, okV v)
    (k : Ev l g mm d mc ms Z I P 0 ls [] Q) : Mt l g mm d mc ms as Z I P Q := by
  refine Met_ofF (cc := mm.2.1) (maxL := mm.2.2.1) (ret := mm.2.2.2) hM.1 rfl ?_
  intro p e s m args below meth c s₁ B hml hv
  obtain ⟨rfl, hR, hK, hoka⟩ := hv
  have hts : ∀ w ∈ tbl, w.before ((as.map (toV g)).toArray) s = true := fun w hw => atoms_spec (ws := wsOf mm) B.pre w (List.mem_cons_of_mem _ hw)
  have h1 := lv_entry (as.map (toV g)) (n := mm.2.2.1) (Nat.le_of_ble_eq_true (hln g))
  rw [lg_entry_eq]
  have hnm : meth.name = mm.1.name := (name_of_methodNamed B.named B.method).1
  exact k p e (rmOf d mc ms) s m _ below meth c s.heap [] 0 0 _ ⟨B.exec, B.bytes, hml, B.returns, B.notSynchronized, hnm, hts, findClass_of_methodNamed B.named, hK, Nat.le_refl _, Nat.le_refl _⟩ ⟨hR, (fun q hq => by cases hq), (by rw [← hl g]; exact h1), hok hoka, (fun v hv => by cases hv)⟩ (by show 0 + mc ≤ mc; omega) (by show 0 + ms ≤ ms; omega)
theorem Mt.mono {l : Launch} {g : Gt} {mm : Mm} {d mc ms : Nat} {as : List Vv} {Z : Zt} {I : It} {P : Pt'} {Q Q' : Qt} (h : Mt l g mm d mc ms as Z I P Q) (hq : ∀ r Z I P, Q r Z I P → Q' r Z I P) : Mt l g mm d mc ms as Z I P Q' := by
  intro p e a b c s m args below hh a1 a2 a3
  obtain ⟨t, o, h1, h2, h3, ⟨r, Z', I', P', q1, q2, q3⟩, h5⟩ := h p e a b c s m args below hh a1 a2 a3
  exact ⟨t, o, h1, h2, h3, ⟨r, Z', I', P', q1, hq _ _ _ _ q2, q3⟩, h5⟩
theorem Ev.mono {l : Launch} {g : Gt} {mm : Mm} {d bc bs bc' bs' : Nat} {Z : Zt} {I : It} {P : Pt'} {pc : Nat} {ls st : List Vv} {Q : Qt} (hc : bc' ≤ bc) (hs : bs' ≤ bs) (k : Ev l g mm d bc' bs' Z I P pc ls st Q) : Ev l g mm d bc bs Z I P pc ls st Q := by
  intro p e R s m args below meth c H locs cells slots lj hF hD h1 h2
  exact k p e R s m args below meth c H locs cells slots lj hF hD (by omega) (by omega)
theorem i_xor {x y : Int} (hx : InR x) (hy : InR y) : (Int32.ofInt x ^^^ Int32.ofInt y).toInt < 0 ↔ ((x < 0 ∧ 0 ≤ y) ∨ (0 ≤ x ∧ y < 0)) := by
  have h : ∀ z : Int32, z.toInt < 0 ↔ z.toBitVec.msb = true := fun z => by
    show z.toBitVec.toInt < 0 ↔ _
    rw [BitVec.msb_eq_toInt]; simp
  have e : (Int32.ofInt x ^^^ Int32.ofInt y).toBitVec = (Int32.ofInt x).toBitVec ^^^ (Int32.ofInt y).toBitVec := rfl
  have h1 := h (Int32.ofInt x)
  have h2 := h (Int32.ofInt y)
  rw [i_to hx] at h1
  rw [i_to hy] at h2
  rw [h, e, BitVec.msb_xor]
  cases a : (Int32.ofInt x).toBitVec.msb <;> cases b : (Int32.ofInt y).toBitVec.msb <;> simp_all <;> omega
theorem ev_ixor {l : Launch} {g : Gt} {mm : Mm} {d bc bs : Nat} {Z : Zt} {I : It} {P : Pt'} {ls st : List Vv} {Q : Qt} (pc : Nat) {x y : Int} (hd : decode mm.2.1 pc = .ok (.ixor, 1)) (k : ∀ z : Int, (z < 0 ↔ ((x < 0 ∧ 0 ≤ y) ∨ (0 ≤ x ∧ y < 0))) → Ev l g mm d bc bs Z I P (pc + 1) ls (vI z :: st) Q) : Ev l g mm d bc bs Z I P pc ls (vI y :: vI x :: st) Q := by
  intro p e R s m args below meth c H locs cells slots lj hF hD h1 h2
  have hx : InR x := ok_h (ok_t hD.2.2.2.2)
  have hy : InR y := ok_h hD.2.2.2.2
  have k1 := k (Int32.ofInt x ^^^ Int32.ofInt y).toInt (i_xor hx hy) p e R s m args below meth c H locs cells slots lj hF ⟨hD.1, hD.2.1, hD.2.2.1, hD.2.2.2.1, ok_cI (i_of _) (ok_t (ok_t hD.2.2.2.2))⟩ h1 h2
  have e0 : toV g (vI (Int32.ofInt x ^^^ Int32.ofInt y).toInt) = .int (Int32.ofInt x ^^^ Int32.ofInt y) := by
    show Value.int (Int32.ofInt _) = _
    rw [Int32.ofInt_toInt]
  rw [List.map_cons, e0] at k1
  exact lv_ixor hF.1 hF.2.1 hd k1
/-- 1 << y, small -/
theorem i_shl : ∀ y : Nat, y < 30 → Int32.ofInt 1 <<< (Int32.ofInt (y : Int) &&& 31) = Int32.ofInt (2 ^ y : Nat) := by decide +kernel
theorem ev_ishl {l : Launch} {g : Gt} {mm : Mm} {d bc bs : Nat} {Z : Zt} {I : It} {P : Pt'} {ls st : List Vv} {Q : Qt} (pc : Nat) {y : Int} (hd : decode mm.2.1 pc = .ok (.ishl, 1)) (hy : 0 ≤ y ∧ y < 30) (k : Ev l g mm d bc bs Z I P (pc + 1) ls (vI ((2 ^ y.toNat : Nat) : Int) :: st) Q) : Ev l g mm d bc bs Z I P pc ls (vI y :: vI 1 :: st) Q := by
  have hb : 2 ^ y.toNat ≤ 2 ^ 30 := Nat.pow_le_pow_right (by omega) (by omega)
  have e1 := i_shl y.toNat (by omega)
  generalize 2 ^ y.toNat = z at hb e1 k
  refine Ev.step (fun _ h2 => ok_cI ⟨by omega, by omega⟩ (ok_t (ok_t h2))) (fun p e R s m args below meth c H locs cells slots lj Q0 hF hD kk => ?_) k
  refine lv_ishl hF.1 hF.2.1 hd ?_
  rw [Int.toNat_of_nonneg hy.1] at e1
  rw [e1]
  exact kk
theorem or_lt {a b n : Nat} (ha : a < 2 ^ n) (hb : b < 2 ^ n) : a ||| b < 2 ^ n := Nat.or_lt_two_pow ha hb
theorem i_or {a b : Nat} (ha : a < 2 ^ 31) (hb : b < 2 ^ 31) : Int32.ofInt a ||| Int32.ofInt b = Int32.ofInt ((a ||| b : Nat) : Int) := by
  apply Int32.toBitVec_inj.mp
  show (Int32.ofInt a).toBitVec ||| (Int32.ofInt b).toBitVec = _
  rw [Int32.toBitVec_ofInt, Int32.toBitVec_ofInt, Int32.toBitVec_ofInt, BitVec.ofInt_natCast, BitVec.ofInt_natCast, BitVec.ofInt_natCast]
  apply BitVec.eq_of_toNat_eq
  rw [BitVec.toNat_or, BitVec.toNat_ofNat, BitVec.toNat_ofNat, BitVec.toNat_ofNat, Nat.mod_eq_of_lt (by omega), Nat.mod_eq_of_lt (by omega), Nat.mod_eq_of_lt (by have := or_lt ha hb; omega)]
theorem ev_ior {l : Launch} {g : Gt} {mm : Mm} {d bc bs : Nat} {Z : Zt} {I : It} {P : Pt'} {ls st : List Vv} {Q : Qt} (pc : Nat) {a b : Nat} (hd : decode mm.2.1 pc = .ok (.ior, 1)) (ha : a < 2 ^ 31) (hb : b < 2 ^ 31) (k : Ev l g mm d bc bs Z I P (pc + 1) ls (vI ((a ||| b : Nat) : Int) :: st) Q) : Ev l g mm d bc bs Z I P pc ls (vI (b : Int) :: vI (a : Int) :: st) Q := by
  have h := or_lt ha hb
  refine Ev.step (fun _ h2 => ok_cI ⟨by omega, by omega⟩ (ok_t (ok_t h2))) (fun p e R s m args below meth c H locs cells slots lj Q0 hF hD kk => ?_) k
  refine lv_ior hF.1 hF.2.1 hd ?_
  rw [i_or ha hb]
  exact kk
