/-! THE CALCULUS: a method's frame and memory in whole numbers. A judgement Ev (what is still to run ends well) and one rule an instruction, out of the kit's rows. -/
def tbl : List Cond := lw_tbl.filter goodWord
theorem tbl_of {w : Cond} (h : w ∈ lw_tbl) (hg : goodWord w = true) : w ∈ tbl := List.mem_filter.mpr ⟨h, hg⟩
def isNest (w : Cond) : Bool := match w with
  | .fieldLinkNest .. => true
  | .methodLinkNest .. => true
  | .arrayOver (.object _) => true
  | _ => false
def ntbl : List Cond := lw_tbl.filter isNest
theorem ntbl_of {w : Cond} (h : w ∈ lw_tbl) (hg : isNest w = true) : w ∈ ntbl := List.mem_filter.mpr ⟨h, hg⟩
theorem tbl_in {w : Cond} (h : w ∈ tbl) : w ∈ lw_tbl := (List.mem_filter.mp h).1
def InR (x : Int) : Prop := -2147483648 ≤ x ∧ x ≤ 2147483647
def InL (x : Int) : Prop := -9223372036854775808 ≤ x ∧ x ≤ 9223372036854775807
abbrev Vv : Type := Int ⊕ (Int ⊕ (Option Nat ⊕ Bool))
def vI (x : Int) : Vv := Sum.inl x
def vL (x : Int) : Vv := Sum.inr (Sum.inl x)
def vR (r : Option Nat) : Vv := Sum.inr (Sum.inr (Sum.inl r))
def vA (a : Nat) : Vv := Sum.inr (Sum.inr (Sum.inl (some a)))
def vN : Vv := Sum.inr (Sum.inr (Sum.inl none))
def vX : Vv := Sum.inr (Sum.inr (Sum.inr false))
/-- the memory: Zt = (kind of a cell, length of a row, how many cells there are); whole numbers in it; references in it -/
abbrev Zt : Type := (Nat → Nat) × (Nat → Int) × Nat
abbrev It : Type := Nat → Int → Int
abbrev Pt' : Type := Nat → Int → Option Nat
abbrev Gt : Type := Heap × va_G × (Nat → ClassId) × Nat
/-- a method: its name, bytes, locals, what it gives back -/
abbrev Mm : Type := MethodName × ByteArray × Nat × Option FieldType
def g0 (g : Gt) : Nat := g.1.size
def rv (g : Gt) (r : Option Nat) : Value := match r with
  | none => .null
  | some a => .ref (g0 g + a)
def toV (g : Gt) (v : Vv) : Value := match v with
  | .inl x => .int (Int32.ofInt x)
  | .inr (.inl x) => .long (Int64.ofInt x)
  | .inr (.inr (.inl r)) => rv g r
  | .inr (.inr (.inr _)) => .ref g.2.2.2
def okV (v : Vv) : Prop := match v with
  | .inl x => InR x
  | .inr (.inl x) => InL x
  | .inr (.inr _) => True
def isJ (v : Vv) : Bool := match v with
  | .inr (.inr (.inr false)) => true
  | _ => false
def isLg (v : Vv) : Bool := match v with
  | .inr (.inl _) => true
  | _ => false
/-- which fields are references -/
def fR (k : Nat) : List Bool := match k with
  | 0 => [true, false, false, false, false]
  | 1 => [true, true, true, true, false]
  | 2 => [true, true, true, true, false, false, false]
  | 3 => [true, true, true, true, false, false, false, false]
  | 4 => [true, false, false]
  | 5 => [true, false]
  | 6 => [true, true]
  | 7 => [true, true, true, true]
  | 8 => [false, false, true, true, true, true, true, true]
  | 9 => [true, true, false, false]
  | 10 => [false, false, true, true, true, false, true, true, true, true, false, true, true, false, true, true, true]
  | 11 => [true, true, true, true, true, true, true, true, true, true, true, true]
  | 12 => [false, true, false, true, true, true, true, true, true, false, false, false, true, false, true, true, false, true, false, false, true, true, false]
  | _ => []
def isR (k j : Nat) : Bool := (fR k).getD j false
def fv (g : Gt) (k : Nat) (I : Int → Int) (P : Int → Option Nat) (j : Nat) : Value := if isR k j = true then rv g (P j) else .int (Int32.ofInt (I j))
def av (g : Gt) (k : Nat) (I : Int → Int) (P : Int → Option Nat) (j : Nat) : Value := if k = 16 then .long (Int64.ofInt (I j)) else if 17 ≤ k then rv g (P j) else .int (Int32.ofInt (I j))
def cOK (g : Gt) (k : Nat) (len : Int) (I : Int → Int) (P : Int → Option Nat) (a : Nat) (H : Heap) : Prop :=
  if k < 13 then t_OB (g0 g + a) (g.2.1.1 k) (fR k).length (g.2.1.2 k) H (fv g k I P) ∧ ∃ cell : Cell, H[g0 g + a]? = some cell ∧ cell.slots.size = (fR k).length else H[g0 g + a]? = some (arrV (g.2.2.1 k) len.toNat (av g k I P))
def rgOK (k : Nat) (x : Int) : Prop := if k = 16 then InL x else InR x
def Rel (g : Gt) (Z : Zt) (I : It) (P : Pt') (H : Heap) : Prop :=
  H.size = g0 g + Z.2.2 ∧ (∀ q, q < g0 g → H[q]? = g.1[q]?) ∧ (∀ a, a < Z.2.2 → Z.1 a < 19 ∧ cOK g (Z.1 a) (Z.2.1 a) (I a) (P a) a H) ∧
  (∀ a, Z.2.2 ≤ a → Z.1 a = 99 ∧ ∀ i, I a i = 0 ∧ P a i = none) ∧ (∀ a i, rgOK (Z.1 a) (I a i)) ∧ ∀ a, 0 ≤ Z.2.1 a ∧ Z.2.1 a ≤ 2147483647
def tysOf (g : Gt) : List (ClassId × FieldType) := [(g.2.2.1 13, .boolean), (g.2.2.1 14, .byte), (g.2.2.1 15, .int), (g.2.2.1 16, .long), (g.2.2.1 17, .object RX5), (g.2.2.1 18, .object RX8)]
def SB : List Int32 := [108, 52, 44, 49, 44, 50, 59, 108, 50, 44, 51, 44, 49, 59, 108, 51, 44, 54, 44, 49, 59, 116, 48, 44, 49, 44, 51, 44, 53, 59, 116, 54, 44, 50, 44, 52, 44, 50, 59, 103, 48, 44, 51, 44, 53, 59]
def TX : String := "l4,1,2;l2,3,1;l3,6,1;t0,1,3,5;t6,2,4,2;g0,3,5;"
def sL (k : Nat) : Int := (SB.getD k 0).toInt
/-- what a state says of the constant: its object, its bytes, the two switches that the members read -/
def SJ (q v : Nat) (U : State) (H : Heap) : Prop := vk_S 1 [46] [SB] (fun _ => q) (fun _ => v) (fun _ => False) U H ∧ va_Z "java/lang/String" "COMPACT_STRINGS" "Z" (.int 1) (fun _ => False) U H ∧ va_Zq "jdk/internal/util/Preconditions" "SIOOBE_FORMATTER" "Ljava/util/function/BiFunction;" (fun _ => False) U H
theorem SJ.moved {q v : Nat} {U U' : State} {H : Heap} (hvm : U.vm.Alike U'.vm) (h : SJ q v U H) : SJ q v U' H := ⟨vk_S.moved hvm h.1, va_Z.moved hvm h.2.1, va_Zq.moved hvm h.2.2⟩
theorem SJ.kept {q v : Nat} {U : State} {H H1 : Heap} (h : SJ q v U H) (hq : ∀ a : Nat, a < H.size → H1[a]? = H[a]?) : SJ q v U H1 := ⟨vk_S.kept h.1 (fun a h1 _ => hq a h1), va_Z.kept h.2.1 (fun a h1 _ => hq a h1), va_Zq.kept h.2.2 (fun a h1 _ => hq a h1)⟩
/-- the world of the constant, carried with the facts of the tables -/
def SW (g : Gt) (U : State) : Prop := (∃ q v : Nat, vk_R "HungFromIce" 88 TX q U ∧ SJ q v U g.1) ∧ ∃ scr : Cell, g.1[g.2.2.2]? = some scr ∧ U.isArrayOf scr .int ∧ scr.vm ≠ .unknown
theorem SW.warm {g : Gt} {s U : State} (hW : s.WarmedH U.vm) (h : SW g s) : SW g U := ⟨h.1.elim fun q hq => hq.elim fun v hv => ⟨q, v, vk_R.warm hW hv.1, SJ.moved hW.alike hv.2⟩, h.2.elim fun scr hs => ⟨scr, hs.1, State.isArrayOf_alike hW.alike hs.2.1, hs.2.2⟩⟩
theorem SW.call {g : Gt} {U : State} (gg : JFrame) (mk : MethodId) (a : Array Value) (h : SW g U) : SW g (U.calling gg mk a) := ⟨h.1.elim fun q hq => hq.elim fun v hv => ⟨q, v, vk_R.same (u := U) (U := U.calling gg mk a) rfl hv.1, SJ.moved (U := U) (U' := U.calling gg mk a) (Vm.Alike.refl U.vm) hv.2⟩, h.2.elim fun scr hs => ⟨scr, hs.1, State.isArrayOf_alike (Vm.Alike.refl U.vm) hs.2.1, hs.2.2⟩⟩
def Kst (g : Gt) (U : State) : Prop := va_K g.2.1 vwCl (tysOf g) U ∧ (∀ w ∈ ntbl, va_Nw w U) ∧ SW g U
theorem Kst.warm {g : Gt} {s U : State} (hW : s.WarmedH U.vm) (h : Kst g s) : Kst g U := by
  refine ⟨va_K.moved hW.alike h.1, fun w hw => ?_, SW.warm hW h.2.2⟩
  have h1 := h.2.1 w hw
  have h2 := (List.mem_filter.mp hw).2
  cases w <;> first | exact va_Nw.warmF hW h1 | exact va_Nw.warmM hW h1 | (simp [isNest] at h2; done) | (rename_i ty; cases ty <;> first | exact va_AO.moved hW.alike h1 | (simp [isNest] at h2))
theorem Kst.call {g : Gt} {U : State} (gg : JFrame) (mk : MethodId) (a : Array Value) (h : Kst g U) : Kst g (U.calling gg mk a) := by
  refine ⟨va_K.moved (u := U) (U := U.calling gg mk a) (Vm.Alike.refl U.vm) h.1, fun w hw => ?_, SW.call gg mk a h.2.2⟩
  have h1 := h.2.1 w hw
  have h2 := (List.mem_filter.mp hw).2
  have e : U.vm = (U.calling gg mk a).vm := rfl
  cases w <;> first | exact va_Nw.same rfl e h1 | (simp [isNest] at h2; done) | (rename_i ty; cases ty <;> first | exact va_AO.moved (u := U) (U := U.calling gg mk a) (Vm.Alike.refl U.vm) h1 | (simp [isNest] at h2))
def lvFrom (g : Gt) : Nat → List Vv → List (Nat × Value)
  | _, [] => []
  | k, v :: r => if isJ v = true then lvFrom g (k + 1) r else (k, toV g v) :: lvFrom g (k + 1) r
def Fx (g : Gt) (mm : Mm) (d : Nat) (p : Program) (R : Room) (s : State) (m : MethodId) (args : Array Value) (meth : Method) (c : Code) : Prop :=
  p.tables.exec = Jvm.exec ∧ c.code = mm.2.1 ∧ c.maxLocals = mm.2.2.1 ∧ meth.sig.returnType = mm.2.2.2 ∧ meth.locks = false ∧ meth.name = mm.1.name ∧ (∀ w ∈ tbl, w.before args s = true) ∧ s.vm.findClass mm.1.cls = some m.cls ∧ Kst g s ∧ d ≤ R.frames ∧ 40 * d ≤ R.locals
def Dx (g : Gt) (mm : Mm) (Z : Zt) (I : It) (P : Pt') (ls st : List Vv) (H : Heap) (locs : List Loc) (lj : Array Slot) : Prop :=
  Rel g Z I P H ∧ (∀ q ∈ locs, g0 g ≤ q.base) ∧ lv_has lj mm.2.2.1 (lvFrom g 0 ls) ∧ (∀ v ∈ ls, okV v) ∧ ∀ v ∈ st, okV v
abbrev Qt : Type := Option Vv → Zt → It → Pt' → Prop
def Qe (g : Gt) (Q : Qt) : Array Value → State → Outcome → State → Prop := fun _ _ o t =>
  ∃ (r : Option Vv) (Z : Zt) (I : It) (P : Pt'), o = .returned (r.map (toV g)) ∧ Q r Z I P ∧ Rel g Z I P t.heap ∧ ∀ v, r = some v → okV v
/-- how many slots a cell has; all cells; the heap from a place on -/
def nwZ0 (Z : Zt) (k : Nat) (len : Int) : Zt := (fun a => if a = Z.2.2 then k else Z.1 a, fun a => if a = Z.2.2 then len else Z.2.1 a, Z.2.2 + 1)
def csz (k : Nat) (len : Int) : Nat := if k < 13 then (fR k).length else len.toNat
def TZ (Z : Zt) : Nat := ((List.range Z.2.2).map (fun a => csz (Z.1 a) (Z.2.1 a))).sum
def hsz (H : Heap) (n : Nat) : Nat := ((H.toList.drop n).map (fun c => c.slots.size)).sum
def BC (g : Gt) (Z : Zt) (bc : Nat) (s : State) (R : Room) : Prop := g0 g ≤ s.heap.size ∧ g0 g + Z.2.2 + bc ≤ s.heap.size + R.cells
def BS (g : Gt) (Z : Zt) (bs : Nat) (s : State) (R : Room) : Prop := TZ Z + bs ≤ hsz s.heap (g0 g) + R.slots
def Ev (l : Launch) (g : Gt) (mm : Mm) (d bc bs : Nat) (Z : Zt) (I : It) (P : Pt') (pc : Nat) (ls st : List Vv) (Q : Qt) : Prop :=
  ∀ (p : Program) (e : Env) (R : Room) (s : State) (m : MethodId) (args : Array Value) (below : List Frame) (meth : Method) (c : Code) (H : Heap) (locs : List Loc) (cells slots : Nat) (lj : Array Slot),
    Fx g mm d p R s m args meth c → Dx g mm Z I P ls st H locs lj → BC g Z bc s R → BS g Z bs s R →
      W p l e R s m args below meth c H locs cells slots (MQ below (Qe g Q) args s R.cells R.slots (fun q => g0 g ≤ q)) (F0 m pc lj (st.map (toV g)))
def rmOf (d mc ms : Nat) : Room := { frames := d, cells := mc, slots := ms, locals := 40 * d }
def wsOf (mm : Mm) : List Cond := Cond.code mm.1 mm.2.1 mm.2.2.1 mm.2.2.2 :: tbl
def Pe (g : Gt) (as : List Vv) (Z : Zt) (I : It) (P : Pt') : Array Value → State → Prop := fun v U =>
  v = (as.map (toV g)).toArray ∧ Rel g Z I P U.heap ∧ Kst g U ∧ ∀ v ∈ as, okV v
def Mt (l : Launch) (g : Gt) (mm : Mm) (d mc ms : Nat) (as : List Vv) (Z : Zt) (I : It) (P : Pt') (Q : Qt) : Prop :=
  Met l mm.1 (wsOf mm) (rmOf d mc ms) (Pe g as Z I P) (Qe g Q) mc ms (fun q => g0 g ≤ q)

-- numbers
theorem i_to {x : Int} (h : InR x) : (Int32.ofInt x).toInt = x := Int32.toInt_ofInt_of_le (by have := h.1; omega) (by have := h.2; omega)
theorem l_to {x : Int} (h : InL x) : (Int64.ofInt x).toInt = x := Int64.toInt_ofInt_of_le (by have := h.1; omega) (by have := h.2; omega)
theorem i_of (x : Int32) : InR x.toInt := ⟨by have := x.le_toInt; omega, by have := x.toInt_lt; omega⟩
theorem l_of (x : Int64) : InL x.toInt := ⟨by have := x.le_toInt; omega, by have := x.toInt_lt; omega⟩
theorem i_lt {x y : Int} (hx : InR x) (hy : InR y) : Int32.ofInt x < Int32.ofInt y ↔ x < y := by rw [Int32.lt_iff_toInt_lt, i_to hx, i_to hy]
theorem i_le {x y : Int} (hx : InR x) (hy : InR y) : Int32.ofInt x ≤ Int32.ofInt y ↔ x ≤ y := by rw [Int32.le_iff_toInt_le, i_to hx, i_to hy]
theorem i_eq {x y : Int} (hx : InR x) (hy : InR y) : Int32.ofInt x = Int32.ofInt y ↔ x = y := by rw [← Int32.toInt_inj, i_to hx, i_to hy]
theorem l_eq {x y : Int} (hx : InL x) (hy : InL y) : Int64.ofInt x = Int64.ofInt y ↔ x = y := by rw [← Int64.toInt_inj, l_to hx, l_to hy]
theorem l_lt {x y : Int} (hx : InL x) (hy : InL y) : Int64.ofInt x < Int64.ofInt y ↔ x < y := by rw [Int64.lt_iff_toInt_lt, l_to hx, l_to hy]
theorem i_nat {x : Int} (h : InR x) : (Int32.ofInt x).toNatClampNeg = x.toNat := by
  show (Int32.ofInt x).toInt.toNat = x.toNat
  rw [i_to h]
theorem i_in {x n : Int} (hx : InR x) (h0 : 0 ≤ x) (hn : x < n) : vp_in (Int32.ofInt x) n.toNat := by
  rw [vp_in_iff, i_to hx]
  omega
-- places of the locals
theorem lvFrom_mem (g : Gt) : ∀ (ls : List Vv) (k i : Nat) (v : Vv), ls[i]? = some v → isJ v = false → (k + i, toV g v) ∈ lvFrom g k ls
  | [], k, i, v, h, _ => by simp at h
  | w :: r, k, 0, v, h, hj => by
    simp at h; subst h
    simp [lvFrom, hj]
  | w :: r, k, i + 1, v, h, hj => by
    simp at h
    have := lvFrom_mem g r (k + 1) i v h hj
    have e : k + 1 + i = k + (i + 1) := by omega
    rw [e] at this
    unfold lvFrom
    split
    · exact this
    · exact List.mem_cons_of_mem _ this
theorem lvFrom_of (g : Gt) : ∀ (ls : List Vv) (k : Nat) (q : Nat × Value), q ∈ lvFrom g k ls → ∃ (i : Nat) (v : Vv), ls[i]? = some v ∧ isJ v = false ∧ q = (k + i, toV g v)
  | [], k, q, h => by simp [lvFrom] at h
  | w :: r, k, q, h => by
    unfold lvFrom at h
    split at h
    · obtain ⟨i, v, h1, h2, h3⟩ := lvFrom_of g r (k + 1) q h
      exact ⟨i + 1, v, by simpa using h1, h2, by rw [h3]; congr 1; omega⟩
    · rename_i hj
      rcases List.mem_cons.mp h with h | h
      · exact ⟨0, w, rfl, by simpa using hj, h⟩
      · obtain ⟨i, v, h1, h2, h3⟩ := lvFrom_of g r (k + 1) q h
        exact ⟨i + 1, v, by simpa using h1, h2, by rw [h3]; congr 1; omega⟩
theorem lv_rd {g : Gt} {lj : Array Slot} {nL : Nat} {ls : List Vv} (h : lv_has lj nL (lvFrom g 0 ls)) {i : Nat} {v : Vv} (hi : ls[i]? = some v) (hj : isJ v = false) : lj[i]? = some (.val (toV g v)) := by
  have := h.2.2 _ (lvFrom_mem g ls 0 i v hi hj)
  simpa using this
theorem lv_to {g : Gt} {lj : Array Slot} {nL : Nat} {ls : List Vv} {l : List (Nat × Value)} (h : lv_has lj nL l) (hh : ∀ (i : Nat) (v : Vv), ls[i]? = some v → isJ v = false → (i, toV g v) ∈ l) : lv_has lj nL (lvFrom g 0 ls) := by
  refine ⟨h.1, h.2.1, fun q hq => ?_⟩
  obtain ⟨i, v, h1, h2, h3⟩ := lvFrom_of g ls 0 q hq
  subst h3
  have := h.2.2 _ (hh i v h1 h2)
  simpa using this
theorem toV_cat (g : Gt) (v : Vv) : (toV g v).category = if isLg v = true then 2 else 1 := by
  rcases v with x | x | (_ | _) | _ <;> rfl
theorem hsz_split {H : Heap} {a b : Nat} (h : a ≤ b) : hsz H a = ((((H.toList.drop a).take (b - a)).map (fun c => c.slots.size)).sum) + hsz H b := by
  unfold hsz
  have e : H.toList.drop b = (H.toList.drop a).drop (b - a) := by rw [List.drop_drop]; congr 1; omega
  rw [e, ← List.sum_append, ← List.map_append, List.take_append_drop]
theorem rel_hsz {g : Gt} {Z : Zt} {I : It} {P : Pt'} {H : Heap} (h : Rel g Z I P H) : hsz H (g0 g) = TZ Z := by
  unfold hsz TZ
  congr 1
  apply List.ext_getElem?
  intro i
  rw [List.getElem?_map, List.getElem?_drop, List.getElem?_map]
  by_cases hi : i < Z.2.2
  · rw [List.getElem?_range hi]
    obtain ⟨h1, h2⟩ := h.2.2.1 i hi
    unfold cOK at h2
    show Option.map _ (H.toList[g0 g + i]?) = some (csz _ _)
    rw [Array.getElem?_toList]
    unfold csz
    split at h2
    · rename_i hk
      obtain ⟨-, cell, e1, e2⟩ := h2
      rw [e1, if_pos hk]; simp [e2]
    · rename_i hk
      rw [h2, if_neg hk]; simp [arrV_size]
  · have e : (List.range Z.2.2)[i]? = none := by simp; omega
    have e2 : H.toList[g0 g + i]? = none := by
      rw [Array.getElem?_toList]
      have := h.1
      simp; omega
    rw [e, e2]; rfl
theorem TZ_nw (Z : Zt) (k : Nat) (len : Int) : TZ (nwZ0 Z k len) = TZ Z + csz k len := by
  unfold TZ nwZ0
  dsimp only
  rw [List.range_succ, List.map_append, List.sum_append]
  have e : (List.range Z.2.2).map (fun a => csz (if a = Z.2.2 then k else Z.1 a) (if a = Z.2.2 then len else Z.2.1 a)) = (List.range Z.2.2).map (fun a => csz (Z.1 a) (Z.2.1 a)) := by
    apply List.map_congr_left
    intro a ha
    have : a ≠ Z.2.2 := by have := List.mem_range.mp ha; omega
    rw [if_neg this, if_neg this]
  rw [e]
  simp
/-- what has been used, told exactly by the heap -/
theorem W.tight {p : Program} {l : Launch} {e : Env} {R : Room} {s : State} {m : MethodId} {args : Array Value} {below : List Frame} {meth : Method} {c : Code} {H : Heap} {locs : List Loc} {cells slots : Nat} {Q : State → Prop} {f : JFrame} {n : Nat} (hn : n ≤ s.heap.size)
    (k : W p l e R s m args below meth c H locs (H.size - s.heap.size) (hsz H n - hsz s.heap n) Q f) : W p l e R s m args below meth c H locs cells slots Q f := by
  intro T hT X
  refine k T hT { X with same := ?_ }
  obtain ⟨h1, h2, h3, h4, h5, h6⟩ := X.same
  subst hT
  refine ⟨h1, h2, ?_, h4, ?_, h6⟩
  · show T.heap.size ≤ s.heap.size + (T.heap.size - s.heap.size); omega
  · show hsz T.heap s.heap.size ≤ _
    rw [hsz_split hn (H := T.heap), hsz_split hn (H := s.heap)]
    have h0 : hsz s.heap s.heap.size = 0 := by
      unfold hsz
      rw [List.drop_of_length_le (by simp)]; rfl
    have e : ((T.heap.toList.drop n).take (s.heap.size - n)).map (fun c => c.slots.size) = ((s.heap.toList.drop n).take (s.heap.size - n)).map (fun c => c.slots.size) := by
      apply List.ext_getElem?
      intro i
      rw [List.getElem?_map, List.getElem?_map, List.getElem?_take, List.getElem?_take]
      split
      · rename_i hi
        rw [List.getElem?_drop, List.getElem?_drop, Array.getElem?_toList, Array.getElem?_toList]
        obtain ⟨c0, hc0⟩ : ∃ c0, s.heap[n + i]? = some c0 := ⟨_, Array.getElem?_eq_getElem (by omega)⟩
        obtain ⟨c', e1, -, e2, -⟩ := h6 _ _ hc0
        have e1' : T.heap[n + i]? = some c' := e1
        rw [hc0, e1']; simp [e2]
      · rfl
    rw [e, h0]
    omega
/-- what a call has used at most, as the heap shows -/
theorem used_of {p : Program} {l : Launch} {e : Env} {R : Room} {s : State} {m : MethodId} {args : Array Value} {below : List Frame} {meth : Method} {c : Code} {T : State} {locs : List Loc} {cells slots n : Nat} (hn : n ≤ s.heap.size) (X : Stand p l e R s m args below meth c T locs cells slots) :
    T.heap.size ≤ s.heap.size + cells ∧ hsz T.heap n ≤ hsz s.heap n + slots := by
  obtain ⟨h1, h2, h3, h4, h5, h6⟩ := X.same
  refine ⟨h3, ?_⟩
  rw [hsz_split hn (H := T.heap), hsz_split hn (H := s.heap)]
  have h0 : hsz s.heap s.heap.size = 0 := by
    unfold hsz
    rw [List.drop_of_length_le (by simp)]; rfl
  have e : ((T.heap.toList.drop n).take (s.heap.size - n)).map (fun c => c.slots.size) = ((s.heap.toList.drop n).take (s.heap.size - n)).map (fun c => c.slots.size) := by
    apply List.ext_getElem?
    intro i
    rw [List.getElem?_map, List.getElem?_map, List.getElem?_take, List.getElem?_take]
    split
    · rename_i hi
      rw [List.getElem?_drop, List.getElem?_drop, Array.getElem?_toList, Array.getElem?_toList]
      obtain ⟨c0, hc0⟩ : ∃ c0, s.heap[n + i]? = some c0 := ⟨_, Array.getElem?_eq_getElem (by omega)⟩
      obtain ⟨c', e1, -, e2, -⟩ := h6 _ _ hc0
      have e1' : T.heap[n + i]? = some c' := e1
      rw [hc0, e1']; simp [e2]
    · rfl
  have h7 : hsz T.heap s.heap.size ≤ slots := h5
  rw [e, h0]
  omega
theorem hsz_mono {p : Program} {l : Launch} {e : Env} {R : Room} {s : State} {m : MethodId} {args : Array Value} {below : List Frame} {meth : Method} {c : Code} {T : State} {locs : List Loc} {cells slots n : Nat} (hn : n ≤ s.heap.size) (X : Stand p l e R s m args below meth c T locs cells slots) : hsz s.heap n ≤ hsz T.heap n := by
  obtain ⟨h1, h2, h3, h4, h5, h6⟩ := X.same
  rw [hsz_split hn (H := T.heap), hsz_split hn (H := s.heap)]
  have h0 : hsz s.heap s.heap.size = 0 := by
    unfold hsz
    rw [List.drop_of_length_le (by simp)]; rfl
  have e : ((T.heap.toList.drop n).take (s.heap.size - n)).map (fun c => c.slots.size) = ((s.heap.toList.drop n).take (s.heap.size - n)).map (fun c => c.slots.size) := by
    apply List.ext_getElem?
    intro i
    rw [List.getElem?_map, List.getElem?_map, List.getElem?_take, List.getElem?_take]
    split
    · rename_i hi
      rw [List.getElem?_drop, List.getElem?_drop, Array.getElem?_toList, Array.getElem?_toList]
      obtain ⟨c0, hc0⟩ : ∃ c0, s.heap[n + i]? = some c0 := ⟨_, Array.getElem?_eq_getElem (by omega)⟩
      obtain ⟨c', e1, -, e2, -⟩ := h6 _ _ hc0
      have e1' : T.heap[n + i]? = some c' := e1
      rw [hc0, e1']; simp [e2]
    · rfl
  rw [e, h0]
  omega
