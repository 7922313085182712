/-! one rule an instruction: constants, locals, stack, arithmetic, branches -/
theorem Ev.step {l : Launch} {g : Gt} {mm : Mm} {d bc bs : Nat} {Z : Zt} {I : It} {P : Pt'} {pc pc' : Nat} {ls st st' : List Vv} {Q : Qt}
    (hok : (∀ v ∈ ls, okV v) → (∀ v ∈ st, okV v) → ∀ v ∈ st', okV v)
    (hw : ∀ (p : Program) (e : Env) (R : Room) (s : State) (m : MethodId) (args : Array Value) (below : List Frame) (meth : Method) (c : Code) (H : Heap) (locs : List Loc) (cells slots : Nat) (lj : Array Slot) (Q0 : State → Prop),
      Fx g mm d p R s m args meth c → Dx g mm Z I P ls st H locs lj →
      W p l e R s m args below meth c H locs cells slots Q0 (F0 m pc' lj (st'.map (toV g))) → W p l e R s m args below meth c H locs cells slots Q0 (F0 m pc lj (st.map (toV g))))
    (k : Ev l g mm d bc bs Z I P pc' ls st' Q) : Ev l g mm d bc bs Z I P pc ls st Q := by
  intro p e R s m args below meth c H locs cells slots lj hF hD hc hs
  exact hw p e R s m args below meth c H locs cells slots lj _ hF hD (k p e R s m args below meth c H locs cells slots lj hF ⟨hD.1, hD.2.1, hD.2.2.1, hD.2.2.2.1, hok hD.2.2.2.1 hD.2.2.2.2⟩ hc hs)
theorem Ev.br {l : Launch} {g : Gt} {mm : Mm} {d bc bs : Nat} {Z : Zt} {I : It} {P : Pt'} {pc pc1 pc2 : Nat} {ls st st' : List Vv} {Q : Qt} {C : Prop}
    (hok : (∀ v ∈ st, okV v) → ∀ v ∈ st', okV v)
    (hw : ∀ (p : Program) (e : Env) (R : Room) (s : State) (m : MethodId) (args : Array Value) (below : List Frame) (meth : Method) (c : Code) (H : Heap) (locs : List Loc) (cells slots : Nat) (lj : Array Slot) (Q0 : State → Prop),
      Fx g mm d p R s m args meth c → (∀ v ∈ st, okV v) →
      (C → W p l e R s m args below meth c H locs cells slots Q0 (F0 m pc1 lj (st'.map (toV g)))) → (¬ C → W p l e R s m args below meth c H locs cells slots Q0 (F0 m pc2 lj (st'.map (toV g)))) → W p l e R s m args below meth c H locs cells slots Q0 (F0 m pc lj (st.map (toV g))))
    (kt : C → Ev l g mm d bc bs Z I P pc1 ls st' Q) (kf : ¬ C → Ev l g mm d bc bs Z I P pc2 ls st' Q) : Ev l g mm d bc bs Z I P pc ls st Q := by
  intro p e R s m args below meth c H locs cells slots lj hF hD hc hs
  exact hw p e R s m args below meth c H locs cells slots lj _ hF hD.2.2.2.2 (fun hC => kt hC p e R s m args below meth c H locs cells slots lj hF ⟨hD.1, hD.2.1, hD.2.2.1, hD.2.2.2.1, hok hD.2.2.2.2⟩ hc hs) (fun hC => kf hC p e R s m args below meth c H locs cells slots lj hF ⟨hD.1, hD.2.1, hD.2.2.1, hD.2.2.2.1, hok hD.2.2.2.2⟩ hc hs)
/-- locals anew: the same places, another list -/
theorem Ev.stl {l : Launch} {g : Gt} {mm : Mm} {d bc bs : Nat} {Z : Zt} {I : It} {P : Pt'} {pc pc' : Nat} {ls ls' st st' : List Vv} {Q : Qt}
    (hok : (∀ v ∈ ls, okV v) → (∀ v ∈ st, okV v) → (∀ v ∈ ls', okV v) ∧ ∀ v ∈ st', okV v)
    (hw : ∀ (p : Program) (e : Env) (R : Room) (s : State) (m : MethodId) (args : Array Value) (below : List Frame) (meth : Method) (c : Code) (H : Heap) (locs : List Loc) (cells slots : Nat) (lj : Array Slot) (Q0 : State → Prop),
      Fx g mm d p R s m args meth c → lv_has lj mm.2.2.1 (lvFrom g 0 ls) →
      (∀ lj' : Array Slot, lv_has lj' mm.2.2.1 (lvFrom g 0 ls') → W p l e R s m args below meth c H locs cells slots Q0 (F0 m pc' lj' (st'.map (toV g)))) → W p l e R s m args below meth c H locs cells slots Q0 (F0 m pc lj (st.map (toV g))))
    (k : Ev l g mm d bc bs Z I P pc' ls' st' Q) : Ev l g mm d bc bs Z I P pc ls st Q := by
  intro p e R s m args below meth c H locs cells slots lj hF hD hc hs
  have h2 := hok hD.2.2.2.1 hD.2.2.2.2
  exact hw p e R s m args below meth c H locs cells slots lj _ hF hD.2.2.1 (fun lj' hl' => k p e R s m args below meth c H locs cells slots lj' hF ⟨hD.1, hD.2.1, hl', h2.1, h2.2⟩ hc hs)
def pvLg (ls : List Vv) (i : Nat) : Bool := match i with
  | 0 => false
  | j + 1 => isLg (ls.getD j vX)
theorem lv_st1 {g : Gt} {lj : Array Slot} {nL i : Nat} {ls : List Vv} {v : Vv} (hok : pvLg ls i = false)
    (h : lv_has lj nL ((i, toV g v) :: (lvFrom g 0 ls).filter (fun q => !(q.1 == i) && !(q.1 + 1 == i && q.2.category == 2)))) : lv_has lj nL (lvFrom g 0 (ls.set i v)) := by
  refine lv_to h fun j w hw hj => ?_
  by_cases e : j = i
  · subst e
    rw [List.getElem?_set] at hw
    split at hw
    · split at hw
      · cases hw; exact List.mem_cons_self
      · cases hw
    · exact absurd rfl (by assumption)
  · rw [List.getElem?_set_ne (Ne.symm e)] at hw
    refine List.mem_cons_of_mem _ (List.mem_filter.mpr ⟨by simpa using lvFrom_mem g ls 0 j w hw hj, ?_⟩)
    simp only [Bool.and_eq_true, Bool.not_eq_true', beq_eq_false_iff_ne, ne_eq, Bool.and_eq_false_iff, beq_eq_false_iff_ne]
    refine ⟨e, ?_⟩
    by_cases e2 : j + 1 = i
    · right
      subst e2
      have : isLg w = false := by
        have h3 : isLg (ls.getD j vX) = false := hok
        rw [List.getD_eq_getElem?_getD, hw] at h3
        exact h3
      rw [toV_cat, this]
      simp
    · left; exact e2
theorem lv_st2 {g : Gt} {lj : Array Slot} {nL i : Nat} {ls : List Vv} {v : Vv} (hok : pvLg ls i = false)
    (h : lv_has lj nL ((i, toV g v) :: (lvFrom g 0 ls).filter (fun q => !(q.1 == i) && (!(q.1 == i + 1) && !(q.1 + 1 == i && q.2.category == 2))))) : lv_has lj nL (lvFrom g 0 ((ls.set i v).set (i + 1) vX)) := by
  refine lv_to h fun j w hw hj => ?_
  by_cases e1 : j = i + 1
  · subst e1
    rw [List.getElem?_set] at hw
    split at hw
    · split at hw
      · cases hw; cases hj
      · cases hw
    · exact absurd rfl (by assumption)
  · rw [List.getElem?_set_ne (Ne.symm e1)] at hw
    by_cases e : j = i
    · subst e
      rw [List.getElem?_set] at hw
      split at hw
      · split at hw
        · cases hw; exact List.mem_cons_self
        · cases hw
      · exact absurd rfl (by assumption)
    · rw [List.getElem?_set_ne (Ne.symm e)] at hw
      refine List.mem_cons_of_mem _ (List.mem_filter.mpr ⟨by simpa using lvFrom_mem g ls 0 j w hw hj, ?_⟩)
      simp only [Bool.and_eq_true, Bool.not_eq_true', beq_eq_false_iff_ne, ne_eq, Bool.and_eq_false_iff, beq_eq_false_iff_ne]
      refine ⟨e, e1, ?_⟩
      by_cases e2 : j + 1 = i
      · right
        subst e2
        have : isLg w = false := by
          have h3 : isLg (ls.getD j vX) = false := hok
          rw [List.getD_eq_getElem?_getD, hw] at h3
          exact h3
        rw [toV_cat, this]
        simp
      · left; exact e2
theorem ok_set {ls : List Vv} {v : Vv} {i : Nat} (h : ∀ v ∈ ls, okV v) (hv : okV v) : ∀ w ∈ ls.set i v, okV w := fun w hw => by
  rcases List.mem_or_eq_of_mem_set hw with h1 | h1
  · exact h w h1
  · rw [h1]; exact hv
theorem ok_at {ls : List Vv} {v : Vv} {i : Nat} (h : ∀ v ∈ ls, okV v) (hi : ls[i]? = some v) : okV v := h v (List.mem_of_getElem? hi)
theorem ok_c {v : Vv} {st : List Vv} (hv : okV v) (h : ∀ w ∈ st, okV w) : ∀ w ∈ v :: st, okV w := fun w hw => (List.mem_cons.mp hw).elim (fun e => e ▸ hv) (h w)
theorem ok_cI {x : Int} {st : List Vv} (hv : InR x) (h : ∀ w ∈ st, okV w) : ∀ w ∈ vI x :: st, okV w := ok_c (v := vI x) hv h
theorem ok_cL {x : Int} {st : List Vv} (hv : InL x) (h : ∀ w ∈ st, okV w) : ∀ w ∈ vL x :: st, okV w := ok_c (v := vL x) hv h
theorem ok_cN {st : List Vv} (h : ∀ w ∈ st, okV w) : ∀ w ∈ vN :: st, okV w := ok_c (v := vN) trivial h
theorem ok_cA {x : Nat} {st : List Vv} (h : ∀ w ∈ st, okV w) : ∀ w ∈ vA x :: st, okV w := ok_c (v := vA x) trivial h
theorem ok_t {v : Vv} {st : List Vv} (h : ∀ w ∈ v :: st, okV w) : ∀ w ∈ st, okV w := fun w hw => h w (List.mem_cons_of_mem _ hw)
theorem ok_h {v : Vv} {st : List Vv} (h : ∀ w ∈ v :: st, okV w) : okV v := h v List.mem_cons_self
section RUL
variable {l : Launch} {g : Gt} {mm : Mm} {d bc bs : Nat} {Z : Zt} {I : It} {P : Pt'} {ls st : List Vv} {Q : Qt}
theorem ev_iload_0 (pc : Nat) {x : Int} {r : List Vv} (hd : decode mm.2.1 pc = .ok (.iload_n 0, 1)) (k : Ev l g mm d bc bs Z I P (pc + 1) (vI x :: r) (vI x :: st) Q) : Ev l g mm d bc bs Z I P pc (vI x :: r) st Q :=
  Ev.step (fun h1 h2 => ok_c (ok_at (i := 0) h1 rfl) h2) (fun p e R s m args below meth c H locs cells slots lj Q0 hF hD kk => lv_iload_n hF.1 hF.2.1 hd rfl (lv_rd hD.2.2.1 (i := 0) (v := vI x) rfl rfl) kk) k
theorem ev_iload_1 (pc : Nat) {a0 : Vv} {x : Int} {r : List Vv} (hd : decode mm.2.1 pc = .ok (.iload_n 1, 1)) (k : Ev l g mm d bc bs Z I P (pc + 1) (a0 :: vI x :: r) (vI x :: st) Q) : Ev l g mm d bc bs Z I P pc (a0 :: vI x :: r) st Q :=
  Ev.step (fun h1 h2 => ok_c (ok_at (i := 1) h1 rfl) h2) (fun p e R s m args below meth c H locs cells slots lj Q0 hF hD kk => lv_iload_n hF.1 hF.2.1 hd rfl (lv_rd hD.2.2.1 (i := 1) (v := vI x) rfl rfl) kk) k
theorem ev_iload_2 (pc : Nat) {a0 a1 : Vv} {x : Int} {r : List Vv} (hd : decode mm.2.1 pc = .ok (.iload_n 2, 1)) (k : Ev l g mm d bc bs Z I P (pc + 1) (a0 :: a1 :: vI x :: r) (vI x :: st) Q) : Ev l g mm d bc bs Z I P pc (a0 :: a1 :: vI x :: r) st Q :=
  Ev.step (fun h1 h2 => ok_c (ok_at (i := 2) h1 rfl) h2) (fun p e R s m args below meth c H locs cells slots lj Q0 hF hD kk => lv_iload_n hF.1 hF.2.1 hd rfl (lv_rd hD.2.2.1 (i := 2) (v := vI x) rfl rfl) kk) k
theorem ev_iload_3 (pc : Nat) {a0 a1 a2 : Vv} {x : Int} {r : List Vv} (hd : decode mm.2.1 pc = .ok (.iload_n 3, 1)) (k : Ev l g mm d bc bs Z I P (pc + 1) (a0 :: a1 :: a2 :: vI x :: r) (vI x :: st) Q) : Ev l g mm d bc bs Z I P pc (a0 :: a1 :: a2 :: vI x :: r) st Q :=
  Ev.step (fun h1 h2 => ok_c (ok_at (i := 3) h1 rfl) h2) (fun p e R s m args below meth c H locs cells slots lj Q0 hF hD kk => lv_iload_n hF.1 hF.2.1 hd rfl (lv_rd hD.2.2.1 (i := 3) (v := vI x) rfl rfl) kk) k
theorem ev_iload_4 (pc : Nat) {a0 a1 a2 a3 : Vv} {x : Int} {r : List Vv} (hd : decode mm.2.1 pc = .ok (.iload 4, 2)) (k : Ev l g mm d bc bs Z I P (pc + 2) (a0 :: a1 :: a2 :: a3 :: vI x :: r) (vI x :: st) Q) : Ev l g mm d bc bs Z I P pc (a0 :: a1 :: a2 :: a3 :: vI x :: r) st Q :=
  Ev.step (fun h1 h2 => ok_c (ok_at (i := 4) h1 rfl) h2) (fun p e R s m args below meth c H locs cells slots lj Q0 hF hD kk => lv_iload hF.1 hF.2.1 hd (lv_rd hD.2.2.1 (i := 4) (v := vI x) rfl rfl) kk) k
theorem ev_iload_5 (pc : Nat) {a0 a1 a2 a3 a4 : Vv} {x : Int} {r : List Vv} (hd : decode mm.2.1 pc = .ok (.iload 5, 2)) (k : Ev l g mm d bc bs Z I P (pc + 2) (a0 :: a1 :: a2 :: a3 :: a4 :: vI x :: r) (vI x :: st) Q) : Ev l g mm d bc bs Z I P pc (a0 :: a1 :: a2 :: a3 :: a4 :: vI x :: r) st Q :=
  Ev.step (fun h1 h2 => ok_c (ok_at (i := 5) h1 rfl) h2) (fun p e R s m args below meth c H locs cells slots lj Q0 hF hD kk => lv_iload hF.1 hF.2.1 hd (lv_rd hD.2.2.1 (i := 5) (v := vI x) rfl rfl) kk) k
theorem ev_iload_6 (pc : Nat) {a0 a1 a2 a3 a4 a5 : Vv} {x : Int} {r : List Vv} (hd : decode mm.2.1 pc = .ok (.iload 6, 2)) (k : Ev l g mm d bc bs Z I P (pc + 2) (a0 :: a1 :: a2 :: a3 :: a4 :: a5 :: vI x :: r) (vI x :: st) Q) : Ev l g mm d bc bs Z I P pc (a0 :: a1 :: a2 :: a3 :: a4 :: a5 :: vI x :: r) st Q :=
  Ev.step (fun h1 h2 => ok_c (ok_at (i := 6) h1 rfl) h2) (fun p e R s m args below meth c H locs cells slots lj Q0 hF hD kk => lv_iload hF.1 hF.2.1 hd (lv_rd hD.2.2.1 (i := 6) (v := vI x) rfl rfl) kk) k
theorem ev_iload_7 (pc : Nat) {a0 a1 a2 a3 a4 a5 a6 : Vv} {x : Int} {r : List Vv} (hd : decode mm.2.1 pc = .ok (.iload 7, 2)) (k : Ev l g mm d bc bs Z I P (pc + 2) (a0 :: a1 :: a2 :: a3 :: a4 :: a5 :: a6 :: vI x :: r) (vI x :: st) Q) : Ev l g mm d bc bs Z I P pc (a0 :: a1 :: a2 :: a3 :: a4 :: a5 :: a6 :: vI x :: r) st Q :=
  Ev.step (fun h1 h2 => ok_c (ok_at (i := 7) h1 rfl) h2) (fun p e R s m args below meth c H locs cells slots lj Q0 hF hD kk => lv_iload hF.1 hF.2.1 hd (lv_rd hD.2.2.1 (i := 7) (v := vI x) rfl rfl) kk) k
theorem ev_iload_8 (pc : Nat) {a0 a1 a2 a3 a4 a5 a6 a7 : Vv} {x : Int} {r : List Vv} (hd : decode mm.2.1 pc = .ok (.iload 8, 2)) (k : Ev l g mm d bc bs Z I P (pc + 2) (a0 :: a1 :: a2 :: a3 :: a4 :: a5 :: a6 :: a7 :: vI x :: r) (vI x :: st) Q) : Ev l g mm d bc bs Z I P pc (a0 :: a1 :: a2 :: a3 :: a4 :: a5 :: a6 :: a7 :: vI x :: r) st Q :=
  Ev.step (fun h1 h2 => ok_c (ok_at (i := 8) h1 rfl) h2) (fun p e R s m args below meth c H locs cells slots lj Q0 hF hD kk => lv_iload hF.1 hF.2.1 hd (lv_rd hD.2.2.1 (i := 8) (v := vI x) rfl rfl) kk) k
theorem ev_iload_9 (pc : Nat) {a0 a1 a2 a3 a4 a5 a6 a7 a8 : Vv} {x : Int} {r : List Vv} (hd : decode mm.2.1 pc = .ok (.iload 9, 2)) (k : Ev l g mm d bc bs Z I P (pc + 2) (a0 :: a1 :: a2 :: a3 :: a4 :: a5 :: a6 :: a7 :: a8 :: vI x :: r) (vI x :: st) Q) : Ev l g mm d bc bs Z I P pc (a0 :: a1 :: a2 :: a3 :: a4 :: a5 :: a6 :: a7 :: a8 :: vI x :: r) st Q :=
  Ev.step (fun h1 h2 => ok_c (ok_at (i := 9) h1 rfl) h2) (fun p e R s m args below meth c H locs cells slots lj Q0 hF hD kk => lv_iload hF.1 hF.2.1 hd (lv_rd hD.2.2.1 (i := 9) (v := vI x) rfl rfl) kk) k
theorem ev_iload_10 (pc : Nat) {a0 a1 a2 a3 a4 a5 a6 a7 a8 a9 : Vv} {x : Int} {r : List Vv} (hd : decode mm.2.1 pc = .ok (.iload 10, 2)) (k : Ev l g mm d bc bs Z I P (pc + 2) (a0 :: a1 :: a2 :: a3 :: a4 :: a5 :: a6 :: a7 :: a8 :: a9 :: vI x :: r) (vI x :: st) Q) : Ev l g mm d bc bs Z I P pc (a0 :: a1 :: a2 :: a3 :: a4 :: a5 :: a6 :: a7 :: a8 :: a9 :: vI x :: r) st Q :=
  Ev.step (fun h1 h2 => ok_c (ok_at (i := 10) h1 rfl) h2) (fun p e R s m args below meth c H locs cells slots lj Q0 hF hD kk => lv_iload hF.1 hF.2.1 hd (lv_rd hD.2.2.1 (i := 10) (v := vI x) rfl rfl) kk) k
theorem ev_iload_11 (pc : Nat) {a0 a1 a2 a3 a4 a5 a6 a7 a8 a9 a10 : Vv} {x : Int} {r : List Vv} (hd : decode mm.2.1 pc = .ok (.iload 11, 2)) (k : Ev l g mm d bc bs Z I P (pc + 2) (a0 :: a1 :: a2 :: a3 :: a4 :: a5 :: a6 :: a7 :: a8 :: a9 :: a10 :: vI x :: r) (vI x :: st) Q) : Ev l g mm d bc bs Z I P pc (a0 :: a1 :: a2 :: a3 :: a4 :: a5 :: a6 :: a7 :: a8 :: a9 :: a10 :: vI x :: r) st Q :=
  Ev.step (fun h1 h2 => ok_c (ok_at (i := 11) h1 rfl) h2) (fun p e R s m args below meth c H locs cells slots lj Q0 hF hD kk => lv_iload hF.1 hF.2.1 hd (lv_rd hD.2.2.1 (i := 11) (v := vI x) rfl rfl) kk) k
theorem ev_iload_12 (pc : Nat) {a0 a1 a2 a3 a4 a5 a6 a7 a8 a9 a10 a11 : Vv} {x : Int} {r : List Vv} (hd : decode mm.2.1 pc = .ok (.iload 12, 2)) (k : Ev l g mm d bc bs Z I P (pc + 2) (a0 :: a1 :: a2 :: a3 :: a4 :: a5 :: a6 :: a7 :: a8 :: a9 :: a10 :: a11 :: vI x :: r) (vI x :: st) Q) : Ev l g mm d bc bs Z I P pc (a0 :: a1 :: a2 :: a3 :: a4 :: a5 :: a6 :: a7 :: a8 :: a9 :: a10 :: a11 :: vI x :: r) st Q :=
  Ev.step (fun h1 h2 => ok_c (ok_at (i := 12) h1 rfl) h2) (fun p e R s m args below meth c H locs cells slots lj Q0 hF hD kk => lv_iload hF.1 hF.2.1 hd (lv_rd hD.2.2.1 (i := 12) (v := vI x) rfl rfl) kk) k
theorem ev_iload_13 (pc : Nat) {a0 a1 a2 a3 a4 a5 a6 a7 a8 a9 a10 a11 a12 : Vv} {x : Int} {r : List Vv} (hd : decode mm.2.1 pc = .ok (.iload 13, 2)) (k : Ev l g mm d bc bs Z I P (pc + 2) (a0 :: a1 :: a2 :: a3 :: a4 :: a5 :: a6 :: a7 :: a8 :: a9 :: a10 :: a11 :: a12 :: vI x :: r) (vI x :: st) Q) : Ev l g mm d bc bs Z I P pc (a0 :: a1 :: a2 :: a3 :: a4 :: a5 :: a6 :: a7 :: a8 :: a9 :: a10 :: a11 :: a12 :: vI x :: r) st Q :=
  Ev.step (fun h1 h2 => ok_c (ok_at (i := 13) h1 rfl) h2) (fun p e R s m args below meth c H locs cells slots lj Q0 hF hD kk => lv_iload hF.1 hF.2.1 hd (lv_rd hD.2.2.1 (i := 13) (v := vI x) rfl rfl) kk) k
theorem ev_iload_14 (pc : Nat) {a0 a1 a2 a3 a4 a5 a6 a7 a8 a9 a10 a11 a12 a13 : Vv} {x : Int} {r : List Vv} (hd : decode mm.2.1 pc = .ok (.iload 14, 2)) (k : Ev l g mm d bc bs Z I P (pc + 2) (a0 :: a1 :: a2 :: a3 :: a4 :: a5 :: a6 :: a7 :: a8 :: a9 :: a10 :: a11 :: a12 :: a13 :: vI x :: r) (vI x :: st) Q) : Ev l g mm d bc bs Z I P pc (a0 :: a1 :: a2 :: a3 :: a4 :: a5 :: a6 :: a7 :: a8 :: a9 :: a10 :: a11 :: a12 :: a13 :: vI x :: r) st Q :=
  Ev.step (fun h1 h2 => ok_c (ok_at (i := 14) h1 rfl) h2) (fun p e R s m args below meth c H locs cells slots lj Q0 hF hD kk => lv_iload hF.1 hF.2.1 hd (lv_rd hD.2.2.1 (i := 14) (v := vI x) rfl rfl) kk) k
theorem ev_lload_0 (pc : Nat) {x : Int} {r : List Vv} (hd : decode mm.2.1 pc = .ok (.lload_n 0, 1)) (k : Ev l g mm d bc bs Z I P (pc + 1) (vL x :: r) (vL x :: st) Q) : Ev l g mm d bc bs Z I P pc (vL x :: r) st Q :=
  Ev.step (fun h1 h2 => ok_c (ok_at (i := 0) h1 rfl) h2) (fun p e R s m args below meth c H locs cells slots lj Q0 hF hD kk => lv_lload_n hF.1 hF.2.1 hd rfl (lv_rd hD.2.2.1 (i := 0) (v := vL x) rfl rfl) kk) k
theorem ev_lload_1 (pc : Nat) {a0 : Vv} {x : Int} {r : List Vv} (hd : decode mm.2.1 pc = .ok (.lload_n 1, 1)) (k : Ev l g mm d bc bs Z I P (pc + 1) (a0 :: vL x :: r) (vL x :: st) Q) : Ev l g mm d bc bs Z I P pc (a0 :: vL x :: r) st Q :=
  Ev.step (fun h1 h2 => ok_c (ok_at (i := 1) h1 rfl) h2) (fun p e R s m args below meth c H locs cells slots lj Q0 hF hD kk => lv_lload_n hF.1 hF.2.1 hd rfl (lv_rd hD.2.2.1 (i := 1) (v := vL x) rfl rfl) kk) k
theorem ev_lload_2 (pc : Nat) {a0 a1 : Vv} {x : Int} {r : List Vv} (hd : decode mm.2.1 pc = .ok (.lload_n 2, 1)) (k : Ev l g mm d bc bs Z I P (pc + 1) (a0 :: a1 :: vL x :: r) (vL x :: st) Q) : Ev l g mm d bc bs Z I P pc (a0 :: a1 :: vL x :: r) st Q :=
  Ev.step (fun h1 h2 => ok_c (ok_at (i := 2) h1 rfl) h2) (fun p e R s m args below meth c H locs cells slots lj Q0 hF hD kk => lv_lload_n hF.1 hF.2.1 hd rfl (lv_rd hD.2.2.1 (i := 2) (v := vL x) rfl rfl) kk) k
theorem ev_lload_3 (pc : Nat) {a0 a1 a2 : Vv} {x : Int} {r : List Vv} (hd : decode mm.2.1 pc = .ok (.lload_n 3, 1)) (k : Ev l g mm d bc bs Z I P (pc + 1) (a0 :: a1 :: a2 :: vL x :: r) (vL x :: st) Q) : Ev l g mm d bc bs Z I P pc (a0 :: a1 :: a2 :: vL x :: r) st Q :=
  Ev.step (fun h1 h2 => ok_c (ok_at (i := 3) h1 rfl) h2) (fun p e R s m args below meth c H locs cells slots lj Q0 hF hD kk => lv_lload_n hF.1 hF.2.1 hd rfl (lv_rd hD.2.2.1 (i := 3) (v := vL x) rfl rfl) kk) k
theorem ev_lload_4 (pc : Nat) {a0 a1 a2 a3 : Vv} {x : Int} {r : List Vv} (hd : decode mm.2.1 pc = .ok (.lload 4, 2)) (k : Ev l g mm d bc bs Z I P (pc + 2) (a0 :: a1 :: a2 :: a3 :: vL x :: r) (vL x :: st) Q) : Ev l g mm d bc bs Z I P pc (a0 :: a1 :: a2 :: a3 :: vL x :: r) st Q :=
  Ev.step (fun h1 h2 => ok_c (ok_at (i := 4) h1 rfl) h2) (fun p e R s m args below meth c H locs cells slots lj Q0 hF hD kk => lv_lload hF.1 hF.2.1 hd (lv_rd hD.2.2.1 (i := 4) (v := vL x) rfl rfl) kk) k
theorem ev_lload_5 (pc : Nat) {a0 a1 a2 a3 a4 : Vv} {x : Int} {r : List Vv} (hd : decode mm.2.1 pc = .ok (.lload 5, 2)) (k : Ev l g mm d bc bs Z I P (pc + 2) (a0 :: a1 :: a2 :: a3 :: a4 :: vL x :: r) (vL x :: st) Q) : Ev l g mm d bc bs Z I P pc (a0 :: a1 :: a2 :: a3 :: a4 :: vL x :: r) st Q :=
  Ev.step (fun h1 h2 => ok_c (ok_at (i := 5) h1 rfl) h2) (fun p e R s m args below meth c H locs cells slots lj Q0 hF hD kk => lv_lload hF.1 hF.2.1 hd (lv_rd hD.2.2.1 (i := 5) (v := vL x) rfl rfl) kk) k
theorem ev_lload_6 (pc : Nat) {a0 a1 a2 a3 a4 a5 : Vv} {x : Int} {r : List Vv} (hd : decode mm.2.1 pc = .ok (.lload 6, 2)) (k : Ev l g mm d bc bs Z I P (pc + 2) (a0 :: a1 :: a2 :: a3 :: a4 :: a5 :: vL x :: r) (vL x :: st) Q) : Ev l g mm d bc bs Z I P pc (a0 :: a1 :: a2 :: a3 :: a4 :: a5 :: vL x :: r) st Q :=
  Ev.step (fun h1 h2 => ok_c (ok_at (i := 6) h1 rfl) h2) (fun p e R s m args below meth c H locs cells slots lj Q0 hF hD kk => lv_lload hF.1 hF.2.1 hd (lv_rd hD.2.2.1 (i := 6) (v := vL x) rfl rfl) kk) k
theorem ev_lload_7 (pc : Nat) {a0 a1 a2 a3 a4 a5 a6 : Vv} {x : Int} {r : List Vv} (hd : decode mm.2.1 pc = .ok (.lload 7, 2)) (k : Ev l g mm d bc bs Z I P (pc + 2) (a0 :: a1 :: a2 :: a3 :: a4 :: a5 :: a6 :: vL x :: r) (vL x :: st) Q) : Ev l g mm d bc bs Z I P pc (a0 :: a1 :: a2 :: a3 :: a4 :: a5 :: a6 :: vL x :: r) st Q :=
  Ev.step (fun h1 h2 => ok_c (ok_at (i := 7) h1 rfl) h2) (fun p e R s m args below meth c H locs cells slots lj Q0 hF hD kk => lv_lload hF.1 hF.2.1 hd (lv_rd hD.2.2.1 (i := 7) (v := vL x) rfl rfl) kk) k
theorem ev_lload_8 (pc : Nat) {a0 a1 a2 a3 a4 a5 a6 a7 : Vv} {x : Int} {r : List Vv} (hd : decode mm.2.1 pc = .ok (.lload 8, 2)) (k : Ev l g mm d bc bs Z I P (pc + 2) (a0 :: a1 :: a2 :: a3 :: a4 :: a5 :: a6 :: a7 :: vL x :: r) (vL x :: st) Q) : Ev l g mm d bc bs Z I P pc (a0 :: a1 :: a2 :: a3 :: a4 :: a5 :: a6 :: a7 :: vL x :: r) st Q :=
  Ev.step (fun h1 h2 => ok_c (ok_at (i := 8) h1 rfl) h2) (fun p e R s m args below meth c H locs cells slots lj Q0 hF hD kk => lv_lload hF.1 hF.2.1 hd (lv_rd hD.2.2.1 (i := 8) (v := vL x) rfl rfl) kk) k
theorem ev_lload_9 (pc : Nat) {a0 a1 a2 a3 a4 a5 a6 a7 a8 : Vv} {x : Int} {r : List Vv} (hd : decode mm.2.1 pc = .ok (.lload 9, 2)) (k : Ev l g mm d bc bs Z I P (pc + 2) (a0 :: a1 :: a2 :: a3 :: a4 :: a5 :: a6 :: a7 :: a8 :: vL x :: r) (vL x :: st) Q) : Ev l g mm d bc bs Z I P pc (a0 :: a1 :: a2 :: a3 :: a4 :: a5 :: a6 :: a7 :: a8 :: vL x :: r) st Q :=
  Ev.step (fun h1 h2 => ok_c (ok_at (i := 9) h1 rfl) h2) (fun p e R s m args below meth c H locs cells slots lj Q0 hF hD kk => lv_lload hF.1 hF.2.1 hd (lv_rd hD.2.2.1 (i := 9) (v := vL x) rfl rfl) kk) k
theorem ev_lload_10 (pc : Nat) {a0 a1 a2 a3 a4 a5 a6 a7 a8 a9 : Vv} {x : Int} {r : List Vv} (hd : decode mm.2.1 pc = .ok (.lload 10, 2)) (k : Ev l g mm d bc bs Z I P (pc + 2) (a0 :: a1 :: a2 :: a3 :: a4 :: a5 :: a6 :: a7 :: a8 :: a9 :: vL x :: r) (vL x :: st) Q) : Ev l g mm d bc bs Z I P pc (a0 :: a1 :: a2 :: a3 :: a4 :: a5 :: a6 :: a7 :: a8 :: a9 :: vL x :: r) st Q :=
  Ev.step (fun h1 h2 => ok_c (ok_at (i := 10) h1 rfl) h2) (fun p e R s m args below meth c H locs cells slots lj Q0 hF hD kk => lv_lload hF.1 hF.2.1 hd (lv_rd hD.2.2.1 (i := 10) (v := vL x) rfl rfl) kk) k
theorem ev_lload_11 (pc : Nat) {a0 a1 a2 a3 a4 a5 a6 a7 a8 a9 a10 : Vv} {x : Int} {r : List Vv} (hd : decode mm.2.1 pc = .ok (.lload 11, 2)) (k : Ev l g mm d bc bs Z I P (pc + 2) (a0 :: a1 :: a2 :: a3 :: a4 :: a5 :: a6 :: a7 :: a8 :: a9 :: a10 :: vL x :: r) (vL x :: st) Q) : Ev l g mm d bc bs Z I P pc (a0 :: a1 :: a2 :: a3 :: a4 :: a5 :: a6 :: a7 :: a8 :: a9 :: a10 :: vL x :: r) st Q :=
  Ev.step (fun h1 h2 => ok_c (ok_at (i := 11) h1 rfl) h2) (fun p e R s m args below meth c H locs cells slots lj Q0 hF hD kk => lv_lload hF.1 hF.2.1 hd (lv_rd hD.2.2.1 (i := 11) (v := vL x) rfl rfl) kk) k
theorem ev_lload_12 (pc : Nat) {a0 a1 a2 a3 a4 a5 a6 a7 a8 a9 a10 a11 : Vv} {x : Int} {r : List Vv} (hd : decode mm.2.1 pc = .ok (.lload 12, 2)) (k : Ev l g mm d bc bs Z I P (pc + 2) (a0 :: a1 :: a2 :: a3 :: a4 :: a5 :: a6 :: a7 :: a8 :: a9 :: a10 :: a11 :: vL x :: r) (vL x :: st) Q) : Ev l g mm d bc bs Z I P pc (a0 :: a1 :: a2 :: a3 :: a4 :: a5 :: a6 :: a7 :: a8 :: a9 :: a10 :: a11 :: vL x :: r) st Q :=
  Ev.step (fun h1 h2 => ok_c (ok_at (i := 12) h1 rfl) h2) (fun p e R s m args below meth c H locs cells slots lj Q0 hF hD kk => lv_lload hF.1 hF.2.1 hd (lv_rd hD.2.2.1 (i := 12) (v := vL x) rfl rfl) kk) k
theorem ev_lload_13 (pc : Nat) {a0 a1 a2 a3 a4 a5 a6 a7 a8 a9 a10 a11 a12 : Vv} {x : Int} {r : List Vv} (hd : decode mm.2.1 pc = .ok (.lload 13, 2)) (k : Ev l g mm d bc bs Z I P (pc + 2) (a0 :: a1 :: a2 :: a3 :: a4 :: a5 :: a6 :: a7 :: a8 :: a9 :: a10 :: a11 :: a12 :: vL x :: r) (vL x :: st) Q) : Ev l g mm d bc bs Z I P pc (a0 :: a1 :: a2 :: a3 :: a4 :: a5 :: a6 :: a7 :: a8 :: a9 :: a10 :: a11 :: a12 :: vL x :: r) st Q :=
  Ev.step (fun h1 h2 => ok_c (ok_at (i := 13) h1 rfl) h2) (fun p e R s m args below meth c H locs cells slots lj Q0 hF hD kk => lv_lload hF.1 hF.2.1 hd (lv_rd hD.2.2.1 (i := 13) (v := vL x) rfl rfl) kk) k
theorem ev_lload_14 (pc : Nat) {a0 a1 a2 a3 a4 a5 a6 a7 a8 a9 a10 a11 a12 a13 : Vv} {x : Int} {r : List Vv} (hd : decode mm.2.1 pc = .ok (.lload 14, 2)) (k : Ev l g mm d bc bs Z I P (pc + 2) (a0 :: a1 :: a2 :: a3 :: a4 :: a5 :: a6 :: a7 :: a8 :: a9 :: a10 :: a11 :: a12 :: a13 :: vL x :: r) (vL x :: st) Q) : Ev l g mm d bc bs Z I P pc (a0 :: a1 :: a2 :: a3 :: a4 :: a5 :: a6 :: a7 :: a8 :: a9 :: a10 :: a11 :: a12 :: a13 :: vL x :: r) st Q :=
  Ev.step (fun h1 h2 => ok_c (ok_at (i := 14) h1 rfl) h2) (fun p e R s m args below meth c H locs cells slots lj Q0 hF hD kk => lv_lload hF.1 hF.2.1 hd (lv_rd hD.2.2.1 (i := 14) (v := vL x) rfl rfl) kk) k
theorem ev_aload_0 (pc : Nat) {x : Nat} {r : List Vv} (hd : decode mm.2.1 pc = .ok (.aload_n 0, 1)) (k : Ev l g mm d bc bs Z I P (pc + 1) (vA x :: r) (vA x :: st) Q) : Ev l g mm d bc bs Z I P pc (vA x :: r) st Q :=
  Ev.step (fun h1 h2 => ok_c (ok_at (i := 0) h1 rfl) h2) (fun p e R s m args below meth c H locs cells slots lj Q0 hF hD kk => lv_aload_n hF.1 hF.2.1 hd rfl (lv_rd hD.2.2.1 (i := 0) (v := vA x) rfl rfl) kk) k
theorem ev_aload_1 (pc : Nat) {a0 : Vv} {x : Nat} {r : List Vv} (hd : decode mm.2.1 pc = .ok (.aload_n 1, 1)) (k : Ev l g mm d bc bs Z I P (pc + 1) (a0 :: vA x :: r) (vA x :: st) Q) : Ev l g mm d bc bs Z I P pc (a0 :: vA x :: r) st Q :=
  Ev.step (fun h1 h2 => ok_c (ok_at (i := 1) h1 rfl) h2) (fun p e R s m args below meth c H locs cells slots lj Q0 hF hD kk => lv_aload_n hF.1 hF.2.1 hd rfl (lv_rd hD.2.2.1 (i := 1) (v := vA x) rfl rfl) kk) k
theorem ev_aload_2 (pc : Nat) {a0 a1 : Vv} {x : Nat} {r : List Vv} (hd : decode mm.2.1 pc = .ok (.aload_n 2, 1)) (k : Ev l g mm d bc bs Z I P (pc + 1) (a0 :: a1 :: vA x :: r) (vA x :: st) Q) : Ev l g mm d bc bs Z I P pc (a0 :: a1 :: vA x :: r) st Q :=
  Ev.step (fun h1 h2 => ok_c (ok_at (i := 2) h1 rfl) h2) (fun p e R s m args below meth c H locs cells slots lj Q0 hF hD kk => lv_aload_n hF.1 hF.2.1 hd rfl (lv_rd hD.2.2.1 (i := 2) (v := vA x) rfl rfl) kk) k
theorem ev_aload_3 (pc : Nat) {a0 a1 a2 : Vv} {x : Nat} {r : List Vv} (hd : decode mm.2.1 pc = .ok (.aload_n 3, 1)) (k : Ev l g mm d bc bs Z I P (pc + 1) (a0 :: a1 :: a2 :: vA x :: r) (vA x :: st) Q) : Ev l g mm d bc bs Z I P pc (a0 :: a1 :: a2 :: vA x :: r) st Q :=
  Ev.step (fun h1 h2 => ok_c (ok_at (i := 3) h1 rfl) h2) (fun p e R s m args below meth c H locs cells slots lj Q0 hF hD kk => lv_aload_n hF.1 hF.2.1 hd rfl (lv_rd hD.2.2.1 (i := 3) (v := vA x) rfl rfl) kk) k
theorem ev_aload_4 (pc : Nat) {a0 a1 a2 a3 : Vv} {x : Nat} {r : List Vv} (hd : decode mm.2.1 pc = .ok (.aload 4, 2)) (k : Ev l g mm d bc bs Z I P (pc + 2) (a0 :: a1 :: a2 :: a3 :: vA x :: r) (vA x :: st) Q) : Ev l g mm d bc bs Z I P pc (a0 :: a1 :: a2 :: a3 :: vA x :: r) st Q :=
  Ev.step (fun h1 h2 => ok_c (ok_at (i := 4) h1 rfl) h2) (fun p e R s m args below meth c H locs cells slots lj Q0 hF hD kk => lv_aload hF.1 hF.2.1 hd (lv_rd hD.2.2.1 (i := 4) (v := vA x) rfl rfl) kk) k
theorem ev_aload_5 (pc : Nat) {a0 a1 a2 a3 a4 : Vv} {x : Nat} {r : List Vv} (hd : decode mm.2.1 pc = .ok (.aload 5, 2)) (k : Ev l g mm d bc bs Z I P (pc + 2) (a0 :: a1 :: a2 :: a3 :: a4 :: vA x :: r) (vA x :: st) Q) : Ev l g mm d bc bs Z I P pc (a0 :: a1 :: a2 :: a3 :: a4 :: vA x :: r) st Q :=
  Ev.step (fun h1 h2 => ok_c (ok_at (i := 5) h1 rfl) h2) (fun p e R s m args below meth c H locs cells slots lj Q0 hF hD kk => lv_aload hF.1 hF.2.1 hd (lv_rd hD.2.2.1 (i := 5) (v := vA x) rfl rfl) kk) k
theorem ev_aload_6 (pc : Nat) {a0 a1 a2 a3 a4 a5 : Vv} {x : Nat} {r : List Vv} (hd : decode mm.2.1 pc = .ok (.aload 6, 2)) (k : Ev l g mm d bc bs Z I P (pc + 2) (a0 :: a1 :: a2 :: a3 :: a4 :: a5 :: vA x :: r) (vA x :: st) Q) : Ev l g mm d bc bs Z I P pc (a0 :: a1 :: a2 :: a3 :: a4 :: a5 :: vA x :: r) st Q :=
  Ev.step (fun h1 h2 => ok_c (ok_at (i := 6) h1 rfl) h2) (fun p e R s m args below meth c H locs cells slots lj Q0 hF hD kk => lv_aload hF.1 hF.2.1 hd (lv_rd hD.2.2.1 (i := 6) (v := vA x) rfl rfl) kk) k
theorem ev_aload_7 (pc : Nat) {a0 a1 a2 a3 a4 a5 a6 : Vv} {x : Nat} {r : List Vv} (hd : decode mm.2.1 pc = .ok (.aload 7, 2)) (k : Ev l g mm d bc bs Z I P (pc + 2) (a0 :: a1 :: a2 :: a3 :: a4 :: a5 :: a6 :: vA x :: r) (vA x :: st) Q) : Ev l g mm d bc bs Z I P pc (a0 :: a1 :: a2 :: a3 :: a4 :: a5 :: a6 :: vA x :: r) st Q :=
  Ev.step (fun h1 h2 => ok_c (ok_at (i := 7) h1 rfl) h2) (fun p e R s m args below meth c H locs cells slots lj Q0 hF hD kk => lv_aload hF.1 hF.2.1 hd (lv_rd hD.2.2.1 (i := 7) (v := vA x) rfl rfl) kk) k
theorem ev_aload_8 (pc : Nat) {a0 a1 a2 a3 a4 a5 a6 a7 : Vv} {x : Nat} {r : List Vv} (hd : decode mm.2.1 pc = .ok (.aload 8, 2)) (k : Ev l g mm d bc bs Z I P (pc + 2) (a0 :: a1 :: a2 :: a3 :: a4 :: a5 :: a6 :: a7 :: vA x :: r) (vA x :: st) Q) : Ev l g mm d bc bs Z I P pc (a0 :: a1 :: a2 :: a3 :: a4 :: a5 :: a6 :: a7 :: vA x :: r) st Q :=
  Ev.step (fun h1 h2 => ok_c (ok_at (i := 8) h1 rfl) h2) (fun p e R s m args below meth c H locs cells slots lj Q0 hF hD kk => lv_aload hF.1 hF.2.1 hd (lv_rd hD.2.2.1 (i := 8) (v := vA x) rfl rfl) kk) k
theorem ev_aload_9 (pc : Nat) {a0 a1 a2 a3 a4 a5 a6 a7 a8 : Vv} {x : Nat} {r : List Vv} (hd : decode mm.2.1 pc = .ok (.aload 9, 2)) (k : Ev l g mm d bc bs Z I P (pc + 2) (a0 :: a1 :: a2 :: a3 :: a4 :: a5 :: a6 :: a7 :: a8 :: vA x :: r) (vA x :: st) Q) : Ev l g mm d bc bs Z I P pc (a0 :: a1 :: a2 :: a3 :: a4 :: a5 :: a6 :: a7 :: a8 :: vA x :: r) st Q :=
  Ev.step (fun h1 h2 => ok_c (ok_at (i := 9) h1 rfl) h2) (fun p e R s m args below meth c H locs cells slots lj Q0 hF hD kk => lv_aload hF.1 hF.2.1 hd (lv_rd hD.2.2.1 (i := 9) (v := vA x) rfl rfl) kk) k
theorem ev_aload_10 (pc : Nat) {a0 a1 a2 a3 a4 a5 a6 a7 a8 a9 : Vv} {x : Nat} {r : List Vv} (hd : decode mm.2.1 pc = .ok (.aload 10, 2)) (k : Ev l g mm d bc bs Z I P (pc + 2) (a0 :: a1 :: a2 :: a3 :: a4 :: a5 :: a6 :: a7 :: a8 :: a9 :: vA x :: r) (vA x :: st) Q) : Ev l g mm d bc bs Z I P pc (a0 :: a1 :: a2 :: a3 :: a4 :: a5 :: a6 :: a7 :: a8 :: a9 :: vA x :: r) st Q :=
  Ev.step (fun h1 h2 => ok_c (ok_at (i := 10) h1 rfl) h2) (fun p e R s m args below meth c H locs cells slots lj Q0 hF hD kk => lv_aload hF.1 hF.2.1 hd (lv_rd hD.2.2.1 (i := 10) (v := vA x) rfl rfl) kk) k
theorem ev_aload_11 (pc : Nat) {a0 a1 a2 a3 a4 a5 a6 a7 a8 a9 a10 : Vv} {x : Nat} {r : List Vv} (hd : decode mm.2.1 pc = .ok (.aload 11, 2)) (k : Ev l g mm d bc bs Z I P (pc + 2) (a0 :: a1 :: a2 :: a3 :: a4 :: a5 :: a6 :: a7 :: a8 :: a9 :: a10 :: vA x :: r) (vA x :: st) Q) : Ev l g mm d bc bs Z I P pc (a0 :: a1 :: a2 :: a3 :: a4 :: a5 :: a6 :: a7 :: a8 :: a9 :: a10 :: vA x :: r) st Q :=
  Ev.step (fun h1 h2 => ok_c (ok_at (i := 11) h1 rfl) h2) (fun p e R s m args below meth c H locs cells slots lj Q0 hF hD kk => lv_aload hF.1 hF.2.1 hd (lv_rd hD.2.2.1 (i := 11) (v := vA x) rfl rfl) kk) k
theorem ev_aload_12 (pc : Nat) {a0 a1 a2 a3 a4 a5 a6 a7 a8 a9 a10 a11 : Vv} {x : Nat} {r : List Vv} (hd : decode mm.2.1 pc = .ok (.aload 12, 2)) (k : Ev l g mm d bc bs Z I P (pc + 2) (a0 :: a1 :: a2 :: a3 :: a4 :: a5 :: a6 :: a7 :: a8 :: a9 :: a10 :: a11 :: vA x :: r) (vA x :: st) Q) : Ev l g mm d bc bs Z I P pc (a0 :: a1 :: a2 :: a3 :: a4 :: a5 :: a6 :: a7 :: a8 :: a9 :: a10 :: a11 :: vA x :: r) st Q :=
  Ev.step (fun h1 h2 => ok_c (ok_at (i := 12) h1 rfl) h2) (fun p e R s m args below meth c H locs cells slots lj Q0 hF hD kk => lv_aload hF.1 hF.2.1 hd (lv_rd hD.2.2.1 (i := 12) (v := vA x) rfl rfl) kk) k
theorem ev_aload_13 (pc : Nat) {a0 a1 a2 a3 a4 a5 a6 a7 a8 a9 a10 a11 a12 : Vv} {x : Nat} {r : List Vv} (hd : decode mm.2.1 pc = .ok (.aload 13, 2)) (k : Ev l g mm d bc bs Z I P (pc + 2) (a0 :: a1 :: a2 :: a3 :: a4 :: a5 :: a6 :: a7 :: a8 :: a9 :: a10 :: a11 :: a12 :: vA x :: r) (vA x :: st) Q) : Ev l g mm d bc bs Z I P pc (a0 :: a1 :: a2 :: a3 :: a4 :: a5 :: a6 :: a7 :: a8 :: a9 :: a10 :: a11 :: a12 :: vA x :: r) st Q :=
  Ev.step (fun h1 h2 => ok_c (ok_at (i := 13) h1 rfl) h2) (fun p e R s m args below meth c H locs cells slots lj Q0 hF hD kk => lv_aload hF.1 hF.2.1 hd (lv_rd hD.2.2.1 (i := 13) (v := vA x) rfl rfl) kk) k
theorem ev_aload_14 (pc : Nat) {a0 a1 a2 a3 a4 a5 a6 a7 a8 a9 a10 a11 a12 a13 : Vv} {x : Nat} {r : List Vv} (hd : decode mm.2.1 pc = .ok (.aload 14, 2)) (k : Ev l g mm d bc bs Z I P (pc + 2) (a0 :: a1 :: a2 :: a3 :: a4 :: a5 :: a6 :: a7 :: a8 :: a9 :: a10 :: a11 :: a12 :: a13 :: vA x :: r) (vA x :: st) Q) : Ev l g mm d bc bs Z I P pc (a0 :: a1 :: a2 :: a3 :: a4 :: a5 :: a6 :: a7 :: a8 :: a9 :: a10 :: a11 :: a12 :: a13 :: vA x :: r) st Q :=
  Ev.step (fun h1 h2 => ok_c (ok_at (i := 14) h1 rfl) h2) (fun p e R s m args below meth c H locs cells slots lj Q0 hF hD kk => lv_aload hF.1 hF.2.1 hd (lv_rd hD.2.2.1 (i := 14) (v := vA x) rfl rfl) kk) k
theorem ev_istore_0 (pc : Nat) { b : Vv} {x : Int} {r : List Vv} (hd : decode mm.2.1 pc = .ok (.istore_n 0, 1)) (hn : pvLg (b :: r) 0 = false := by rfl) (hk : Nat.ble (0 + 1) mm.2.2.1 = true := by rfl) (k : Ev l g mm d bc bs Z I P (pc + 1) (vI x :: r) st Q) : Ev l g mm d bc bs Z I P pc (b :: r) (vI x :: st) Q :=
  Ev.stl (ls' := List.set (b :: r) 0 (vI x)) (fun h1 h2 => ⟨ok_set h1 (ok_h h2), ok_t h2⟩) (fun p e R s m args below meth c H locs cells slots lj Q0 hF hl kk => lv_istore_n hF.1 hF.2.1 hd rfl hl (Nat.le_of_ble_eq_true hk) rfl (fun lj' hl' => kk lj' (lv_st1 (v := vI x) hn hl'))) k
theorem ev_astore_0 (pc : Nat) { b : Vv} {x : Nat} {r : List Vv} (hd : decode mm.2.1 pc = .ok (.astore_n 0, 1)) (hn : pvLg (b :: r) 0 = false := by rfl) (hk : Nat.ble (0 + 1) mm.2.2.1 = true := by rfl) (k : Ev l g mm d bc bs Z I P (pc + 1) (vA x :: r) st Q) : Ev l g mm d bc bs Z I P pc (b :: r) (vA x :: st) Q :=
  Ev.stl (ls' := List.set (b :: r) 0 (vA x)) (fun h1 h2 => ⟨ok_set h1 (ok_h h2), ok_t h2⟩) (fun p e R s m args below meth c H locs cells slots lj Q0 hF hl kk => lv_astore_n hF.1 hF.2.1 hd rfl hl (Nat.le_of_ble_eq_true hk) rfl (fun lj' hl' => kk lj' (lv_st1 (v := vA x) hn hl'))) k
theorem ev_lstore_0 (pc : Nat) { b c : Vv} {x : Int} {r : List Vv} (hd : decode mm.2.1 pc = .ok (.lstore_n 0, 1)) (hn : pvLg (b :: c :: r) 0 = false := by rfl) (hk : Nat.ble (0 + 2) mm.2.2.1 = true := by rfl) (k : Ev l g mm d bc bs Z I P (pc + 1) (vL x :: vX :: r) st Q) : Ev l g mm d bc bs Z I P pc (b :: c :: r) (vL x :: st) Q :=
  Ev.stl (ls' := List.set (List.set (b :: c :: r) 0 (vL x)) (0 + 1) vX) (fun h1 h2 => ⟨ok_set (ok_set h1 (ok_h h2)) trivial, ok_t h2⟩) (fun p e R s m args below meth c H locs cells slots lj Q0 hF hl kk => lv_lstore_n hF.1 hF.2.1 hd rfl hl (Nat.le_of_ble_eq_true hk) rfl (fun lj' hl' => kk lj' (lv_st2 (v := vL x) hn hl'))) k
theorem ev_iinc_0 (pc : Nat) {x n : Int} {r : List Vv} (hd : decode mm.2.1 pc = .ok (.iinc 0 n, 3)) (hr : InR (x + n)) (hn : pvLg (vI x :: r) 0 = false := by rfl) (hk : Nat.ble (0 + 1) mm.2.2.1 = true := by rfl) (k : Ev l g mm d bc bs Z I P (pc + 3) (vI (x + n) :: r) st Q) : Ev l g mm d bc bs Z I P pc (vI x :: r) st Q :=
  Ev.stl (ls' := List.set (vI x :: r) 0 (vI (x + n))) (fun h1 h2 => ⟨ok_set h1 hr, h2⟩) (fun p e R s m args below meth c H locs cells slots lj Q0 hF hl kk => by
    obtain ⟨k0, hk0⟩ := List.getElem?_of_mem (show (0, toV g (vI x)) ∈ lvFrom g 0 (vI x :: r) from by simpa using lvFrom_mem g (vI x :: r) 0 0 (vI x) rfl rfl)
    exact lv_iinc (v := Int32.ofInt (x + n)) hF.1 hF.2.1 hd hl (show _ = some (0, Value.int (Int32.ofInt x)) from hk0) (Int32.ofInt_add x n).symm (Nat.le_of_ble_eq_true hk) rfl (fun lj' hl' => kk lj' (lv_st1 (v := vI (x + n)) hn hl'))) k
theorem ev_istore_1 (pc : Nat) {a0 b : Vv} {x : Int} {r : List Vv} (hd : decode mm.2.1 pc = .ok (.istore_n 1, 1)) (hn : pvLg (a0 :: b :: r) 1 = false := by rfl) (hk : Nat.ble (1 + 1) mm.2.2.1 = true := by rfl) (k : Ev l g mm d bc bs Z I P (pc + 1) (a0 :: vI x :: r) st Q) : Ev l g mm d bc bs Z I P pc (a0 :: b :: r) (vI x :: st) Q :=
  Ev.stl (ls' := List.set (a0 :: b :: r) 1 (vI x)) (fun h1 h2 => ⟨ok_set h1 (ok_h h2), ok_t h2⟩) (fun p e R s m args below meth c H locs cells slots lj Q0 hF hl kk => lv_istore_n hF.1 hF.2.1 hd rfl hl (Nat.le_of_ble_eq_true hk) rfl (fun lj' hl' => kk lj' (lv_st1 (v := vI x) hn hl'))) k
theorem ev_astore_1 (pc : Nat) {a0 b : Vv} {x : Nat} {r : List Vv} (hd : decode mm.2.1 pc = .ok (.astore_n 1, 1)) (hn : pvLg (a0 :: b :: r) 1 = false := by rfl) (hk : Nat.ble (1 + 1) mm.2.2.1 = true := by rfl) (k : Ev l g mm d bc bs Z I P (pc + 1) (a0 :: vA x :: r) st Q) : Ev l g mm d bc bs Z I P pc (a0 :: b :: r) (vA x :: st) Q :=
  Ev.stl (ls' := List.set (a0 :: b :: r) 1 (vA x)) (fun h1 h2 => ⟨ok_set h1 (ok_h h2), ok_t h2⟩) (fun p e R s m args below meth c H locs cells slots lj Q0 hF hl kk => lv_astore_n hF.1 hF.2.1 hd rfl hl (Nat.le_of_ble_eq_true hk) rfl (fun lj' hl' => kk lj' (lv_st1 (v := vA x) hn hl'))) k
theorem ev_lstore_1 (pc : Nat) {a0 b c : Vv} {x : Int} {r : List Vv} (hd : decode mm.2.1 pc = .ok (.lstore_n 1, 1)) (hn : pvLg (a0 :: b :: c :: r) 1 = false := by rfl) (hk : Nat.ble (1 + 2) mm.2.2.1 = true := by rfl) (k : Ev l g mm d bc bs Z I P (pc + 1) (a0 :: vL x :: vX :: r) st Q) : Ev l g mm d bc bs Z I P pc (a0 :: b :: c :: r) (vL x :: st) Q :=
  Ev.stl (ls' := List.set (List.set (a0 :: b :: c :: r) 1 (vL x)) (1 + 1) vX) (fun h1 h2 => ⟨ok_set (ok_set h1 (ok_h h2)) trivial, ok_t h2⟩) (fun p e R s m args below meth c H locs cells slots lj Q0 hF hl kk => lv_lstore_n hF.1 hF.2.1 hd rfl hl (Nat.le_of_ble_eq_true hk) rfl (fun lj' hl' => kk lj' (lv_st2 (v := vL x) hn hl'))) k
theorem ev_iinc_1 (pc : Nat) {a0 : Vv} {x n : Int} {r : List Vv} (hd : decode mm.2.1 pc = .ok (.iinc 1 n, 3)) (hr : InR (x + n)) (hn : pvLg (a0 :: vI x :: r) 1 = false := by rfl) (hk : Nat.ble (1 + 1) mm.2.2.1 = true := by rfl) (k : Ev l g mm d bc bs Z I P (pc + 3) (a0 :: vI (x + n) :: r) st Q) : Ev l g mm d bc bs Z I P pc (a0 :: vI x :: r) st Q :=
  Ev.stl (ls' := List.set (a0 :: vI x :: r) 1 (vI (x + n))) (fun h1 h2 => ⟨ok_set h1 hr, h2⟩) (fun p e R s m args below meth c H locs cells slots lj Q0 hF hl kk => by
    obtain ⟨k0, hk0⟩ := List.getElem?_of_mem (show (1, toV g (vI x)) ∈ lvFrom g 0 (a0 :: vI x :: r) from by simpa using lvFrom_mem g (a0 :: vI x :: r) 0 1 (vI x) rfl rfl)
    exact lv_iinc (v := Int32.ofInt (x + n)) hF.1 hF.2.1 hd hl (show _ = some (1, Value.int (Int32.ofInt x)) from hk0) (Int32.ofInt_add x n).symm (Nat.le_of_ble_eq_true hk) rfl (fun lj' hl' => kk lj' (lv_st1 (v := vI (x + n)) hn hl'))) k
theorem ev_istore_2 (pc : Nat) {a0 a1 b : Vv} {x : Int} {r : List Vv} (hd : decode mm.2.1 pc = .ok (.istore_n 2, 1)) (hn : pvLg (a0 :: a1 :: b :: r) 2 = false := by rfl) (hk : Nat.ble (2 + 1) mm.2.2.1 = true := by rfl) (k : Ev l g mm d bc bs Z I P (pc + 1) (a0 :: a1 :: vI x :: r) st Q) : Ev l g mm d bc bs Z I P pc (a0 :: a1 :: b :: r) (vI x :: st) Q :=
  Ev.stl (ls' := List.set (a0 :: a1 :: b :: r) 2 (vI x)) (fun h1 h2 => ⟨ok_set h1 (ok_h h2), ok_t h2⟩) (fun p e R s m args below meth c H locs cells slots lj Q0 hF hl kk => lv_istore_n hF.1 hF.2.1 hd rfl hl (Nat.le_of_ble_eq_true hk) rfl (fun lj' hl' => kk lj' (lv_st1 (v := vI x) hn hl'))) k
theorem ev_astore_2 (pc : Nat) {a0 a1 b : Vv} {x : Nat} {r : List Vv} (hd : decode mm.2.1 pc = .ok (.astore_n 2, 1)) (hn : pvLg (a0 :: a1 :: b :: r) 2 = false := by rfl) (hk : Nat.ble (2 + 1) mm.2.2.1 = true := by rfl) (k : Ev l g mm d bc bs Z I P (pc + 1) (a0 :: a1 :: vA x :: r) st Q) : Ev l g mm d bc bs Z I P pc (a0 :: a1 :: b :: r) (vA x :: st) Q :=
  Ev.stl (ls' := List.set (a0 :: a1 :: b :: r) 2 (vA x)) (fun h1 h2 => ⟨ok_set h1 (ok_h h2), ok_t h2⟩) (fun p e R s m args below meth c H locs cells slots lj Q0 hF hl kk => lv_astore_n hF.1 hF.2.1 hd rfl hl (Nat.le_of_ble_eq_true hk) rfl (fun lj' hl' => kk lj' (lv_st1 (v := vA x) hn hl'))) k
theorem ev_lstore_2 (pc : Nat) {a0 a1 b c : Vv} {x : Int} {r : List Vv} (hd : decode mm.2.1 pc = .ok (.lstore_n 2, 1)) (hn : pvLg (a0 :: a1 :: b :: c :: r) 2 = false := by rfl) (hk : Nat.ble (2 + 2) mm.2.2.1 = true := by rfl) (k : Ev l g mm d bc bs Z I P (pc + 1) (a0 :: a1 :: vL x :: vX :: r) st Q) : Ev l g mm d bc bs Z I P pc (a0 :: a1 :: b :: c :: r) (vL x :: st) Q :=
  Ev.stl (ls' := List.set (List.set (a0 :: a1 :: b :: c :: r) 2 (vL x)) (2 + 1) vX) (fun h1 h2 => ⟨ok_set (ok_set h1 (ok_h h2)) trivial, ok_t h2⟩) (fun p e R s m args below meth c H locs cells slots lj Q0 hF hl kk => lv_lstore_n hF.1 hF.2.1 hd rfl hl (Nat.le_of_ble_eq_true hk) rfl (fun lj' hl' => kk lj' (lv_st2 (v := vL x) hn hl'))) k
theorem ev_iinc_2 (pc : Nat) {a0 a1 : Vv} {x n : Int} {r : List Vv} (hd : decode mm.2.1 pc = .ok (.iinc 2 n, 3)) (hr : InR (x + n)) (hn : pvLg (a0 :: a1 :: vI x :: r) 2 = false := by rfl) (hk : Nat.ble (2 + 1) mm.2.2.1 = true := by rfl) (k : Ev l g mm d bc bs Z I P (pc + 3) (a0 :: a1 :: vI (x + n) :: r) st Q) : Ev l g mm d bc bs Z I P pc (a0 :: a1 :: vI x :: r) st Q :=
  Ev.stl (ls' := List.set (a0 :: a1 :: vI x :: r) 2 (vI (x + n))) (fun h1 h2 => ⟨ok_set h1 hr, h2⟩) (fun p e R s m args below meth c H locs cells slots lj Q0 hF hl kk => by
    obtain ⟨k0, hk0⟩ := List.getElem?_of_mem (show (2, toV g (vI x)) ∈ lvFrom g 0 (a0 :: a1 :: vI x :: r) from by simpa using lvFrom_mem g (a0 :: a1 :: vI x :: r) 0 2 (vI x) rfl rfl)
    exact lv_iinc (v := Int32.ofInt (x + n)) hF.1 hF.2.1 hd hl (show _ = some (2, Value.int (Int32.ofInt x)) from hk0) (Int32.ofInt_add x n).symm (Nat.le_of_ble_eq_true hk) rfl (fun lj' hl' => kk lj' (lv_st1 (v := vI (x + n)) hn hl'))) k
theorem ev_istore_3 (pc : Nat) {a0 a1 a2 b : Vv} {x : Int} {r : List Vv} (hd : decode mm.2.1 pc = .ok (.istore_n 3, 1)) (hn : pvLg (a0 :: a1 :: a2 :: b :: r) 3 = false := by rfl) (hk : Nat.ble (3 + 1) mm.2.2.1 = true := by rfl) (k : Ev l g mm d bc bs Z I P (pc + 1) (a0 :: a1 :: a2 :: vI x :: r) st Q) : Ev l g mm d bc bs Z I P pc (a0 :: a1 :: a2 :: b :: r) (vI x :: st) Q :=
  Ev.stl (ls' := List.set (a0 :: a1 :: a2 :: b :: r) 3 (vI x)) (fun h1 h2 => ⟨ok_set h1 (ok_h h2), ok_t h2⟩) (fun p e R s m args below meth c H locs cells slots lj Q0 hF hl kk => lv_istore_n hF.1 hF.2.1 hd rfl hl (Nat.le_of_ble_eq_true hk) rfl (fun lj' hl' => kk lj' (lv_st1 (v := vI x) hn hl'))) k
theorem ev_astore_3 (pc : Nat) {a0 a1 a2 b : Vv} {x : Nat} {r : List Vv} (hd : decode mm.2.1 pc = .ok (.astore_n 3, 1)) (hn : pvLg (a0 :: a1 :: a2 :: b :: r) 3 = false := by rfl) (hk : Nat.ble (3 + 1) mm.2.2.1 = true := by rfl) (k : Ev l g mm d bc bs Z I P (pc + 1) (a0 :: a1 :: a2 :: vA x :: r) st Q) : Ev l g mm d bc bs Z I P pc (a0 :: a1 :: a2 :: b :: r) (vA x :: st) Q :=
  Ev.stl (ls' := List.set (a0 :: a1 :: a2 :: b :: r) 3 (vA x)) (fun h1 h2 => ⟨ok_set h1 (ok_h h2), ok_t h2⟩) (fun p e R s m args below meth c H locs cells slots lj Q0 hF hl kk => lv_astore_n hF.1 hF.2.1 hd rfl hl (Nat.le_of_ble_eq_true hk) rfl (fun lj' hl' => kk lj' (lv_st1 (v := vA x) hn hl'))) k
theorem ev_lstore_3 (pc : Nat) {a0 a1 a2 b c : Vv} {x : Int} {r : List Vv} (hd : decode mm.2.1 pc = .ok (.lstore_n 3, 1)) (hn : pvLg (a0 :: a1 :: a2 :: b :: c :: r) 3 = false := by rfl) (hk : Nat.ble (3 + 2) mm.2.2.1 = true := by rfl) (k : Ev l g mm d bc bs Z I P (pc + 1) (a0 :: a1 :: a2 :: vL x :: vX :: r) st Q) : Ev l g mm d bc bs Z I P pc (a0 :: a1 :: a2 :: b :: c :: r) (vL x :: st) Q :=
  Ev.stl (ls' := List.set (List.set (a0 :: a1 :: a2 :: b :: c :: r) 3 (vL x)) (3 + 1) vX) (fun h1 h2 => ⟨ok_set (ok_set h1 (ok_h h2)) trivial, ok_t h2⟩) (fun p e R s m args below meth c H locs cells slots lj Q0 hF hl kk => lv_lstore_n hF.1 hF.2.1 hd rfl hl (Nat.le_of_ble_eq_true hk) rfl (fun lj' hl' => kk lj' (lv_st2 (v := vL x) hn hl'))) k
theorem ev_iinc_3 (pc : Nat) {a0 a1 a2 : Vv} {x n : Int} {r : List Vv} (hd : decode mm.2.1 pc = .ok (.iinc 3 n, 3)) (hr : InR (x + n)) (hn : pvLg (a0 :: a1 :: a2 :: vI x :: r) 3 = false := by rfl) (hk : Nat.ble (3 + 1) mm.2.2.1 = true := by rfl) (k : Ev l g mm d bc bs Z I P (pc + 3) (a0 :: a1 :: a2 :: vI (x + n) :: r) st Q) : Ev l g mm d bc bs Z I P pc (a0 :: a1 :: a2 :: vI x :: r) st Q :=
  Ev.stl (ls' := List.set (a0 :: a1 :: a2 :: vI x :: r) 3 (vI (x + n))) (fun h1 h2 => ⟨ok_set h1 hr, h2⟩) (fun p e R s m args below meth c H locs cells slots lj Q0 hF hl kk => by
    obtain ⟨k0, hk0⟩ := List.getElem?_of_mem (show (3, toV g (vI x)) ∈ lvFrom g 0 (a0 :: a1 :: a2 :: vI x :: r) from by simpa using lvFrom_mem g (a0 :: a1 :: a2 :: vI x :: r) 0 3 (vI x) rfl rfl)
    exact lv_iinc (v := Int32.ofInt (x + n)) hF.1 hF.2.1 hd hl (show _ = some (3, Value.int (Int32.ofInt x)) from hk0) (Int32.ofInt_add x n).symm (Nat.le_of_ble_eq_true hk) rfl (fun lj' hl' => kk lj' (lv_st1 (v := vI (x + n)) hn hl'))) k
theorem ev_istore_4 (pc : Nat) {a0 a1 a2 a3 b : Vv} {x : Int} {r : List Vv} (hd : decode mm.2.1 pc = .ok (.istore 4, 2)) (hn : pvLg (a0 :: a1 :: a2 :: a3 :: b :: r) 4 = false := by rfl) (hk : Nat.ble (4 + 1) mm.2.2.1 = true := by rfl) (k : Ev l g mm d bc bs Z I P (pc + 2) (a0 :: a1 :: a2 :: a3 :: vI x :: r) st Q) : Ev l g mm d bc bs Z I P pc (a0 :: a1 :: a2 :: a3 :: b :: r) (vI x :: st) Q :=
  Ev.stl (ls' := List.set (a0 :: a1 :: a2 :: a3 :: b :: r) 4 (vI x)) (fun h1 h2 => ⟨ok_set h1 (ok_h h2), ok_t h2⟩) (fun p e R s m args below meth c H locs cells slots lj Q0 hF hl kk => lv_istore hF.1 hF.2.1 hd hl (Nat.le_of_ble_eq_true hk) rfl (fun lj' hl' => kk lj' (lv_st1 (v := vI x) hn hl'))) k
theorem ev_astore_4 (pc : Nat) {a0 a1 a2 a3 b : Vv} {x : Nat} {r : List Vv} (hd : decode mm.2.1 pc = .ok (.astore 4, 2)) (hn : pvLg (a0 :: a1 :: a2 :: a3 :: b :: r) 4 = false := by rfl) (hk : Nat.ble (4 + 1) mm.2.2.1 = true := by rfl) (k : Ev l g mm d bc bs Z I P (pc + 2) (a0 :: a1 :: a2 :: a3 :: vA x :: r) st Q) : Ev l g mm d bc bs Z I P pc (a0 :: a1 :: a2 :: a3 :: b :: r) (vA x :: st) Q :=
  Ev.stl (ls' := List.set (a0 :: a1 :: a2 :: a3 :: b :: r) 4 (vA x)) (fun h1 h2 => ⟨ok_set h1 (ok_h h2), ok_t h2⟩) (fun p e R s m args below meth c H locs cells slots lj Q0 hF hl kk => lv_astore hF.1 hF.2.1 hd hl (Nat.le_of_ble_eq_true hk) rfl (fun lj' hl' => kk lj' (lv_st1 (v := vA x) hn hl'))) k
theorem ev_lstore_4 (pc : Nat) {a0 a1 a2 a3 b c : Vv} {x : Int} {r : List Vv} (hd : decode mm.2.1 pc = .ok (.lstore 4, 2)) (hn : pvLg (a0 :: a1 :: a2 :: a3 :: b :: c :: r) 4 = false := by rfl) (hk : Nat.ble (4 + 2) mm.2.2.1 = true := by rfl) (k : Ev l g mm d bc bs Z I P (pc + 2) (a0 :: a1 :: a2 :: a3 :: vL x :: vX :: r) st Q) : Ev l g mm d bc bs Z I P pc (a0 :: a1 :: a2 :: a3 :: b :: c :: r) (vL x :: st) Q :=
  Ev.stl (ls' := List.set (List.set (a0 :: a1 :: a2 :: a3 :: b :: c :: r) 4 (vL x)) (4 + 1) vX) (fun h1 h2 => ⟨ok_set (ok_set h1 (ok_h h2)) trivial, ok_t h2⟩) (fun p e R s m args below meth c H locs cells slots lj Q0 hF hl kk => lv_lstore hF.1 hF.2.1 hd hl (Nat.le_of_ble_eq_true hk) rfl (fun lj' hl' => kk lj' (lv_st2 (v := vL x) hn hl'))) k
theorem ev_iinc_4 (pc : Nat) {a0 a1 a2 a3 : Vv} {x n : Int} {r : List Vv} (hd : decode mm.2.1 pc = .ok (.iinc 4 n, 3)) (hr : InR (x + n)) (hn : pvLg (a0 :: a1 :: a2 :: a3 :: vI x :: r) 4 = false := by rfl) (hk : Nat.ble (4 + 1) mm.2.2.1 = true := by rfl) (k : Ev l g mm d bc bs Z I P (pc + 3) (a0 :: a1 :: a2 :: a3 :: vI (x + n) :: r) st Q) : Ev l g mm d bc bs Z I P pc (a0 :: a1 :: a2 :: a3 :: vI x :: r) st Q :=
  Ev.stl (ls' := List.set (a0 :: a1 :: a2 :: a3 :: vI x :: r) 4 (vI (x + n))) (fun h1 h2 => ⟨ok_set h1 hr, h2⟩) (fun p e R s m args below meth c H locs cells slots lj Q0 hF hl kk => by
    obtain ⟨k0, hk0⟩ := List.getElem?_of_mem (show (4, toV g (vI x)) ∈ lvFrom g 0 (a0 :: a1 :: a2 :: a3 :: vI x :: r) from by simpa using lvFrom_mem g (a0 :: a1 :: a2 :: a3 :: vI x :: r) 0 4 (vI x) rfl rfl)
    exact lv_iinc (v := Int32.ofInt (x + n)) hF.1 hF.2.1 hd hl (show _ = some (4, Value.int (Int32.ofInt x)) from hk0) (Int32.ofInt_add x n).symm (Nat.le_of_ble_eq_true hk) rfl (fun lj' hl' => kk lj' (lv_st1 (v := vI (x + n)) hn hl'))) k
theorem ev_istore_5 (pc : Nat) {a0 a1 a2 a3 a4 b : Vv} {x : Int} {r : List Vv} (hd : decode mm.2.1 pc = .ok (.istore 5, 2)) (hn : pvLg (a0 :: a1 :: a2 :: a3 :: a4 :: b :: r) 5 = false := by rfl) (hk : Nat.ble (5 + 1) mm.2.2.1 = true := by rfl) (k : Ev l g mm d bc bs Z I P (pc + 2) (a0 :: a1 :: a2 :: a3 :: a4 :: vI x :: r) st Q) : Ev l g mm d bc bs Z I P pc (a0 :: a1 :: a2 :: a3 :: a4 :: b :: r) (vI x :: st) Q :=
  Ev.stl (ls' := List.set (a0 :: a1 :: a2 :: a3 :: a4 :: b :: r) 5 (vI x)) (fun h1 h2 => ⟨ok_set h1 (ok_h h2), ok_t h2⟩) (fun p e R s m args below meth c H locs cells slots lj Q0 hF hl kk => lv_istore hF.1 hF.2.1 hd hl (Nat.le_of_ble_eq_true hk) rfl (fun lj' hl' => kk lj' (lv_st1 (v := vI x) hn hl'))) k
theorem ev_astore_5 (pc : Nat) {a0 a1 a2 a3 a4 b : Vv} {x : Nat} {r : List Vv} (hd : decode mm.2.1 pc = .ok (.astore 5, 2)) (hn : pvLg (a0 :: a1 :: a2 :: a3 :: a4 :: b :: r) 5 = false := by rfl) (hk : Nat.ble (5 + 1) mm.2.2.1 = true := by rfl) (k : Ev l g mm d bc bs Z I P (pc + 2) (a0 :: a1 :: a2 :: a3 :: a4 :: vA x :: r) st Q) : Ev l g mm d bc bs Z I P pc (a0 :: a1 :: a2 :: a3 :: a4 :: b :: r) (vA x :: st) Q :=
  Ev.stl (ls' := List.set (a0 :: a1 :: a2 :: a3 :: a4 :: b :: r) 5 (vA x)) (fun h1 h2 => ⟨ok_set h1 (ok_h h2), ok_t h2⟩) (fun p e R s m args below meth c H locs cells slots lj Q0 hF hl kk => lv_astore hF.1 hF.2.1 hd hl (Nat.le_of_ble_eq_true hk) rfl (fun lj' hl' => kk lj' (lv_st1 (v := vA x) hn hl'))) k
theorem ev_lstore_5 (pc : Nat) {a0 a1 a2 a3 a4 b c : Vv} {x : Int} {r : List Vv} (hd : decode mm.2.1 pc = .ok (.lstore 5, 2)) (hn : pvLg (a0 :: a1 :: a2 :: a3 :: a4 :: b :: c :: r) 5 = false := by rfl) (hk : Nat.ble (5 + 2) mm.2.2.1 = true := by rfl) (k : Ev l g mm d bc bs Z I P (pc + 2) (a0 :: a1 :: a2 :: a3 :: a4 :: vL x :: vX :: r) st Q) : Ev l g mm d bc bs Z I P pc (a0 :: a1 :: a2 :: a3 :: a4 :: b :: c :: r) (vL x :: st) Q :=
  Ev.stl (ls' := List.set (List.set (a0 :: a1 :: a2 :: a3 :: a4 :: b :: c :: r) 5 (vL x)) (5 + 1) vX) (fun h1 h2 => ⟨ok_set (ok_set h1 (ok_h h2)) trivial, ok_t h2⟩) (fun p e R s m args below meth c H locs cells slots lj Q0 hF hl kk => lv_lstore hF.1 hF.2.1 hd hl (Nat.le_of_ble_eq_true hk) rfl (fun lj' hl' => kk lj' (lv_st2 (v := vL x) hn hl'))) k
theorem ev_iinc_5 (pc : Nat) {a0 a1 a2 a3 a4 : Vv} {x n : Int} {r : List Vv} (hd : decode mm.2.1 pc = .ok (.iinc 5 n, 3)) (hr : InR (x + n)) (hn : pvLg (a0 :: a1 :: a2 :: a3 :: a4 :: vI x :: r) 5 = false := by rfl) (hk : Nat.ble (5 + 1) mm.2.2.1 = true := by rfl) (k : Ev l g mm d bc bs Z I P (pc + 3) (a0 :: a1 :: a2 :: a3 :: a4 :: vI (x + n) :: r) st Q) : Ev l g mm d bc bs Z I P pc (a0 :: a1 :: a2 :: a3 :: a4 :: vI x :: r) st Q :=
  Ev.stl (ls' := List.set (a0 :: a1 :: a2 :: a3 :: a4 :: vI x :: r) 5 (vI (x + n))) (fun h1 h2 => ⟨ok_set h1 hr, h2⟩) (fun p e R s m args below meth c H locs cells slots lj Q0 hF hl kk => by
    obtain ⟨k0, hk0⟩ := List.getElem?_of_mem (show (5, toV g (vI x)) ∈ lvFrom g 0 (a0 :: a1 :: a2 :: a3 :: a4 :: vI x :: r) from by simpa using lvFrom_mem g (a0 :: a1 :: a2 :: a3 :: a4 :: vI x :: r) 0 5 (vI x) rfl rfl)
    exact lv_iinc (v := Int32.ofInt (x + n)) hF.1 hF.2.1 hd hl (show _ = some (5, Value.int (Int32.ofInt x)) from hk0) (Int32.ofInt_add x n).symm (Nat.le_of_ble_eq_true hk) rfl (fun lj' hl' => kk lj' (lv_st1 (v := vI (x + n)) hn hl'))) k
theorem ev_istore_6 (pc : Nat) {a0 a1 a2 a3 a4 a5 b : Vv} {x : Int} {r : List Vv} (hd : decode mm.2.1 pc = .ok (.istore 6, 2)) (hn : pvLg (a0 :: a1 :: a2 :: a3 :: a4 :: a5 :: b :: r) 6 = false := by rfl) (hk : Nat.ble (6 + 1) mm.2.2.1 = true := by rfl) (k : Ev l g mm d bc bs Z I P (pc + 2) (a0 :: a1 :: a2 :: a3 :: a4 :: a5 :: vI x :: r) st Q) : Ev l g mm d bc bs Z I P pc (a0 :: a1 :: a2 :: a3 :: a4 :: a5 :: b :: r) (vI x :: st) Q :=
  Ev.stl (ls' := List.set (a0 :: a1 :: a2 :: a3 :: a4 :: a5 :: b :: r) 6 (vI x)) (fun h1 h2 => ⟨ok_set h1 (ok_h h2), ok_t h2⟩) (fun p e R s m args below meth c H locs cells slots lj Q0 hF hl kk => lv_istore hF.1 hF.2.1 hd hl (Nat.le_of_ble_eq_true hk) rfl (fun lj' hl' => kk lj' (lv_st1 (v := vI x) hn hl'))) k
theorem ev_astore_6 (pc : Nat) {a0 a1 a2 a3 a4 a5 b : Vv} {x : Nat} {r : List Vv} (hd : decode mm.2.1 pc = .ok (.astore 6, 2)) (hn : pvLg (a0 :: a1 :: a2 :: a3 :: a4 :: a5 :: b :: r) 6 = false := by rfl) (hk : Nat.ble (6 + 1) mm.2.2.1 = true := by rfl) (k : Ev l g mm d bc bs Z I P (pc + 2) (a0 :: a1 :: a2 :: a3 :: a4 :: a5 :: vA x :: r) st Q) : Ev l g mm d bc bs Z I P pc (a0 :: a1 :: a2 :: a3 :: a4 :: a5 :: b :: r) (vA x :: st) Q :=
  Ev.stl (ls' := List.set (a0 :: a1 :: a2 :: a3 :: a4 :: a5 :: b :: r) 6 (vA x)) (fun h1 h2 => ⟨ok_set h1 (ok_h h2), ok_t h2⟩) (fun p e R s m args below meth c H locs cells slots lj Q0 hF hl kk => lv_astore hF.1 hF.2.1 hd hl (Nat.le_of_ble_eq_true hk) rfl (fun lj' hl' => kk lj' (lv_st1 (v := vA x) hn hl'))) k
theorem ev_lstore_6 (pc : Nat) {a0 a1 a2 a3 a4 a5 b c : Vv} {x : Int} {r : List Vv} (hd : decode mm.2.1 pc = .ok (.lstore 6, 2)) (hn : pvLg (a0 :: a1 :: a2 :: a3 :: a4 :: a5 :: b :: c :: r) 6 = false := by rfl) (hk : Nat.ble (6 + 2) mm.2.2.1 = true := by rfl) (k : Ev l g mm d bc bs Z I P (pc + 2) (a0 :: a1 :: a2 :: a3 :: a4 :: a5 :: vL x :: vX :: r) st Q) : Ev l g mm d bc bs Z I P pc (a0 :: a1 :: a2 :: a3 :: a4 :: a5 :: b :: c :: r) (vL x :: st) Q :=
  Ev.stl (ls' := List.set (List.set (a0 :: a1 :: a2 :: a3 :: a4 :: a5 :: b :: c :: r) 6 (vL x)) (6 + 1) vX) (fun h1 h2 => ⟨ok_set (ok_set h1 (ok_h h2)) trivial, ok_t h2⟩) (fun p e R s m args below meth c H locs cells slots lj Q0 hF hl kk => lv_lstore hF.1 hF.2.1 hd hl (Nat.le_of_ble_eq_true hk) rfl (fun lj' hl' => kk lj' (lv_st2 (v := vL x) hn hl'))) k
theorem ev_iinc_6 (pc : Nat) {a0 a1 a2 a3 a4 a5 : Vv} {x n : Int} {r : List Vv} (hd : decode mm.2.1 pc = .ok (.iinc 6 n, 3)) (hr : InR (x + n)) (hn : pvLg (a0 :: a1 :: a2 :: a3 :: a4 :: a5 :: vI x :: r) 6 = false := by rfl) (hk : Nat.ble (6 + 1) mm.2.2.1 = true := by rfl) (k : Ev l g mm d bc bs Z I P (pc + 3) (a0 :: a1 :: a2 :: a3 :: a4 :: a5 :: vI (x + n) :: r) st Q) : Ev l g mm d bc bs Z I P pc (a0 :: a1 :: a2 :: a3 :: a4 :: a5 :: vI x :: r) st Q :=
  Ev.stl (ls' := List.set (a0 :: a1 :: a2 :: a3 :: a4 :: a5 :: vI x :: r) 6 (vI (x + n))) (fun h1 h2 => ⟨ok_set h1 hr, h2⟩) (fun p e R s m args below meth c H locs cells slots lj Q0 hF hl kk => by
    obtain ⟨k0, hk0⟩ := List.getElem?_of_mem (show (6, toV g (vI x)) ∈ lvFrom g 0 (a0 :: a1 :: a2 :: a3 :: a4 :: a5 :: vI x :: r) from by simpa using lvFrom_mem g (a0 :: a1 :: a2 :: a3 :: a4 :: a5 :: vI x :: r) 0 6 (vI x) rfl rfl)
    exact lv_iinc (v := Int32.ofInt (x + n)) hF.1 hF.2.1 hd hl (show _ = some (6, Value.int (Int32.ofInt x)) from hk0) (Int32.ofInt_add x n).symm (Nat.le_of_ble_eq_true hk) rfl (fun lj' hl' => kk lj' (lv_st1 (v := vI (x + n)) hn hl'))) k
theorem ev_istore_7 (pc : Nat) {a0 a1 a2 a3 a4 a5 a6 b : Vv} {x : Int} {r : List Vv} (hd : decode mm.2.1 pc = .ok (.istore 7, 2)) (hn : pvLg (a0 :: a1 :: a2 :: a3 :: a4 :: a5 :: a6 :: b :: r) 7 = false := by rfl) (hk : Nat.ble (7 + 1) mm.2.2.1 = true := by rfl) (k : Ev l g mm d bc bs Z I P (pc + 2) (a0 :: a1 :: a2 :: a3 :: a4 :: a5 :: a6 :: vI x :: r) st Q) : Ev l g mm d bc bs Z I P pc (a0 :: a1 :: a2 :: a3 :: a4 :: a5 :: a6 :: b :: r) (vI x :: st) Q :=
  Ev.stl (ls' := List.set (a0 :: a1 :: a2 :: a3 :: a4 :: a5 :: a6 :: b :: r) 7 (vI x)) (fun h1 h2 => ⟨ok_set h1 (ok_h h2), ok_t h2⟩) (fun p e R s m args below meth c H locs cells slots lj Q0 hF hl kk => lv_istore hF.1 hF.2.1 hd hl (Nat.le_of_ble_eq_true hk) rfl (fun lj' hl' => kk lj' (lv_st1 (v := vI x) hn hl'))) k
theorem ev_astore_7 (pc : Nat) {a0 a1 a2 a3 a4 a5 a6 b : Vv} {x : Nat} {r : List Vv} (hd : decode mm.2.1 pc = .ok (.astore 7, 2)) (hn : pvLg (a0 :: a1 :: a2 :: a3 :: a4 :: a5 :: a6 :: b :: r) 7 = false := by rfl) (hk : Nat.ble (7 + 1) mm.2.2.1 = true := by rfl) (k : Ev l g mm d bc bs Z I P (pc + 2) (a0 :: a1 :: a2 :: a3 :: a4 :: a5 :: a6 :: vA x :: r) st Q) : Ev l g mm d bc bs Z I P pc (a0 :: a1 :: a2 :: a3 :: a4 :: a5 :: a6 :: b :: r) (vA x :: st) Q :=
  Ev.stl (ls' := List.set (a0 :: a1 :: a2 :: a3 :: a4 :: a5 :: a6 :: b :: r) 7 (vA x)) (fun h1 h2 => ⟨ok_set h1 (ok_h h2), ok_t h2⟩) (fun p e R s m args below meth c H locs cells slots lj Q0 hF hl kk => lv_astore hF.1 hF.2.1 hd hl (Nat.le_of_ble_eq_true hk) rfl (fun lj' hl' => kk lj' (lv_st1 (v := vA x) hn hl'))) k
theorem ev_lstore_7 (pc : Nat) {a0 a1 a2 a3 a4 a5 a6 b c : Vv} {x : Int} {r : List Vv} (hd : decode mm.2.1 pc = .ok (.lstore 7, 2)) (hn : pvLg (a0 :: a1 :: a2 :: a3 :: a4 :: a5 :: a6 :: b :: c :: r) 7 = false := by rfl) (hk : Nat.ble (7 + 2) mm.2.2.1 = true := by rfl) (k : Ev l g mm d bc bs Z I P (pc + 2) (a0 :: a1 :: a2 :: a3 :: a4 :: a5 :: a6 :: vL x :: vX :: r) st Q) : Ev l g mm d bc bs Z I P pc (a0 :: a1 :: a2 :: a3 :: a4 :: a5 :: a6 :: b :: c :: r) (vL x :: st) Q :=
  Ev.stl (ls' := List.set (List.set (a0 :: a1 :: a2 :: a3 :: a4 :: a5 :: a6 :: b :: c :: r) 7 (vL x)) (7 + 1) vX) (fun h1 h2 => ⟨ok_set (ok_set h1 (ok_h h2)) trivial, ok_t h2⟩) (fun p e R s m args below meth c H locs cells slots lj Q0 hF hl kk => lv_lstore hF.1 hF.2.1 hd hl (Nat.le_of_ble_eq_true hk) rfl (fun lj' hl' => kk lj' (lv_st2 (v := vL x) hn hl'))) k
theorem ev_iinc_7 (pc : Nat) {a0 a1 a2 a3 a4 a5 a6 : Vv} {x n : Int} {r : List Vv} (hd : decode mm.2.1 pc = .ok (.iinc 7 n, 3)) (hr : InR (x + n)) (hn : pvLg (a0 :: a1 :: a2 :: a3 :: a4 :: a5 :: a6 :: vI x :: r) 7 = false := by rfl) (hk : Nat.ble (7 + 1) mm.2.2.1 = true := by rfl) (k : Ev l g mm d bc bs Z I P (pc + 3) (a0 :: a1 :: a2 :: a3 :: a4 :: a5 :: a6 :: vI (x + n) :: r) st Q) : Ev l g mm d bc bs Z I P pc (a0 :: a1 :: a2 :: a3 :: a4 :: a5 :: a6 :: vI x :: r) st Q :=
  Ev.stl (ls' := List.set (a0 :: a1 :: a2 :: a3 :: a4 :: a5 :: a6 :: vI x :: r) 7 (vI (x + n))) (fun h1 h2 => ⟨ok_set h1 hr, h2⟩) (fun p e R s m args below meth c H locs cells slots lj Q0 hF hl kk => by
    obtain ⟨k0, hk0⟩ := List.getElem?_of_mem (show (7, toV g (vI x)) ∈ lvFrom g 0 (a0 :: a1 :: a2 :: a3 :: a4 :: a5 :: a6 :: vI x :: r) from by simpa using lvFrom_mem g (a0 :: a1 :: a2 :: a3 :: a4 :: a5 :: a6 :: vI x :: r) 0 7 (vI x) rfl rfl)
    exact lv_iinc (v := Int32.ofInt (x + n)) hF.1 hF.2.1 hd hl (show _ = some (7, Value.int (Int32.ofInt x)) from hk0) (Int32.ofInt_add x n).symm (Nat.le_of_ble_eq_true hk) rfl (fun lj' hl' => kk lj' (lv_st1 (v := vI (x + n)) hn hl'))) k
theorem ev_istore_8 (pc : Nat) {a0 a1 a2 a3 a4 a5 a6 a7 b : Vv} {x : Int} {r : List Vv} (hd : decode mm.2.1 pc = .ok (.istore 8, 2)) (hn : pvLg (a0 :: a1 :: a2 :: a3 :: a4 :: a5 :: a6 :: a7 :: b :: r) 8 = false := by rfl) (hk : Nat.ble (8 + 1) mm.2.2.1 = true := by rfl) (k : Ev l g mm d bc bs Z I P (pc + 2) (a0 :: a1 :: a2 :: a3 :: a4 :: a5 :: a6 :: a7 :: vI x :: r) st Q) : Ev l g mm d bc bs Z I P pc (a0 :: a1 :: a2 :: a3 :: a4 :: a5 :: a6 :: a7 :: b :: r) (vI x :: st) Q :=
  Ev.stl (ls' := List.set (a0 :: a1 :: a2 :: a3 :: a4 :: a5 :: a6 :: a7 :: b :: r) 8 (vI x)) (fun h1 h2 => ⟨ok_set h1 (ok_h h2), ok_t h2⟩) (fun p e R s m args below meth c H locs cells slots lj Q0 hF hl kk => lv_istore hF.1 hF.2.1 hd hl (Nat.le_of_ble_eq_true hk) rfl (fun lj' hl' => kk lj' (lv_st1 (v := vI x) hn hl'))) k
theorem ev_astore_8 (pc : Nat) {a0 a1 a2 a3 a4 a5 a6 a7 b : Vv} {x : Nat} {r : List Vv} (hd : decode mm.2.1 pc = .ok (.astore 8, 2)) (hn : pvLg (a0 :: a1 :: a2 :: a3 :: a4 :: a5 :: a6 :: a7 :: b :: r) 8 = false := by rfl) (hk : Nat.ble (8 + 1) mm.2.2.1 = true := by rfl) (k : Ev l g mm d bc bs Z I P (pc + 2) (a0 :: a1 :: a2 :: a3 :: a4 :: a5 :: a6 :: a7 :: vA x :: r) st Q) : Ev l g mm d bc bs Z I P pc (a0 :: a1 :: a2 :: a3 :: a4 :: a5 :: a6 :: a7 :: b :: r) (vA x :: st) Q :=
  Ev.stl (ls' := List.set (a0 :: a1 :: a2 :: a3 :: a4 :: a5 :: a6 :: a7 :: b :: r) 8 (vA x)) (fun h1 h2 => ⟨ok_set h1 (ok_h h2), ok_t h2⟩) (fun p e R s m args below meth c H locs cells slots lj Q0 hF hl kk => lv_astore hF.1 hF.2.1 hd hl (Nat.le_of_ble_eq_true hk) rfl (fun lj' hl' => kk lj' (lv_st1 (v := vA x) hn hl'))) k
theorem ev_lstore_8 (pc : Nat) {a0 a1 a2 a3 a4 a5 a6 a7 b c : Vv} {x : Int} {r : List Vv} (hd : decode mm.2.1 pc = .ok (.lstore 8, 2)) (hn : pvLg (a0 :: a1 :: a2 :: a3 :: a4 :: a5 :: a6 :: a7 :: b :: c :: r) 8 = false := by rfl) (hk : Nat.ble (8 + 2) mm.2.2.1 = true := by rfl) (k : Ev l g mm d bc bs Z I P (pc + 2) (a0 :: a1 :: a2 :: a3 :: a4 :: a5 :: a6 :: a7 :: vL x :: vX :: r) st Q) : Ev l g mm d bc bs Z I P pc (a0 :: a1 :: a2 :: a3 :: a4 :: a5 :: a6 :: a7 :: b :: c :: r) (vL x :: st) Q :=
  Ev.stl (ls' := List.set (List.set (a0 :: a1 :: a2 :: a3 :: a4 :: a5 :: a6 :: a7 :: b :: c :: r) 8 (vL x)) (8 + 1) vX) (fun h1 h2 => ⟨ok_set (ok_set h1 (ok_h h2)) trivial, ok_t h2⟩) (fun p e R s m args below meth c H locs cells slots lj Q0 hF hl kk => lv_lstore hF.1 hF.2.1 hd hl (Nat.le_of_ble_eq_true hk) rfl (fun lj' hl' => kk lj' (lv_st2 (v := vL x) hn hl'))) k
theorem ev_iinc_8 (pc : Nat) {a0 a1 a2 a3 a4 a5 a6 a7 : Vv} {x n : Int} {r : List Vv} (hd : decode mm.2.1 pc = .ok (.iinc 8 n, 3)) (hr : InR (x + n)) (hn : pvLg (a0 :: a1 :: a2 :: a3 :: a4 :: a5 :: a6 :: a7 :: vI x :: r) 8 = false := by rfl) (hk : Nat.ble (8 + 1) mm.2.2.1 = true := by rfl) (k : Ev l g mm d bc bs Z I P (pc + 3) (a0 :: a1 :: a2 :: a3 :: a4 :: a5 :: a6 :: a7 :: vI (x + n) :: r) st Q) : Ev l g mm d bc bs Z I P pc (a0 :: a1 :: a2 :: a3 :: a4 :: a5 :: a6 :: a7 :: vI x :: r) st Q :=
  Ev.stl (ls' := List.set (a0 :: a1 :: a2 :: a3 :: a4 :: a5 :: a6 :: a7 :: vI x :: r) 8 (vI (x + n))) (fun h1 h2 => ⟨ok_set h1 hr, h2⟩) (fun p e R s m args below meth c H locs cells slots lj Q0 hF hl kk => by
    obtain ⟨k0, hk0⟩ := List.getElem?_of_mem (show (8, toV g (vI x)) ∈ lvFrom g 0 (a0 :: a1 :: a2 :: a3 :: a4 :: a5 :: a6 :: a7 :: vI x :: r) from by simpa using lvFrom_mem g (a0 :: a1 :: a2 :: a3 :: a4 :: a5 :: a6 :: a7 :: vI x :: r) 0 8 (vI x) rfl rfl)
    exact lv_iinc (v := Int32.ofInt (x + n)) hF.1 hF.2.1 hd hl (show _ = some (8, Value.int (Int32.ofInt x)) from hk0) (Int32.ofInt_add x n).symm (Nat.le_of_ble_eq_true hk) rfl (fun lj' hl' => kk lj' (lv_st1 (v := vI (x + n)) hn hl'))) k
theorem ev_istore_9 (pc : Nat) {a0 a1 a2 a3 a4 a5 a6 a7 a8 b : Vv} {x : Int} {r : List Vv} (hd : decode mm.2.1 pc = .ok (.istore 9, 2)) (hn : pvLg (a0 :: a1 :: a2 :: a3 :: a4 :: a5 :: a6 :: a7 :: a8 :: b :: r) 9 = false := by rfl) (hk : Nat.ble (9 + 1) mm.2.2.1 = true := by rfl) (k : Ev l g mm d bc bs Z I P (pc + 2) (a0 :: a1 :: a2 :: a3 :: a4 :: a5 :: a6 :: a7 :: a8 :: vI x :: r) st Q) : Ev l g mm d bc bs Z I P pc (a0 :: a1 :: a2 :: a3 :: a4 :: a5 :: a6 :: a7 :: a8 :: b :: r) (vI x :: st) Q :=
  Ev.stl (ls' := List.set (a0 :: a1 :: a2 :: a3 :: a4 :: a5 :: a6 :: a7 :: a8 :: b :: r) 9 (vI x)) (fun h1 h2 => ⟨ok_set h1 (ok_h h2), ok_t h2⟩) (fun p e R s m args below meth c H locs cells slots lj Q0 hF hl kk => lv_istore hF.1 hF.2.1 hd hl (Nat.le_of_ble_eq_true hk) rfl (fun lj' hl' => kk lj' (lv_st1 (v := vI x) hn hl'))) k
theorem ev_astore_9 (pc : Nat) {a0 a1 a2 a3 a4 a5 a6 a7 a8 b : Vv} {x : Nat} {r : List Vv} (hd : decode mm.2.1 pc = .ok (.astore 9, 2)) (hn : pvLg (a0 :: a1 :: a2 :: a3 :: a4 :: a5 :: a6 :: a7 :: a8 :: b :: r) 9 = false := by rfl) (hk : Nat.ble (9 + 1) mm.2.2.1 = true := by rfl) (k : Ev l g mm d bc bs Z I P (pc + 2) (a0 :: a1 :: a2 :: a3 :: a4 :: a5 :: a6 :: a7 :: a8 :: vA x :: r) st Q) : Ev l g mm d bc bs Z I P pc (a0 :: a1 :: a2 :: a3 :: a4 :: a5 :: a6 :: a7 :: a8 :: b :: r) (vA x :: st) Q :=
  Ev.stl (ls' := List.set (a0 :: a1 :: a2 :: a3 :: a4 :: a5 :: a6 :: a7 :: a8 :: b :: r) 9 (vA x)) (fun h1 h2 => ⟨ok_set h1 (ok_h h2), ok_t h2⟩) (fun p e R s m args below meth c H locs cells slots lj Q0 hF hl kk => lv_astore hF.1 hF.2.1 hd hl (Nat.le_of_ble_eq_true hk) rfl (fun lj' hl' => kk lj' (lv_st1 (v := vA x) hn hl'))) k
theorem ev_lstore_9 (pc : Nat) {a0 a1 a2 a3 a4 a5 a6 a7 a8 b c : Vv} {x : Int} {r : List Vv} (hd : decode mm.2.1 pc = .ok (.lstore 9, 2)) (hn : pvLg (a0 :: a1 :: a2 :: a3 :: a4 :: a5 :: a6 :: a7 :: a8 :: b :: c :: r) 9 = false := by rfl) (hk : Nat.ble (9 + 2) mm.2.2.1 = true := by rfl) (k : Ev l g mm d bc bs Z I P (pc + 2) (a0 :: a1 :: a2 :: a3 :: a4 :: a5 :: a6 :: a7 :: a8 :: vL x :: vX :: r) st Q) : Ev l g mm d bc bs Z I P pc (a0 :: a1 :: a2 :: a3 :: a4 :: a5 :: a6 :: a7 :: a8 :: b :: c :: r) (vL x :: st) Q :=
  Ev.stl (ls' := List.set (List.set (a0 :: a1 :: a2 :: a3 :: a4 :: a5 :: a6 :: a7 :: a8 :: b :: c :: r) 9 (vL x)) (9 + 1) vX) (fun h1 h2 => ⟨ok_set (ok_set h1 (ok_h h2)) trivial, ok_t h2⟩) (fun p e R s m args below meth c H locs cells slots lj Q0 hF hl kk => lv_lstore hF.1 hF.2.1 hd hl (Nat.le_of_ble_eq_true hk) rfl (fun lj' hl' => kk lj' (lv_st2 (v := vL x) hn hl'))) k
theorem ev_iinc_9 (pc : Nat) {a0 a1 a2 a3 a4 a5 a6 a7 a8 : Vv} {x n : Int} {r : List Vv} (hd : decode mm.2.1 pc = .ok (.iinc 9 n, 3)) (hr : InR (x + n)) (hn : pvLg (a0 :: a1 :: a2 :: a3 :: a4 :: a5 :: a6 :: a7 :: a8 :: vI x :: r) 9 = false := by rfl) (hk : Nat.ble (9 + 1) mm.2.2.1 = true := by rfl) (k : Ev l g mm d bc bs Z I P (pc + 3) (a0 :: a1 :: a2 :: a3 :: a4 :: a5 :: a6 :: a7 :: a8 :: vI (x + n) :: r) st Q) : Ev l g mm d bc bs Z I P pc (a0 :: a1 :: a2 :: a3 :: a4 :: a5 :: a6 :: a7 :: a8 :: vI x :: r) st Q :=
  Ev.stl (ls' := List.set (a0 :: a1 :: a2 :: a3 :: a4 :: a5 :: a6 :: a7 :: a8 :: vI x :: r) 9 (vI (x + n))) (fun h1 h2 => ⟨ok_set h1 hr, h2⟩) (fun p e R s m args below meth c H locs cells slots lj Q0 hF hl kk => by
    obtain ⟨k0, hk0⟩ := List.getElem?_of_mem (show (9, toV g (vI x)) ∈ lvFrom g 0 (a0 :: a1 :: a2 :: a3 :: a4 :: a5 :: a6 :: a7 :: a8 :: vI x :: r) from by simpa using lvFrom_mem g (a0 :: a1 :: a2 :: a3 :: a4 :: a5 :: a6 :: a7 :: a8 :: vI x :: r) 0 9 (vI x) rfl rfl)
    exact lv_iinc (v := Int32.ofInt (x + n)) hF.1 hF.2.1 hd hl (show _ = some (9, Value.int (Int32.ofInt x)) from hk0) (Int32.ofInt_add x n).symm (Nat.le_of_ble_eq_true hk) rfl (fun lj' hl' => kk lj' (lv_st1 (v := vI (x + n)) hn hl'))) k
theorem ev_istore_10 (pc : Nat) {a0 a1 a2 a3 a4 a5 a6 a7 a8 a9 b : Vv} {x : Int} {r : List Vv} (hd : decode mm.2.1 pc = .ok (.istore 10, 2)) (hn : pvLg (a0 :: a1 :: a2 :: a3 :: a4 :: a5 :: a6 :: a7 :: a8 :: a9 :: b :: r) 10 = false := by rfl) (hk : Nat.ble (10 + 1) mm.2.2.1 = true := by rfl) (k : Ev l g mm d bc bs Z I P (pc + 2) (a0 :: a1 :: a2 :: a3 :: a4 :: a5 :: a6 :: a7 :: a8 :: a9 :: vI x :: r) st Q) : Ev l g mm d bc bs Z I P pc (a0 :: a1 :: a2 :: a3 :: a4 :: a5 :: a6 :: a7 :: a8 :: a9 :: b :: r) (vI x :: st) Q :=
  Ev.stl (ls' := List.set (a0 :: a1 :: a2 :: a3 :: a4 :: a5 :: a6 :: a7 :: a8 :: a9 :: b :: r) 10 (vI x)) (fun h1 h2 => ⟨ok_set h1 (ok_h h2), ok_t h2⟩) (fun p e R s m args below meth c H locs cells slots lj Q0 hF hl kk => lv_istore hF.1 hF.2.1 hd hl (Nat.le_of_ble_eq_true hk) rfl (fun lj' hl' => kk lj' (lv_st1 (v := vI x) hn hl'))) k
theorem ev_astore_10 (pc : Nat) {a0 a1 a2 a3 a4 a5 a6 a7 a8 a9 b : Vv} {x : Nat} {r : List Vv} (hd : decode mm.2.1 pc = .ok (.astore 10, 2)) (hn : pvLg (a0 :: a1 :: a2 :: a3 :: a4 :: a5 :: a6 :: a7 :: a8 :: a9 :: b :: r) 10 = false := by rfl) (hk : Nat.ble (10 + 1) mm.2.2.1 = true := by rfl) (k : Ev l g mm d bc bs Z I P (pc + 2) (a0 :: a1 :: a2 :: a3 :: a4 :: a5 :: a6 :: a7 :: a8 :: a9 :: vA x :: r) st Q) : Ev l g mm d bc bs Z I P pc (a0 :: a1 :: a2 :: a3 :: a4 :: a5 :: a6 :: a7 :: a8 :: a9 :: b :: r) (vA x :: st) Q :=
  Ev.stl (ls' := List.set (a0 :: a1 :: a2 :: a3 :: a4 :: a5 :: a6 :: a7 :: a8 :: a9 :: b :: r) 10 (vA x)) (fun h1 h2 => ⟨ok_set h1 (ok_h h2), ok_t h2⟩) (fun p e R s m args below meth c H locs cells slots lj Q0 hF hl kk => lv_astore hF.1 hF.2.1 hd hl (Nat.le_of_ble_eq_true hk) rfl (fun lj' hl' => kk lj' (lv_st1 (v := vA x) hn hl'))) k
theorem ev_lstore_10 (pc : Nat) {a0 a1 a2 a3 a4 a5 a6 a7 a8 a9 b c : Vv} {x : Int} {r : List Vv} (hd : decode mm.2.1 pc = .ok (.lstore 10, 2)) (hn : pvLg (a0 :: a1 :: a2 :: a3 :: a4 :: a5 :: a6 :: a7 :: a8 :: a9 :: b :: c :: r) 10 = false := by rfl) (hk : Nat.ble (10 + 2) mm.2.2.1 = true := by rfl) (k : Ev l g mm d bc bs Z I P (pc + 2) (a0 :: a1 :: a2 :: a3 :: a4 :: a5 :: a6 :: a7 :: a8 :: a9 :: vL x :: vX :: r) st Q) : Ev l g mm d bc bs Z I P pc (a0 :: a1 :: a2 :: a3 :: a4 :: a5 :: a6 :: a7 :: a8 :: a9 :: b :: c :: r) (vL x :: st) Q :=
  Ev.stl (ls' := List.set (List.set (a0 :: a1 :: a2 :: a3 :: a4 :: a5 :: a6 :: a7 :: a8 :: a9 :: b :: c :: r) 10 (vL x)) (10 + 1) vX) (fun h1 h2 => ⟨ok_set (ok_set h1 (ok_h h2)) trivial, ok_t h2⟩) (fun p e R s m args below meth c H locs cells slots lj Q0 hF hl kk => lv_lstore hF.1 hF.2.1 hd hl (Nat.le_of_ble_eq_true hk) rfl (fun lj' hl' => kk lj' (lv_st2 (v := vL x) hn hl'))) k
theorem ev_iinc_10 (pc : Nat) {a0 a1 a2 a3 a4 a5 a6 a7 a8 a9 : Vv} {x n : Int} {r : List Vv} (hd : decode mm.2.1 pc = .ok (.iinc 10 n, 3)) (hr : InR (x + n)) (hn : pvLg (a0 :: a1 :: a2 :: a3 :: a4 :: a5 :: a6 :: a7 :: a8 :: a9 :: vI x :: r) 10 = false := by rfl) (hk : Nat.ble (10 + 1) mm.2.2.1 = true := by rfl) (k : Ev l g mm d bc bs Z I P (pc + 3) (a0 :: a1 :: a2 :: a3 :: a4 :: a5 :: a6 :: a7 :: a8 :: a9 :: vI (x + n) :: r) st Q) : Ev l g mm d bc bs Z I P pc (a0 :: a1 :: a2 :: a3 :: a4 :: a5 :: a6 :: a7 :: a8 :: a9 :: vI x :: r) st Q :=
  Ev.stl (ls' := List.set (a0 :: a1 :: a2 :: a3 :: a4 :: a5 :: a6 :: a7 :: a8 :: a9 :: vI x :: r) 10 (vI (x + n))) (fun h1 h2 => ⟨ok_set h1 hr, h2⟩) (fun p e R s m args below meth c H locs cells slots lj Q0 hF hl kk => by
    obtain ⟨k0, hk0⟩ := List.getElem?_of_mem (show (10, toV g (vI x)) ∈ lvFrom g 0 (a0 :: a1 :: a2 :: a3 :: a4 :: a5 :: a6 :: a7 :: a8 :: a9 :: vI x :: r) from by simpa using lvFrom_mem g (a0 :: a1 :: a2 :: a3 :: a4 :: a5 :: a6 :: a7 :: a8 :: a9 :: vI x :: r) 0 10 (vI x) rfl rfl)
    exact lv_iinc (v := Int32.ofInt (x + n)) hF.1 hF.2.1 hd hl (show _ = some (10, Value.int (Int32.ofInt x)) from hk0) (Int32.ofInt_add x n).symm (Nat.le_of_ble_eq_true hk) rfl (fun lj' hl' => kk lj' (lv_st1 (v := vI (x + n)) hn hl'))) k
theorem ev_istore_11 (pc : Nat) {a0 a1 a2 a3 a4 a5 a6 a7 a8 a9 a10 b : Vv} {x : Int} {r : List Vv} (hd : decode mm.2.1 pc = .ok (.istore 11, 2)) (hn : pvLg (a0 :: a1 :: a2 :: a3 :: a4 :: a5 :: a6 :: a7 :: a8 :: a9 :: a10 :: b :: r) 11 = false := by rfl) (hk : Nat.ble (11 + 1) mm.2.2.1 = true := by rfl) (k : Ev l g mm d bc bs Z I P (pc + 2) (a0 :: a1 :: a2 :: a3 :: a4 :: a5 :: a6 :: a7 :: a8 :: a9 :: a10 :: vI x :: r) st Q) : Ev l g mm d bc bs Z I P pc (a0 :: a1 :: a2 :: a3 :: a4 :: a5 :: a6 :: a7 :: a8 :: a9 :: a10 :: b :: r) (vI x :: st) Q :=
  Ev.stl (ls' := List.set (a0 :: a1 :: a2 :: a3 :: a4 :: a5 :: a6 :: a7 :: a8 :: a9 :: a10 :: b :: r) 11 (vI x)) (fun h1 h2 => ⟨ok_set h1 (ok_h h2), ok_t h2⟩) (fun p e R s m args below meth c H locs cells slots lj Q0 hF hl kk => lv_istore hF.1 hF.2.1 hd hl (Nat.le_of_ble_eq_true hk) rfl (fun lj' hl' => kk lj' (lv_st1 (v := vI x) hn hl'))) k
theorem ev_astore_11 (pc : Nat) {a0 a1 a2 a3 a4 a5 a6 a7 a8 a9 a10 b : Vv} {x : Nat} {r : List Vv} (hd : decode mm.2.1 pc = .ok (.astore 11, 2)) (hn : pvLg (a0 :: a1 :: a2 :: a3 :: a4 :: a5 :: a6 :: a7 :: a8 :: a9 :: a10 :: b :: r) 11 = false := by rfl) (hk : Nat.ble (11 + 1) mm.2.2.1 = true := by rfl) (k : Ev l g mm d bc bs Z I P (pc + 2) (a0 :: a1 :: a2 :: a3 :: a4 :: a5 :: a6 :: a7 :: a8 :: a9 :: a10 :: vA x :: r) st Q) : Ev l g mm d bc bs Z I P pc (a0 :: a1 :: a2 :: a3 :: a4 :: a5 :: a6 :: a7 :: a8 :: a9 :: a10 :: b :: r) (vA x :: st) Q :=
  Ev.stl (ls' := List.set (a0 :: a1 :: a2 :: a3 :: a4 :: a5 :: a6 :: a7 :: a8 :: a9 :: a10 :: b :: r) 11 (vA x)) (fun h1 h2 => ⟨ok_set h1 (ok_h h2), ok_t h2⟩) (fun p e R s m args below meth c H locs cells slots lj Q0 hF hl kk => lv_astore hF.1 hF.2.1 hd hl (Nat.le_of_ble_eq_true hk) rfl (fun lj' hl' => kk lj' (lv_st1 (v := vA x) hn hl'))) k
theorem ev_lstore_11 (pc : Nat) {a0 a1 a2 a3 a4 a5 a6 a7 a8 a9 a10 b c : Vv} {x : Int} {r : List Vv} (hd : decode mm.2.1 pc = .ok (.lstore 11, 2)) (hn : pvLg (a0 :: a1 :: a2 :: a3 :: a4 :: a5 :: a6 :: a7 :: a8 :: a9 :: a10 :: b :: c :: r) 11 = false := by rfl) (hk : Nat.ble (11 + 2) mm.2.2.1 = true := by rfl) (k : Ev l g mm d bc bs Z I P (pc + 2) (a0 :: a1 :: a2 :: a3 :: a4 :: a5 :: a6 :: a7 :: a8 :: a9 :: a10 :: vL x :: vX :: r) st Q) : Ev l g mm d bc bs Z I P pc (a0 :: a1 :: a2 :: a3 :: a4 :: a5 :: a6 :: a7 :: a8 :: a9 :: a10 :: b :: c :: r) (vL x :: st) Q :=
  Ev.stl (ls' := List.set (List.set (a0 :: a1 :: a2 :: a3 :: a4 :: a5 :: a6 :: a7 :: a8 :: a9 :: a10 :: b :: c :: r) 11 (vL x)) (11 + 1) vX) (fun h1 h2 => ⟨ok_set (ok_set h1 (ok_h h2)) trivial, ok_t h2⟩) (fun p e R s m args below meth c H locs cells slots lj Q0 hF hl kk => lv_lstore hF.1 hF.2.1 hd hl (Nat.le_of_ble_eq_true hk) rfl (fun lj' hl' => kk lj' (lv_st2 (v := vL x) hn hl'))) k
theorem ev_iinc_11 (pc : Nat) {a0 a1 a2 a3 a4 a5 a6 a7 a8 a9 a10 : Vv} {x n : Int} {r : List Vv} (hd : decode mm.2.1 pc = .ok (.iinc 11 n, 3)) (hr : InR (x + n)) (hn : pvLg (a0 :: a1 :: a2 :: a3 :: a4 :: a5 :: a6 :: a7 :: a8 :: a9 :: a10 :: vI x :: r) 11 = false := by rfl) (hk : Nat.ble (11 + 1) mm.2.2.1 = true := by rfl) (k : Ev l g mm d bc bs Z I P (pc + 3) (a0 :: a1 :: a2 :: a3 :: a4 :: a5 :: a6 :: a7 :: a8 :: a9 :: a10 :: vI (x + n) :: r) st Q) : Ev l g mm d bc bs Z I P pc (a0 :: a1 :: a2 :: a3 :: a4 :: a5 :: a6 :: a7 :: a8 :: a9 :: a10 :: vI x :: r) st Q :=
  Ev.stl (ls' := List.set (a0 :: a1 :: a2 :: a3 :: a4 :: a5 :: a6 :: a7 :: a8 :: a9 :: a10 :: vI x :: r) 11 (vI (x + n))) (fun h1 h2 => ⟨ok_set h1 hr, h2⟩) (fun p e R s m args below meth c H locs cells slots lj Q0 hF hl kk => by
    obtain ⟨k0, hk0⟩ := List.getElem?_of_mem (show (11, toV g (vI x)) ∈ lvFrom g 0 (a0 :: a1 :: a2 :: a3 :: a4 :: a5 :: a6 :: a7 :: a8 :: a9 :: a10 :: vI x :: r) from by simpa using lvFrom_mem g (a0 :: a1 :: a2 :: a3 :: a4 :: a5 :: a6 :: a7 :: a8 :: a9 :: a10 :: vI x :: r) 0 11 (vI x) rfl rfl)
    exact lv_iinc (v := Int32.ofInt (x + n)) hF.1 hF.2.1 hd hl (show _ = some (11, Value.int (Int32.ofInt x)) from hk0) (Int32.ofInt_add x n).symm (Nat.le_of_ble_eq_true hk) rfl (fun lj' hl' => kk lj' (lv_st1 (v := vI (x + n)) hn hl'))) k
theorem ev_istore_12 (pc : Nat) {a0 a1 a2 a3 a4 a5 a6 a7 a8 a9 a10 a11 b : Vv} {x : Int} {r : List Vv} (hd : decode mm.2.1 pc = .ok (.istore 12, 2)) (hn : pvLg (a0 :: a1 :: a2 :: a3 :: a4 :: a5 :: a6 :: a7 :: a8 :: a9 :: a10 :: a11 :: b :: r) 12 = false := by rfl) (hk : Nat.ble (12 + 1) mm.2.2.1 = true := by rfl) (k : Ev l g mm d bc bs Z I P (pc + 2) (a0 :: a1 :: a2 :: a3 :: a4 :: a5 :: a6 :: a7 :: a8 :: a9 :: a10 :: a11 :: vI x :: r) st Q) : Ev l g mm d bc bs Z I P pc (a0 :: a1 :: a2 :: a3 :: a4 :: a5 :: a6 :: a7 :: a8 :: a9 :: a10 :: a11 :: b :: r) (vI x :: st) Q :=
  Ev.stl (ls' := List.set (a0 :: a1 :: a2 :: a3 :: a4 :: a5 :: a6 :: a7 :: a8 :: a9 :: a10 :: a11 :: b :: r) 12 (vI x)) (fun h1 h2 => ⟨ok_set h1 (ok_h h2), ok_t h2⟩) (fun p e R s m args below meth c H locs cells slots lj Q0 hF hl kk => lv_istore hF.1 hF.2.1 hd hl (Nat.le_of_ble_eq_true hk) rfl (fun lj' hl' => kk lj' (lv_st1 (v := vI x) hn hl'))) k
theorem ev_astore_12 (pc : Nat) {a0 a1 a2 a3 a4 a5 a6 a7 a8 a9 a10 a11 b : Vv} {x : Nat} {r : List Vv} (hd : decode mm.2.1 pc = .ok (.astore 12, 2)) (hn : pvLg (a0 :: a1 :: a2 :: a3 :: a4 :: a5 :: a6 :: a7 :: a8 :: a9 :: a10 :: a11 :: b :: r) 12 = false := by rfl) (hk : Nat.ble (12 + 1) mm.2.2.1 = true := by rfl) (k : Ev l g mm d bc bs Z I P (pc + 2) (a0 :: a1 :: a2 :: a3 :: a4 :: a5 :: a6 :: a7 :: a8 :: a9 :: a10 :: a11 :: vA x :: r) st Q) : Ev l g mm d bc bs Z I P pc (a0 :: a1 :: a2 :: a3 :: a4 :: a5 :: a6 :: a7 :: a8 :: a9 :: a10 :: a11 :: b :: r) (vA x :: st) Q :=
  Ev.stl (ls' := List.set (a0 :: a1 :: a2 :: a3 :: a4 :: a5 :: a6 :: a7 :: a8 :: a9 :: a10 :: a11 :: b :: r) 12 (vA x)) (fun h1 h2 => ⟨ok_set h1 (ok_h h2), ok_t h2⟩) (fun p e R s m args below meth c H locs cells slots lj Q0 hF hl kk => lv_astore hF.1 hF.2.1 hd hl (Nat.le_of_ble_eq_true hk) rfl (fun lj' hl' => kk lj' (lv_st1 (v := vA x) hn hl'))) k
theorem ev_lstore_12 (pc : Nat) {a0 a1 a2 a3 a4 a5 a6 a7 a8 a9 a10 a11 b c : Vv} {x : Int} {r : List Vv} (hd : decode mm.2.1 pc = .ok (.lstore 12, 2)) (hn : pvLg (a0 :: a1 :: a2 :: a3 :: a4 :: a5 :: a6 :: a7 :: a8 :: a9 :: a10 :: a11 :: b :: c :: r) 12 = false := by rfl) (hk : Nat.ble (12 + 2) mm.2.2.1 = true := by rfl) (k : Ev l g mm d bc bs Z I P (pc + 2) (a0 :: a1 :: a2 :: a3 :: a4 :: a5 :: a6 :: a7 :: a8 :: a9 :: a10 :: a11 :: vL x :: vX :: r) st Q) : Ev l g mm d bc bs Z I P pc (a0 :: a1 :: a2 :: a3 :: a4 :: a5 :: a6 :: a7 :: a8 :: a9 :: a10 :: a11 :: b :: c :: r) (vL x :: st) Q :=
  Ev.stl (ls' := List.set (List.set (a0 :: a1 :: a2 :: a3 :: a4 :: a5 :: a6 :: a7 :: a8 :: a9 :: a10 :: a11 :: b :: c :: r) 12 (vL x)) (12 + 1) vX) (fun h1 h2 => ⟨ok_set (ok_set h1 (ok_h h2)) trivial, ok_t h2⟩) (fun p e R s m args below meth c H locs cells slots lj Q0 hF hl kk => lv_lstore hF.1 hF.2.1 hd hl (Nat.le_of_ble_eq_true hk) rfl (fun lj' hl' => kk lj' (lv_st2 (v := vL x) hn hl'))) k
theorem ev_iinc_12 (pc : Nat) {a0 a1 a2 a3 a4 a5 a6 a7 a8 a9 a10 a11 : Vv} {x n : Int} {r : List Vv} (hd : decode mm.2.1 pc = .ok (.iinc 12 n, 3)) (hr : InR (x + n)) (hn : pvLg (a0 :: a1 :: a2 :: a3 :: a4 :: a5 :: a6 :: a7 :: a8 :: a9 :: a10 :: a11 :: vI x :: r) 12 = false := by rfl) (hk : Nat.ble (12 + 1) mm.2.2.1 = true := by rfl) (k : Ev l g mm d bc bs Z I P (pc + 3) (a0 :: a1 :: a2 :: a3 :: a4 :: a5 :: a6 :: a7 :: a8 :: a9 :: a10 :: a11 :: vI (x + n) :: r) st Q) : Ev l g mm d bc bs Z I P pc (a0 :: a1 :: a2 :: a3 :: a4 :: a5 :: a6 :: a7 :: a8 :: a9 :: a10 :: a11 :: vI x :: r) st Q :=
  Ev.stl (ls' := List.set (a0 :: a1 :: a2 :: a3 :: a4 :: a5 :: a6 :: a7 :: a8 :: a9 :: a10 :: a11 :: vI x :: r) 12 (vI (x + n))) (fun h1 h2 => ⟨ok_set h1 hr, h2⟩) (fun p e R s m args below meth c H locs cells slots lj Q0 hF hl kk => by
    obtain ⟨k0, hk0⟩ := List.getElem?_of_mem (show (12, toV g (vI x)) ∈ lvFrom g 0 (a0 :: a1 :: a2 :: a3 :: a4 :: a5 :: a6 :: a7 :: a8 :: a9 :: a10 :: a11 :: vI x :: r) from by simpa using lvFrom_mem g (a0 :: a1 :: a2 :: a3 :: a4 :: a5 :: a6 :: a7 :: a8 :: a9 :: a10 :: a11 :: vI x :: r) 0 12 (vI x) rfl rfl)
    exact lv_iinc (v := Int32.ofInt (x + n)) hF.1 hF.2.1 hd hl (show _ = some (12, Value.int (Int32.ofInt x)) from hk0) (Int32.ofInt_add x n).symm (Nat.le_of_ble_eq_true hk) rfl (fun lj' hl' => kk lj' (lv_st1 (v := vI (x + n)) hn hl'))) k
theorem ev_istore_13 (pc : Nat) {a0 a1 a2 a3 a4 a5 a6 a7 a8 a9 a10 a11 a12 b : Vv} {x : Int} {r : List Vv} (hd : decode mm.2.1 pc = .ok (.istore 13, 2)) (hn : pvLg (a0 :: a1 :: a2 :: a3 :: a4 :: a5 :: a6 :: a7 :: a8 :: a9 :: a10 :: a11 :: a12 :: b :: r) 13 = false := by rfl) (hk : Nat.ble (13 + 1) mm.2.2.1 = true := by rfl) (k : Ev l g mm d bc bs Z I P (pc + 2) (a0 :: a1 :: a2 :: a3 :: a4 :: a5 :: a6 :: a7 :: a8 :: a9 :: a10 :: a11 :: a12 :: vI x :: r) st Q) : Ev l g mm d bc bs Z I P pc (a0 :: a1 :: a2 :: a3 :: a4 :: a5 :: a6 :: a7 :: a8 :: a9 :: a10 :: a11 :: a12 :: b :: r) (vI x :: st) Q :=
  Ev.stl (ls' := List.set (a0 :: a1 :: a2 :: a3 :: a4 :: a5 :: a6 :: a7 :: a8 :: a9 :: a10 :: a11 :: a12 :: b :: r) 13 (vI x)) (fun h1 h2 => ⟨ok_set h1 (ok_h h2), ok_t h2⟩) (fun p e R s m args below meth c H locs cells slots lj Q0 hF hl kk => lv_istore hF.1 hF.2.1 hd hl (Nat.le_of_ble_eq_true hk) rfl (fun lj' hl' => kk lj' (lv_st1 (v := vI x) hn hl'))) k
theorem ev_astore_13 (pc : Nat) {a0 a1 a2 a3 a4 a5 a6 a7 a8 a9 a10 a11 a12 b : Vv} {x : Nat} {r : List Vv} (hd : decode mm.2.1 pc = .ok (.astore 13, 2)) (hn : pvLg (a0 :: a1 :: a2 :: a3 :: a4 :: a5 :: a6 :: a7 :: a8 :: a9 :: a10 :: a11 :: a12 :: b :: r) 13 = false := by rfl) (hk : Nat.ble (13 + 1) mm.2.2.1 = true := by rfl) (k : Ev l g mm d bc bs Z I P (pc + 2) (a0 :: a1 :: a2 :: a3 :: a4 :: a5 :: a6 :: a7 :: a8 :: a9 :: a10 :: a11 :: a12 :: vA x :: r) st Q) : Ev l g mm d bc bs Z I P pc (a0 :: a1 :: a2 :: a3 :: a4 :: a5 :: a6 :: a7 :: a8 :: a9 :: a10 :: a11 :: a12 :: b :: r) (vA x :: st) Q :=
  Ev.stl (ls' := List.set (a0 :: a1 :: a2 :: a3 :: a4 :: a5 :: a6 :: a7 :: a8 :: a9 :: a10 :: a11 :: a12 :: b :: r) 13 (vA x)) (fun h1 h2 => ⟨ok_set h1 (ok_h h2), ok_t h2⟩) (fun p e R s m args below meth c H locs cells slots lj Q0 hF hl kk => lv_astore hF.1 hF.2.1 hd hl (Nat.le_of_ble_eq_true hk) rfl (fun lj' hl' => kk lj' (lv_st1 (v := vA x) hn hl'))) k
theorem ev_lstore_13 (pc : Nat) {a0 a1 a2 a3 a4 a5 a6 a7 a8 a9 a10 a11 a12 b c : Vv} {x : Int} {r : List Vv} (hd : decode mm.2.1 pc = .ok (.lstore 13, 2)) (hn : pvLg (a0 :: a1 :: a2 :: a3 :: a4 :: a5 :: a6 :: a7 :: a8 :: a9 :: a10 :: a11 :: a12 :: b :: c :: r) 13 = false := by rfl) (hk : Nat.ble (13 + 2) mm.2.2.1 = true := by rfl) (k : Ev l g mm d bc bs Z I P (pc + 2) (a0 :: a1 :: a2 :: a3 :: a4 :: a5 :: a6 :: a7 :: a8 :: a9 :: a10 :: a11 :: a12 :: vL x :: vX :: r) st Q) : Ev l g mm d bc bs Z I P pc (a0 :: a1 :: a2 :: a3 :: a4 :: a5 :: a6 :: a7 :: a8 :: a9 :: a10 :: a11 :: a12 :: b :: c :: r) (vL x :: st) Q :=
  Ev.stl (ls' := List.set (List.set (a0 :: a1 :: a2 :: a3 :: a4 :: a5 :: a6 :: a7 :: a8 :: a9 :: a10 :: a11 :: a12 :: b :: c :: r) 13 (vL x)) (13 + 1) vX) (fun h1 h2 => ⟨ok_set (ok_set h1 (ok_h h2)) trivial, ok_t h2⟩) (fun p e R s m args below meth c H locs cells slots lj Q0 hF hl kk => lv_lstore hF.1 hF.2.1 hd hl (Nat.le_of_ble_eq_true hk) rfl (fun lj' hl' => kk lj' (lv_st2 (v := vL x) hn hl'))) k
theorem ev_iinc_13 (pc : Nat) {a0 a1 a2 a3 a4 a5 a6 a7 a8 a9 a10 a11 a12 : Vv} {x n : Int} {r : List Vv} (hd : decode mm.2.1 pc = .ok (.iinc 13 n, 3)) (hr : InR (x + n)) (hn : pvLg (a0 :: a1 :: a2 :: a3 :: a4 :: a5 :: a6 :: a7 :: a8 :: a9 :: a10 :: a11 :: a12 :: vI x :: r) 13 = false := by rfl) (hk : Nat.ble (13 + 1) mm.2.2.1 = true := by rfl) (k : Ev l g mm d bc bs Z I P (pc + 3) (a0 :: a1 :: a2 :: a3 :: a4 :: a5 :: a6 :: a7 :: a8 :: a9 :: a10 :: a11 :: a12 :: vI (x + n) :: r) st Q) : Ev l g mm d bc bs Z I P pc (a0 :: a1 :: a2 :: a3 :: a4 :: a5 :: a6 :: a7 :: a8 :: a9 :: a10 :: a11 :: a12 :: vI x :: r) st Q :=
  Ev.stl (ls' := List.set (a0 :: a1 :: a2 :: a3 :: a4 :: a5 :: a6 :: a7 :: a8 :: a9 :: a10 :: a11 :: a12 :: vI x :: r) 13 (vI (x + n))) (fun h1 h2 => ⟨ok_set h1 hr, h2⟩) (fun p e R s m args below meth c H locs cells slots lj Q0 hF hl kk => by
    obtain ⟨k0, hk0⟩ := List.getElem?_of_mem (show (13, toV g (vI x)) ∈ lvFrom g 0 (a0 :: a1 :: a2 :: a3 :: a4 :: a5 :: a6 :: a7 :: a8 :: a9 :: a10 :: a11 :: a12 :: vI x :: r) from by simpa using lvFrom_mem g (a0 :: a1 :: a2 :: a3 :: a4 :: a5 :: a6 :: a7 :: a8 :: a9 :: a10 :: a11 :: a12 :: vI x :: r) 0 13 (vI x) rfl rfl)
    exact lv_iinc (v := Int32.ofInt (x + n)) hF.1 hF.2.1 hd hl (show _ = some (13, Value.int (Int32.ofInt x)) from hk0) (Int32.ofInt_add x n).symm (Nat.le_of_ble_eq_true hk) rfl (fun lj' hl' => kk lj' (lv_st1 (v := vI (x + n)) hn hl'))) k
theorem ev_istore_14 (pc : Nat) {a0 a1 a2 a3 a4 a5 a6 a7 a8 a9 a10 a11 a12 a13 b : Vv} {x : Int} {r : List Vv} (hd : decode mm.2.1 pc = .ok (.istore 14, 2)) (hn : pvLg (a0 :: a1 :: a2 :: a3 :: a4 :: a5 :: a6 :: a7 :: a8 :: a9 :: a10 :: a11 :: a12 :: a13 :: b :: r) 14 = false := by rfl) (hk : Nat.ble (14 + 1) mm.2.2.1 = true := by rfl) (k : Ev l g mm d bc bs Z I P (pc + 2) (a0 :: a1 :: a2 :: a3 :: a4 :: a5 :: a6 :: a7 :: a8 :: a9 :: a10 :: a11 :: a12 :: a13 :: vI x :: r) st Q) : Ev l g mm d bc bs Z I P pc (a0 :: a1 :: a2 :: a3 :: a4 :: a5 :: a6 :: a7 :: a8 :: a9 :: a10 :: a11 :: a12 :: a13 :: b :: r) (vI x :: st) Q :=
  Ev.stl (ls' := List.set (a0 :: a1 :: a2 :: a3 :: a4 :: a5 :: a6 :: a7 :: a8 :: a9 :: a10 :: a11 :: a12 :: a13 :: b :: r) 14 (vI x)) (fun h1 h2 => ⟨ok_set h1 (ok_h h2), ok_t h2⟩) (fun p e R s m args below meth c H locs cells slots lj Q0 hF hl kk => lv_istore hF.1 hF.2.1 hd hl (Nat.le_of_ble_eq_true hk) rfl (fun lj' hl' => kk lj' (lv_st1 (v := vI x) hn hl'))) k
theorem ev_astore_14 (pc : Nat) {a0 a1 a2 a3 a4 a5 a6 a7 a8 a9 a10 a11 a12 a13 b : Vv} {x : Nat} {r : List Vv} (hd : decode mm.2.1 pc = .ok (.astore 14, 2)) (hn : pvLg (a0 :: a1 :: a2 :: a3 :: a4 :: a5 :: a6 :: a7 :: a8 :: a9 :: a10 :: a11 :: a12 :: a13 :: b :: r) 14 = false := by rfl) (hk : Nat.ble (14 + 1) mm.2.2.1 = true := by rfl) (k : Ev l g mm d bc bs Z I P (pc + 2) (a0 :: a1 :: a2 :: a3 :: a4 :: a5 :: a6 :: a7 :: a8 :: a9 :: a10 :: a11 :: a12 :: a13 :: vA x :: r) st Q) : Ev l g mm d bc bs Z I P pc (a0 :: a1 :: a2 :: a3 :: a4 :: a5 :: a6 :: a7 :: a8 :: a9 :: a10 :: a11 :: a12 :: a13 :: b :: r) (vA x :: st) Q :=
  Ev.stl (ls' := List.set (a0 :: a1 :: a2 :: a3 :: a4 :: a5 :: a6 :: a7 :: a8 :: a9 :: a10 :: a11 :: a12 :: a13 :: b :: r) 14 (vA x)) (fun h1 h2 => ⟨ok_set h1 (ok_h h2), ok_t h2⟩) (fun p e R s m args below meth c H locs cells slots lj Q0 hF hl kk => lv_astore hF.1 hF.2.1 hd hl (Nat.le_of_ble_eq_true hk) rfl (fun lj' hl' => kk lj' (lv_st1 (v := vA x) hn hl'))) k
theorem ev_lstore_14 (pc : Nat) {a0 a1 a2 a3 a4 a5 a6 a7 a8 a9 a10 a11 a12 a13 b c : Vv} {x : Int} {r : List Vv} (hd : decode mm.2.1 pc = .ok (.lstore 14, 2)) (hn : pvLg (a0 :: a1 :: a2 :: a3 :: a4 :: a5 :: a6 :: a7 :: a8 :: a9 :: a10 :: a11 :: a12 :: a13 :: b :: c :: r) 14 = false := by rfl) (hk : Nat.ble (14 + 2) mm.2.2.1 = true := by rfl) (k : Ev l g mm d bc bs Z I P (pc + 2) (a0 :: a1 :: a2 :: a3 :: a4 :: a5 :: a6 :: a7 :: a8 :: a9 :: a10 :: a11 :: a12 :: a13 :: vL x :: vX :: r) st Q) : Ev l g mm d bc bs Z I P pc (a0 :: a1 :: a2 :: a3 :: a4 :: a5 :: a6 :: a7 :: a8 :: a9 :: a10 :: a11 :: a12 :: a13 :: b :: c :: r) (vL x :: st) Q :=
  Ev.stl (ls' := List.set (List.set (a0 :: a1 :: a2 :: a3 :: a4 :: a5 :: a6 :: a7 :: a8 :: a9 :: a10 :: a11 :: a12 :: a13 :: b :: c :: r) 14 (vL x)) (14 + 1) vX) (fun h1 h2 => ⟨ok_set (ok_set h1 (ok_h h2)) trivial, ok_t h2⟩) (fun p e R s m args below meth c H locs cells slots lj Q0 hF hl kk => lv_lstore hF.1 hF.2.1 hd hl (Nat.le_of_ble_eq_true hk) rfl (fun lj' hl' => kk lj' (lv_st2 (v := vL x) hn hl'))) k
theorem ev_iinc_14 (pc : Nat) {a0 a1 a2 a3 a4 a5 a6 a7 a8 a9 a10 a11 a12 a13 : Vv} {x n : Int} {r : List Vv} (hd : decode mm.2.1 pc = .ok (.iinc 14 n, 3)) (hr : InR (x + n)) (hn : pvLg (a0 :: a1 :: a2 :: a3 :: a4 :: a5 :: a6 :: a7 :: a8 :: a9 :: a10 :: a11 :: a12 :: a13 :: vI x :: r) 14 = false := by rfl) (hk : Nat.ble (14 + 1) mm.2.2.1 = true := by rfl) (k : Ev l g mm d bc bs Z I P (pc + 3) (a0 :: a1 :: a2 :: a3 :: a4 :: a5 :: a6 :: a7 :: a8 :: a9 :: a10 :: a11 :: a12 :: a13 :: vI (x + n) :: r) st Q) : Ev l g mm d bc bs Z I P pc (a0 :: a1 :: a2 :: a3 :: a4 :: a5 :: a6 :: a7 :: a8 :: a9 :: a10 :: a11 :: a12 :: a13 :: vI x :: r) st Q :=
  Ev.stl (ls' := List.set (a0 :: a1 :: a2 :: a3 :: a4 :: a5 :: a6 :: a7 :: a8 :: a9 :: a10 :: a11 :: a12 :: a13 :: vI x :: r) 14 (vI (x + n))) (fun h1 h2 => ⟨ok_set h1 hr, h2⟩) (fun p e R s m args below meth c H locs cells slots lj Q0 hF hl kk => by
    obtain ⟨k0, hk0⟩ := List.getElem?_of_mem (show (14, toV g (vI x)) ∈ lvFrom g 0 (a0 :: a1 :: a2 :: a3 :: a4 :: a5 :: a6 :: a7 :: a8 :: a9 :: a10 :: a11 :: a12 :: a13 :: vI x :: r) from by simpa using lvFrom_mem g (a0 :: a1 :: a2 :: a3 :: a4 :: a5 :: a6 :: a7 :: a8 :: a9 :: a10 :: a11 :: a12 :: a13 :: vI x :: r) 0 14 (vI x) rfl rfl)
    exact lv_iinc (v := Int32.ofInt (x + n)) hF.1 hF.2.1 hd hl (show _ = some (14, Value.int (Int32.ofInt x)) from hk0) (Int32.ofInt_add x n).symm (Nat.le_of_ble_eq_true hk) rfl (fun lj' hl' => kk lj' (lv_st1 (v := vI (x + n)) hn hl'))) k
theorem ev_iconst (pc : Nat) {n : Int} (hd : decode mm.2.1 pc = .ok (.iconst n, 1)) (hr : InR n) (k : Ev l g mm d bc bs Z I P (pc + 1) ls (vI n :: st) Q) : Ev l g mm d bc bs Z I P pc ls st Q :=
  Ev.step (fun _ h2 => ok_cI hr h2) (fun p e R s m args below meth c H locs cells slots lj Q0 hF hD kk => lv_iconst hF.1 hF.2.1 hd rfl kk) k
theorem i8_of {n : Int} (h1 : -128 ≤ n) (h2 : n ≤ 127) : (Int8.ofInt n).toInt32 = Int32.ofInt n := by
  rw [← Int32.ofInt_int8ToInt, Int8.toInt_ofInt_of_le (by omega) (by omega)]
theorem i16_of {n : Int} (h1 : -32768 ≤ n) (h2 : n ≤ 32767) : (Int16.ofInt n).toInt32 = Int32.ofInt n := by
  rw [← Int32.ofInt_int16ToInt, Int16.toInt_ofInt_of_le (by omega) (by omega)]
theorem ev_bipush (pc : Nat) {n : Int} (hd : decode mm.2.1 pc = .ok (.bipush n, 2)) (hr : -128 ≤ n ∧ n ≤ 127) (k : Ev l g mm d bc bs Z I P (pc + 2) ls (vI n :: st) Q) : Ev l g mm d bc bs Z I P pc ls st Q :=
  Ev.step (fun _ h2 => ok_cI (show InR n from ⟨by omega, by omega⟩) h2) (fun p e R s m args below meth c H locs cells slots lj Q0 hF hD kk => lv_bipush hF.1 hF.2.1 hd (i8_of hr.1 hr.2) kk) k
theorem ev_sipush (pc : Nat) {n : Int} (hd : decode mm.2.1 pc = .ok (.sipush n, 3)) (hr : -32768 ≤ n ∧ n ≤ 32767) (k : Ev l g mm d bc bs Z I P (pc + 3) ls (vI n :: st) Q) : Ev l g mm d bc bs Z I P pc ls st Q :=
  Ev.step (fun _ h2 => ok_cI (show InR n from ⟨by omega, by omega⟩) h2) (fun p e R s m args below meth c H locs cells slots lj Q0 hF hD kk => lv_sipush hF.1 hF.2.1 hd (i16_of hr.1 hr.2) kk) k
theorem ev_lconst0 (pc : Nat) (hd : decode mm.2.1 pc = .ok (.lconst 0, 1)) (k : Ev l g mm d bc bs Z I P (pc + 1) ls (vL 0 :: st) Q) : Ev l g mm d bc bs Z I P pc ls st Q :=
  Ev.step (fun _ h2 => ok_cL (show InL 0 from ⟨by omega, by omega⟩) h2) (fun p e R s m args below meth c H locs cells slots lj Q0 hF hD kk => lv_lconst hF.1 hF.2.1 hd rfl kk) k
theorem ev_lconst1 (pc : Nat) (hd : decode mm.2.1 pc = .ok (.lconst 1, 1)) (k : Ev l g mm d bc bs Z I P (pc + 1) ls (vL 1 :: st) Q) : Ev l g mm d bc bs Z I P pc ls st Q :=
  Ev.step (fun _ h2 => ok_cL (show InL 1 from ⟨by omega, by omega⟩) h2) (fun p e R s m args below meth c H locs cells slots lj Q0 hF hD kk => lv_lconst hF.1 hF.2.1 hd rfl kk) k
theorem ev_ldc (pc : Nat) {n : Int} {ix : Nat} (hd : decode mm.2.1 pc = .ok (.ldc ix, 2)) (hc : Jvm.Cond.constant mm.1.cls ix (Int32.ofInt n) ∈ tbl) (hr : InR n) (k : Ev l g mm d bc bs Z I P (pc + 2) ls (vI n :: st) Q) : Ev l g mm d bc bs Z I P pc ls st Q :=
  Ev.step (fun _ h2 => ok_cI hr h2) (fun p e R s m args below meth c H locs cells slots lj Q0 hF hD kk => lv_ldc hF.1 hF.2.1 hF.2.2.2.2.2.2.2.1 (hF.2.2.2.2.2.2.1 _ hc) hd kk) k
theorem ev_ldcw (pc : Nat) {n : Int} {ix : Nat} (hd : decode mm.2.1 pc = .ok (.ldc_w ix, 3)) (hc : Jvm.Cond.constant mm.1.cls ix (Int32.ofInt n) ∈ tbl) (hr : InR n) (k : Ev l g mm d bc bs Z I P (pc + 3) ls (vI n :: st) Q) : Ev l g mm d bc bs Z I P pc ls st Q :=
  Ev.step (fun _ h2 => ok_cI hr h2) (fun p e R s m args below meth c H locs cells slots lj Q0 hF hD kk => lv_ldcw hF.1 hF.2.1 hF.2.2.2.2.2.2.2.1 (hF.2.2.2.2.2.2.1 _ hc) hd kk) k
theorem ev_ldc2 (pc : Nat) {n : Int} {ix : Nat} (hd : decode mm.2.1 pc = .ok (.ldc2_w ix, 3)) (hc : Jvm.Cond.constantLong mm.1.cls ix (Int64.ofInt n) ∈ tbl) (hr : InL n) (k : Ev l g mm d bc bs Z I P (pc + 3) ls (vL n :: st) Q) : Ev l g mm d bc bs Z I P pc ls st Q :=
  Ev.step (fun _ h2 => ok_cL hr h2) (fun p e R s m args below meth c H locs cells slots lj Q0 hF hD kk => lv_ldc2 hF.1 hF.2.1 hF.2.2.2.2.2.2.2.1 (hF.2.2.2.2.2.2.1 _ hc) hd kk) k
theorem ev_null (pc : Nat) (hd : decode mm.2.1 pc = .ok (.aconst_null, 1)) (k : Ev l g mm d bc bs Z I P (pc + 1) ls (vN :: st) Q) : Ev l g mm d bc bs Z I P pc ls st Q :=
  Ev.step (fun _ h2 => ok_cN h2) (fun p e R s m args below meth c H locs cells slots lj Q0 hF hD kk => lv_null hF.1 hF.2.1 hd kk) k
theorem ev_iadd (pc : Nat) {x y : Int} (hd : decode mm.2.1 pc = .ok (.iadd, 1)) (hr : InR (x + y)) (k : Ev l g mm d bc bs Z I P (pc + 1) ls (vI (x + y) :: st) Q) : Ev l g mm d bc bs Z I P pc ls (vI y :: vI x :: st) Q :=
  Ev.step (fun _ h2 => ok_cI hr (ok_t (ok_t h2))) (fun p e R s m args below meth c H locs cells slots lj Q0 hF hD kk => lv_iadd hF.1 hF.2.1 hd (by rw [← Int32.ofInt_add]; exact kk)) k
theorem ev_isub (pc : Nat) {x y : Int} (hd : decode mm.2.1 pc = .ok (.isub, 1)) (hr : InR (x - y)) (k : Ev l g mm d bc bs Z I P (pc + 1) ls (vI (x - y) :: st) Q) : Ev l g mm d bc bs Z I P pc ls (vI y :: vI x :: st) Q :=
  Ev.step (fun _ h2 => ok_cI hr (ok_t (ok_t h2))) (fun p e R s m args below meth c H locs cells slots lj Q0 hF hD kk => lv_isub hF.1 hF.2.1 hd (by rw [← Int32.ofInt_sub]; exact kk)) k
theorem ev_imul (pc : Nat) {x y : Int} (hd : decode mm.2.1 pc = .ok (.imul, 1)) (hr : InR (x * y)) (k : Ev l g mm d bc bs Z I P (pc + 1) ls (vI (x * y) :: st) Q) : Ev l g mm d bc bs Z I P pc ls (vI y :: vI x :: st) Q :=
  Ev.step (fun _ h2 => ok_cI hr (ok_t (ok_t h2))) (fun p e R s m args below meth c H locs cells slots lj Q0 hF hD kk => lv_imul hF.1 hF.2.1 hd (by rw [← Int32.ofInt_mul]; exact kk)) k
theorem ev_ladd (pc : Nat) {x y : Int} (hd : decode mm.2.1 pc = .ok (.ladd, 1)) (hr : InL (x + y)) (k : Ev l g mm d bc bs Z I P (pc + 1) ls (vL (x + y) :: st) Q) : Ev l g mm d bc bs Z I P pc ls (vL y :: vL x :: st) Q :=
  Ev.step (fun _ h2 => ok_cL hr (ok_t (ok_t h2))) (fun p e R s m args below meth c H locs cells slots lj Q0 hF hD kk => lv_ladd hF.1 hF.2.1 hd (by rw [← Int64.ofInt_add]; exact kk)) k
theorem ev_lmul (pc : Nat) {x y : Int} (hd : decode mm.2.1 pc = .ok (.lmul, 1)) (hr : InL (x * y)) (k : Ev l g mm d bc bs Z I P (pc + 1) ls (vL (x * y) :: st) Q) : Ev l g mm d bc bs Z I P pc ls (vL y :: vL x :: st) Q :=
  Ev.step (fun _ h2 => ok_cL hr (ok_t (ok_t h2))) (fun p e R s m args below meth c H locs cells slots lj Q0 hF hD kk => lv_lmul hF.1 hF.2.1 hd (by rw [← Int64.ofInt_mul]; exact kk)) k
theorem i_div {x y : Int} (hx : InR x) (hy : InR y) (h : InR (x.tdiv y)) : Int32.ofInt x / Int32.ofInt y = Int32.ofInt (x.tdiv y) := by
  rw [← Int32.toInt_inj, Int32.toInt_div, i_to hx, i_to hy, i_to h]
  have := h.1; have := h.2
  rw [Int.bmod_eq_of_le] <;> omega
theorem l_div {x y : Int} (hx : InL x) (hy : InL y) (h : InL (x.tdiv y)) : Int64.ofInt x / Int64.ofInt y = Int64.ofInt (x.tdiv y) := by
  rw [← Int64.toInt_inj, Int64.toInt_div, l_to hx, l_to hy, l_to h]
  have := h.1; have := h.2
  rw [Int.bmod_eq_of_le] <;> omega
theorem ev_idiv (pc : Nat) {x y : Int} (hd : decode mm.2.1 pc = .ok (.idiv, 1)) (h0 : y ≠ 0) (hr : InR (x.tdiv y)) (k : Ev l g mm d bc bs Z I P (pc + 1) ls (vI (x.tdiv y) :: st) Q) : Ev l g mm d bc bs Z I P pc ls (vI y :: vI x :: st) Q :=
  Ev.step (fun _ h2 => ok_cI hr (ok_t (ok_t h2))) (fun p e R s m args below meth c H locs cells slots lj Q0 hF hD kk => by
    have hy : InR y := ok_h hD.2.2.2.2
    have hx : InR x := ok_h (ok_t hD.2.2.2.2)
    exact lv_idiv hF.1 hF.2.1 hd (fun q => h0 ((i_eq (y := 0) hy ⟨by omega, by omega⟩).mp q)) (by rw [i_div hx hy hr]; exact kk)) k
theorem ev_irem (pc : Nat) {x y : Int} (hd : decode mm.2.1 pc = .ok (.irem, 1)) (h0 : 0 < y) (k : Ev l g mm d bc bs Z I P (pc + 1) ls (vI (x.tmod y) :: st) Q) : Ev l g mm d bc bs Z I P pc ls (vI y :: vI x :: st) Q :=
  Ev.step (fun _ h2 => ok_cI (by
      have hy : InR y := ok_h h2
      have h3 := tmod_bounds (a := x) h0
      have := hy.2
      exact ⟨by omega, by omega⟩) (ok_t (ok_t h2))) (fun p e R s m args below meth c H locs cells slots lj Q0 hF hD kk => by
    have hy : InR y := ok_h hD.2.2.2.2
    have hx : InR x := ok_h (ok_t hD.2.2.2.2)
    have hq : InR (x.tdiv y) := by
      have h1 : (x.tdiv y).natAbs ≤ x.natAbs := by
        rw [Int.natAbs_tdiv]
        exact Nat.div_le_self _ _
      rcases Int.lt_or_le x 0 with hx0 | hx0
      · have h4 : x.tdiv y ≤ 0 := by
          have := Int.tdiv_nonneg (a := -x) (b := y) (by omega) (by omega)
          rw [Int.neg_tdiv] at this
          omega
        have := hx.1
        exact ⟨by omega, by omega⟩
      · have := hx.2
        exact ⟨by omega, by omega⟩
    refine lv_irem hF.1 hF.2.1 hd (fun q => by have := (i_eq (y := 0) hy ⟨by omega, by omega⟩).mp q; omega) ?_
    have e : Int32.ofInt x - Int32.ofInt x / Int32.ofInt y * Int32.ofInt y = Int32.ofInt (x.tmod y) := by
      rw [i_div hx hy hq, ← Int32.ofInt_mul, ← Int32.ofInt_sub]
      congr 1
      have := Int.mul_tdiv_add_tmod x y
      rw [Int.mul_comm (x.tdiv y) y]
      omega
    rw [e]
    exact kk) k
theorem ev_ldiv (pc : Nat) {x y : Int} (hd : decode mm.2.1 pc = .ok (.ldiv, 1)) (h0 : y ≠ 0) (hr : InL (x.tdiv y)) (k : Ev l g mm d bc bs Z I P (pc + 1) ls (vL (x.tdiv y) :: st) Q) : Ev l g mm d bc bs Z I P pc ls (vL y :: vL x :: st) Q :=
  Ev.step (fun _ h2 => ok_cL hr (ok_t (ok_t h2))) (fun p e R s m args below meth c H locs cells slots lj Q0 hF hD kk => by
    have hy : InL y := ok_h hD.2.2.2.2
    have hx : InL x := ok_h (ok_t hD.2.2.2.2)
    exact lv_ldiv hF.1 hF.2.1 hd (fun q => h0 ((l_eq (y := 0) hy ⟨by omega, by omega⟩).mp q)) (by rw [l_div hx hy hr]; exact kk)) k
theorem ev_lrem (pc : Nat) {x y : Int} (hd : decode mm.2.1 pc = .ok (.lrem, 1)) (h0 : 0 < y) (k : Ev l g mm d bc bs Z I P (pc + 1) ls (vL (x.tmod y) :: st) Q) : Ev l g mm d bc bs Z I P pc ls (vL y :: vL x :: st) Q :=
  Ev.step (fun _ h2 => ok_cL (by
      have hy : InL y := ok_h h2
      have h3 := tmod_bounds (a := x) h0
      have := hy.2
      exact ⟨by omega, by omega⟩) (ok_t (ok_t h2))) (fun p e R s m args below meth c H locs cells slots lj Q0 hF hD kk => by
    have hy : InL y := ok_h hD.2.2.2.2
    have hx : InL x := ok_h (ok_t hD.2.2.2.2)
    have hq : InL (x.tdiv y) := by
      have h1 : (x.tdiv y).natAbs ≤ x.natAbs := by
        rw [Int.natAbs_tdiv]
        exact Nat.div_le_self _ _
      rcases Int.lt_or_le x 0 with hx0 | hx0
      · have h4 : x.tdiv y ≤ 0 := by
          have := Int.tdiv_nonneg (a := -x) (b := y) (by omega) (by omega)
          rw [Int.neg_tdiv] at this
          omega
        have := hx.1
        exact ⟨by omega, by omega⟩
      · have := hx.2
        exact ⟨by omega, by omega⟩
    refine lv_lrem hF.1 hF.2.1 hd (fun q => by have := (l_eq (y := 0) hy ⟨by omega, by omega⟩).mp q; omega) ?_
    have e : Int64.ofInt x - Int64.ofInt x / Int64.ofInt y * Int64.ofInt y = Int64.ofInt (x.tmod y) := by
      rw [l_div hx hy hq, ← Int64.ofInt_mul, ← Int64.ofInt_sub]
      congr 1
      have := Int.mul_tdiv_add_tmod x y
      rw [Int.mul_comm (x.tdiv y) y]
      omega
    rw [e]
    exact kk) k
theorem i_l {x : Int} (h : InR x) : (Int32.ofInt x).toInt64 = Int64.ofInt x := by
  rw [← Int64.toInt_inj, Int32.toInt_toInt64, i_to h, l_to ⟨by have := h.1; omega, by have := h.2; omega⟩]
theorem l_i {x : Int} (h : InR x) : (Int64.ofInt x).toInt32 = Int32.ofInt x := by
  rw [← Int32.ofInt_int64ToInt, l_to ⟨by have := h.1; omega, by have := h.2; omega⟩]
theorem ev_i2l (pc : Nat) {x : Int} (hd : decode mm.2.1 pc = .ok (.i2l, 1)) (k : Ev l g mm d bc bs Z I P (pc + 1) ls (vL x :: st) Q) : Ev l g mm d bc bs Z I P pc ls (vI x :: st) Q :=
  Ev.step (fun _ h2 => ok_cL (by have h : InR x := ok_h h2; exact ⟨by have := h.1; omega, by have := h.2; omega⟩) (ok_t h2)) (fun p e R s m args below meth c H locs cells slots lj Q0 hF hD kk => lv_i2l hF.1 hF.2.1 hd (i_l (ok_h hD.2.2.2.2)) kk) k
theorem ev_l2i (pc : Nat) {x : Int} (hd : decode mm.2.1 pc = .ok (.l2i, 1)) (hr : InR x) (k : Ev l g mm d bc bs Z I P (pc + 1) ls (vI x :: st) Q) : Ev l g mm d bc bs Z I P pc ls (vL x :: st) Q :=
  Ev.step (fun _ h2 => ok_cI hr (ok_t h2)) (fun p e R s m args below meth c H locs cells slots lj Q0 hF hD kk => lv_l2i hF.1 hF.2.1 hd (l_i hr) kk) k
theorem ev_i2b (pc : Nat) {x : Int} (hd : decode mm.2.1 pc = .ok (.i2b, 1)) (hr : -128 ≤ x ∧ x ≤ 127) (k : Ev l g mm d bc bs Z I P (pc + 1) ls (vI x :: st) Q) : Ev l g mm d bc bs Z I P pc ls (vI x :: st) Q :=
  Ev.step (fun _ h2 => ok_cI (ok_h h2) (ok_t h2)) (fun p e R s m args below meth c H locs cells slots lj Q0 hF hD kk => lv_i2b hF.1 hF.2.1 hd (by rw [Int32.toInt8_ofInt]; exact i8_of hr.1 hr.2) kk) k
def cmpI (x y : Int) : Int := if x < y then -1 else if x = y then 0 else 1
theorem cmp_of {x y : Int} (hx : InL x) (hy : InL y) : lg_cmp (Int64.ofInt x) (Int64.ofInt y) = Int32.ofInt (cmpI x y) := by
  unfold lg_cmp cmpI
  simp only [l_lt hx hy, l_lt hy hx, l_eq hx hy, gt_iff_lt]
  by_cases h1 : x < y
  · simp [h1, show ¬ y < x by omega]
    try (first | rfl | (intro h; omega))
  · by_cases h2 : x = y
    · subst h2; simp
      try rfl
    · simp [h1, h2, show y < x by omega]
      try rfl
theorem ev_lcmp (pc : Nat) {x y : Int} (hd : decode mm.2.1 pc = .ok (.lcmp, 1)) (k : Ev l g mm d bc bs Z I P (pc + 1) ls (vI (cmpI x y) :: st) Q) : Ev l g mm d bc bs Z I P pc ls (vL y :: vL x :: st) Q :=
  Ev.step (fun _ h2 => ok_cI (by show InR (cmpI x y); unfold cmpI; split; exact ⟨by omega, by omega⟩; split <;> exact ⟨by omega, by omega⟩) (ok_t (ok_t h2))) (fun p e R s m args below meth c H locs cells slots lj Q0 hF hD kk => W.lcmp hF.1 hF.2.1 hd (by rw [cmp_of (ok_h (ok_t hD.2.2.2.2)) (ok_h hD.2.2.2.2)]; exact kk)) k
theorem ev_dupI (pc : Nat) {x : Int} (hd : decode mm.2.1 pc = .ok (.dup, 1)) (k : Ev l g mm d bc bs Z I P (pc + 1) ls (vI x :: vI x :: st) Q) : Ev l g mm d bc bs Z I P pc ls (vI x :: st) Q :=
  Ev.step (fun _ h2 => ok_cI (ok_h h2) h2) (fun p e R s m args below meth c H locs cells slots lj Q0 hF hD kk => lv_dup hF.1 hF.2.1 hd rfl kk) k
theorem ev_dupA (pc : Nat) {x : Nat} (hd : decode mm.2.1 pc = .ok (.dup, 1)) (k : Ev l g mm d bc bs Z I P (pc + 1) ls (vA x :: vA x :: st) Q) : Ev l g mm d bc bs Z I P pc ls (vA x :: st) Q :=
  Ev.step (fun _ h2 => ok_cA h2) (fun p e R s m args below meth c H locs cells slots lj Q0 hF hD kk => lv_dup hF.1 hF.2.1 hd rfl kk) k
theorem ev_dup2 (pc : Nat) {x : Int} {a : Nat} (hd : decode mm.2.1 pc = .ok (.dup2, 1)) (k : Ev l g mm d bc bs Z I P (pc + 1) ls (vI x :: vA a :: vI x :: vA a :: st) Q) : Ev l g mm d bc bs Z I P pc ls (vI x :: vA a :: st) Q :=
  Ev.step (fun _ h2 => ok_cI (ok_h h2) (ok_cA h2)) (fun p e R s m args below meth c H locs cells slots lj Q0 hF hD kk => lv_dup2_11 hF.1 hF.2.1 hd rfl rfl kk) k
theorem ev_popI (pc : Nat) {x : Int} (hd : decode mm.2.1 pc = .ok (.pop, 1)) (k : Ev l g mm d bc bs Z I P (pc + 1) ls st Q) : Ev l g mm d bc bs Z I P pc ls (vI x :: st) Q :=
  Ev.step (fun _ h2 => ok_t h2) (fun p e R s m args below meth c H locs cells slots lj Q0 hF hD kk => lv_pop hF.1 hF.2.1 hd rfl kk) k
theorem ev_goto (pc : Nat) {off : Int} (tgt : Nat) (hd : decode mm.2.1 pc = .ok (.goto off, 3)) (ht : (pc : Int) + off = (tgt : Int)) (k : Ev l g mm d bc bs Z I P tgt ls st Q) : Ev l g mm d bc bs Z I P pc ls st Q :=
  Ev.step (fun _ h2 => h2) (fun p e R s m args below meth c H locs cells slots lj Q0 hF hD kk => lv_goto hF.1 hF.2.1 hd ht kk) k
theorem ev_ifnullA (pc : Nat) {x : Nat} {off : Int} (hd : decode mm.2.1 pc = .ok (.ifnull off, 3)) (k : Ev l g mm d bc bs Z I P (pc + 3) ls st Q) : Ev l g mm d bc bs Z I P pc ls (vA x :: st) Q :=
  Ev.step (fun _ h2 => ok_t h2) (fun p e R s m args below meth c H locs cells slots lj Q0 hF hD kk => lv_ifnull hF.1 hF.2.1 hd kk) k
theorem ev_ifnullN (pc : Nat) {off : Int} (tgt : Nat) (hd : decode mm.2.1 pc = .ok (.ifnull off, 3)) (ht : (pc : Int) + off = (tgt : Int)) (k : Ev l g mm d bc bs Z I P tgt ls st Q) : Ev l g mm d bc bs Z I P pc ls (vN :: st) Q :=
  Ev.step (fun _ h2 => ok_t h2) (fun p e R s m args below meth c H locs cells slots lj Q0 hF hD kk => lv_ifnullN hF.1 hF.2.1 hd ht kk) k
theorem ev_ifnonnullA (pc : Nat) {x : Nat} {off : Int} (tgt : Nat) (hd : decode mm.2.1 pc = .ok (.ifnonnull off, 3)) (ht : (pc : Int) + off = (tgt : Int)) (k : Ev l g mm d bc bs Z I P tgt ls st Q) : Ev l g mm d bc bs Z I P pc ls (vA x :: st) Q :=
  Ev.step (fun _ h2 => ok_t h2) (fun p e R s m args below meth c H locs cells slots lj Q0 hF hD kk => lv_ifnonnull hF.1 hF.2.1 hd ht kk) k
theorem ev_ifnonnullN (pc : Nat) {off : Int} (hd : decode mm.2.1 pc = .ok (.ifnonnull off, 3)) (k : Ev l g mm d bc bs Z I P (pc + 3) ls st Q) : Ev l g mm d bc bs Z I P pc ls (vN :: st) Q :=
  Ev.step (fun _ h2 => ok_t h2) (fun p e R s m args below meth c H locs cells slots lj Q0 hF hD kk => lv_ifnonnullN hF.1 hF.2.1 hd kk) k
theorem ev_icmp_eq (pc : Nat) {x y : Int} {off : Int} (tgt : Nat) (hd : decode mm.2.1 pc = .ok (.if_icmp .eq off, 3)) (ht : (pc : Int) + off = (tgt : Int)) (kt : x = y → Ev l g mm d bc bs Z I P tgt ls st Q) (kf : ¬ (x = y) → Ev l g mm d bc bs Z I P (pc + 3) ls st Q) : Ev l g mm d bc bs Z I P pc ls (vI y :: vI x :: st) Q :=
  Ev.br (C := x = y) (fun h => ok_t (ok_t h)) (fun p e R s m args below meth c H locs cells slots lj Q0 hF hD kt kf => by
    have hy : InR y := ok_h hD
    have hx : InR x := ok_h (ok_t hD)
    have h1 := i_lt hx hy
    have h2 := i_lt hy hx
    have h3 := i_le hx hy
    have h4 := i_le hy hx
    have h5 := i_eq hx hy
    exact lv_icmp_eq hF.1 hF.2.1 hd ht (fun q => kt (by first | exact h1.mp q | exact h2.mp q | exact h3.mp q | exact h4.mp q | exact h5.mp q | exact fun z => q (h5.mpr z) | exact Int.not_lt.mp (fun z => q (h1.mpr z)))) (fun q => kf (by first | exact fun z => q (h1.mpr z) | exact fun z => q (h2.mpr z) | exact fun z => q (h3.mpr z) | exact fun z => q (h4.mpr z) | exact fun z => q (h5.mpr z) | exact fun z => z (h5.mp q) | exact fun z => q (fun z2 => z (h5.mp z2))))) kt kf
theorem ev_if_eq (pc : Nat) {x : Int} {off : Int} (tgt : Nat) (hd : decode mm.2.1 pc = .ok (.ifCond .eq off, 3)) (ht : (pc : Int) + off = (tgt : Int)) (kt : x = 0 → Ev l g mm d bc bs Z I P tgt ls st Q) (kf : ¬ (x = 0) → Ev l g mm d bc bs Z I P (pc + 3) ls st Q) : Ev l g mm d bc bs Z I P pc ls (vI x :: st) Q :=
  Ev.br (C := x = 0) (fun h => ok_t h) (fun p e R s m args below meth c H locs cells slots lj Q0 hF hD kt kf => by
    have hx : InR x := ok_h hD
    have hy : InR 0 := ⟨by omega, by omega⟩
    have h1 : Int32.ofInt x < 0 ↔ x < 0 := i_lt hx hy
    have h2 : 0 < Int32.ofInt x ↔ 0 < x := i_lt hy hx
    have h3 : Int32.ofInt x ≤ 0 ↔ x ≤ 0 := i_le hx hy
    have h4 : 0 ≤ Int32.ofInt x ↔ 0 ≤ x := i_le hy hx
    have h5 : Int32.ofInt x = 0 ↔ x = 0 := i_eq hx hy
    exact lv_if_eq hF.1 hF.2.1 hd ht (fun q => kt (by first | exact h1.mp q | exact h2.mp q | exact h3.mp q | exact h4.mp q | exact h5.mp q | exact fun z => q (h5.mpr z) | exact Int.not_lt.mp (fun z => q (h1.mpr z)))) (fun q => kf (by first | exact fun z => q (h1.mpr z) | exact fun z => q (h2.mpr z) | exact fun z => q (h3.mpr z) | exact fun z => q (h4.mpr z) | exact fun z => q (h5.mpr z) | exact fun z => z (h5.mp q) | exact fun z => q (fun z2 => z (h5.mp z2))))) kt kf
theorem cmp_eq (x y : Int) : (cmpI x y = 0) ↔ (x = y) := by unfold cmpI; split <;> (try split) <;> omega
theorem ev_ifc_eq (pc : Nat) {x y : Int} {off : Int} (tgt : Nat) (hd : decode mm.2.1 pc = .ok (.ifCond .eq off, 3)) (ht : (pc : Int) + off = (tgt : Int)) (kt : x = y → Ev l g mm d bc bs Z I P tgt ls st Q) (kf : ¬ (x = y) → Ev l g mm d bc bs Z I P (pc + 3) ls st Q) : Ev l g mm d bc bs Z I P pc ls (vI (cmpI x y) :: st) Q :=
  ev_if_eq pc tgt hd ht (fun h => kt ((cmp_eq x y).mp h)) (fun h => kf (fun z => h ((cmp_eq x y).mpr z)))
theorem ev_icmp_ne (pc : Nat) {x y : Int} {off : Int} (tgt : Nat) (hd : decode mm.2.1 pc = .ok (.if_icmp .ne off, 3)) (ht : (pc : Int) + off = (tgt : Int)) (kt : ¬ x = y → Ev l g mm d bc bs Z I P tgt ls st Q) (kf : ¬ (¬ x = y) → Ev l g mm d bc bs Z I P (pc + 3) ls st Q) : Ev l g mm d bc bs Z I P pc ls (vI y :: vI x :: st) Q :=
  Ev.br (C := ¬ x = y) (fun h => ok_t (ok_t h)) (fun p e R s m args below meth c H locs cells slots lj Q0 hF hD kt kf => by
    have hy : InR y := ok_h hD
    have hx : InR x := ok_h (ok_t hD)
    have h1 := i_lt hx hy
    have h2 := i_lt hy hx
    have h3 := i_le hx hy
    have h4 := i_le hy hx
    have h5 := i_eq hx hy
    exact lv_icmp_ne hF.1 hF.2.1 hd ht (fun q => kt (by first | exact h1.mp q | exact h2.mp q | exact h3.mp q | exact h4.mp q | exact h5.mp q | exact fun z => q (h5.mpr z) | exact Int.not_lt.mp (fun z => q (h1.mpr z)))) (fun q => kf (by first | exact fun z => q (h1.mpr z) | exact fun z => q (h2.mpr z) | exact fun z => q (h3.mpr z) | exact fun z => q (h4.mpr z) | exact fun z => q (h5.mpr z) | exact fun z => z (h5.mp q) | exact fun z => q (fun z2 => z (h5.mp z2))))) kt kf
theorem ev_if_ne (pc : Nat) {x : Int} {off : Int} (tgt : Nat) (hd : decode mm.2.1 pc = .ok (.ifCond .ne off, 3)) (ht : (pc : Int) + off = (tgt : Int)) (kt : ¬ x = 0 → Ev l g mm d bc bs Z I P tgt ls st Q) (kf : ¬ (¬ x = 0) → Ev l g mm d bc bs Z I P (pc + 3) ls st Q) : Ev l g mm d bc bs Z I P pc ls (vI x :: st) Q :=
  Ev.br (C := ¬ x = 0) (fun h => ok_t h) (fun p e R s m args below meth c H locs cells slots lj Q0 hF hD kt kf => by
    have hx : InR x := ok_h hD
    have hy : InR 0 := ⟨by omega, by omega⟩
    have h1 : Int32.ofInt x < 0 ↔ x < 0 := i_lt hx hy
    have h2 : 0 < Int32.ofInt x ↔ 0 < x := i_lt hy hx
    have h3 : Int32.ofInt x ≤ 0 ↔ x ≤ 0 := i_le hx hy
    have h4 : 0 ≤ Int32.ofInt x ↔ 0 ≤ x := i_le hy hx
    have h5 : Int32.ofInt x = 0 ↔ x = 0 := i_eq hx hy
    exact lv_if_ne hF.1 hF.2.1 hd ht (fun q => kt (by first | exact h1.mp q | exact h2.mp q | exact h3.mp q | exact h4.mp q | exact h5.mp q | exact fun z => q (h5.mpr z) | exact Int.not_lt.mp (fun z => q (h1.mpr z)))) (fun q => kf (by first | exact fun z => q (h1.mpr z) | exact fun z => q (h2.mpr z) | exact fun z => q (h3.mpr z) | exact fun z => q (h4.mpr z) | exact fun z => q (h5.mpr z) | exact fun z => z (h5.mp q) | exact fun z => q (fun z2 => z (h5.mp z2))))) kt kf
theorem cmp_ne (x y : Int) : (¬ cmpI x y = 0) ↔ (¬ x = y) := by unfold cmpI; split <;> (try split) <;> omega
theorem ev_ifc_ne (pc : Nat) {x y : Int} {off : Int} (tgt : Nat) (hd : decode mm.2.1 pc = .ok (.ifCond .ne off, 3)) (ht : (pc : Int) + off = (tgt : Int)) (kt : ¬ x = y → Ev l g mm d bc bs Z I P tgt ls st Q) (kf : ¬ (¬ x = y) → Ev l g mm d bc bs Z I P (pc + 3) ls st Q) : Ev l g mm d bc bs Z I P pc ls (vI (cmpI x y) :: st) Q :=
  ev_if_ne pc tgt hd ht (fun h => kt ((cmp_ne x y).mp h)) (fun h => kf (fun z => h ((cmp_ne x y).mpr z)))
theorem ev_icmp_lt (pc : Nat) {x y : Int} {off : Int} (tgt : Nat) (hd : decode mm.2.1 pc = .ok (.if_icmp .lt off, 3)) (ht : (pc : Int) + off = (tgt : Int)) (kt : x < y → Ev l g mm d bc bs Z I P tgt ls st Q) (kf : ¬ (x < y) → Ev l g mm d bc bs Z I P (pc + 3) ls st Q) : Ev l g mm d bc bs Z I P pc ls (vI y :: vI x :: st) Q :=
  Ev.br (C := x < y) (fun h => ok_t (ok_t h)) (fun p e R s m args below meth c H locs cells slots lj Q0 hF hD kt kf => by
    have hy : InR y := ok_h hD
    have hx : InR x := ok_h (ok_t hD)
    have h1 := i_lt hx hy
    have h2 := i_lt hy hx
    have h3 := i_le hx hy
    have h4 := i_le hy hx
    have h5 := i_eq hx hy
    exact lv_icmp_lt hF.1 hF.2.1 hd ht (fun q => kt (by first | exact h1.mp q | exact h2.mp q | exact h3.mp q | exact h4.mp q | exact h5.mp q | exact fun z => q (h5.mpr z) | exact Int.not_lt.mp (fun z => q (h1.mpr z)))) (fun q => kf (by first | exact fun z => q (h1.mpr z) | exact fun z => q (h2.mpr z) | exact fun z => q (h3.mpr z) | exact fun z => q (h4.mpr z) | exact fun z => q (h5.mpr z) | exact fun z => z (h5.mp q) | exact fun z => q (fun z2 => z (h5.mp z2))))) kt kf
theorem ev_if_lt (pc : Nat) {x : Int} {off : Int} (tgt : Nat) (hd : decode mm.2.1 pc = .ok (.ifCond .lt off, 3)) (ht : (pc : Int) + off = (tgt : Int)) (kt : x < 0 → Ev l g mm d bc bs Z I P tgt ls st Q) (kf : ¬ (x < 0) → Ev l g mm d bc bs Z I P (pc + 3) ls st Q) : Ev l g mm d bc bs Z I P pc ls (vI x :: st) Q :=
  Ev.br (C := x < 0) (fun h => ok_t h) (fun p e R s m args below meth c H locs cells slots lj Q0 hF hD kt kf => by
    have hx : InR x := ok_h hD
    have hy : InR 0 := ⟨by omega, by omega⟩
    have h1 : Int32.ofInt x < 0 ↔ x < 0 := i_lt hx hy
    have h2 : 0 < Int32.ofInt x ↔ 0 < x := i_lt hy hx
    have h3 : Int32.ofInt x ≤ 0 ↔ x ≤ 0 := i_le hx hy
    have h4 : 0 ≤ Int32.ofInt x ↔ 0 ≤ x := i_le hy hx
    have h5 : Int32.ofInt x = 0 ↔ x = 0 := i_eq hx hy
    exact lv_if_lt hF.1 hF.2.1 hd ht (fun q => kt (by first | exact h1.mp q | exact h2.mp q | exact h3.mp q | exact h4.mp q | exact h5.mp q | exact fun z => q (h5.mpr z) | exact Int.not_lt.mp (fun z => q (h1.mpr z)))) (fun q => kf (by first | exact fun z => q (h1.mpr z) | exact fun z => q (h2.mpr z) | exact fun z => q (h3.mpr z) | exact fun z => q (h4.mpr z) | exact fun z => q (h5.mpr z) | exact fun z => z (h5.mp q) | exact fun z => q (fun z2 => z (h5.mp z2))))) kt kf
theorem cmp_lt (x y : Int) : (cmpI x y < 0) ↔ (x < y) := by unfold cmpI; split <;> (try split) <;> omega
theorem ev_ifc_lt (pc : Nat) {x y : Int} {off : Int} (tgt : Nat) (hd : decode mm.2.1 pc = .ok (.ifCond .lt off, 3)) (ht : (pc : Int) + off = (tgt : Int)) (kt : x < y → Ev l g mm d bc bs Z I P tgt ls st Q) (kf : ¬ (x < y) → Ev l g mm d bc bs Z I P (pc + 3) ls st Q) : Ev l g mm d bc bs Z I P pc ls (vI (cmpI x y) :: st) Q :=
  ev_if_lt pc tgt hd ht (fun h => kt ((cmp_lt x y).mp h)) (fun h => kf (fun z => h ((cmp_lt x y).mpr z)))
theorem ev_icmp_ge (pc : Nat) {x y : Int} {off : Int} (tgt : Nat) (hd : decode mm.2.1 pc = .ok (.if_icmp .ge off, 3)) (ht : (pc : Int) + off = (tgt : Int)) (kt : y ≤ x → Ev l g mm d bc bs Z I P tgt ls st Q) (kf : ¬ (y ≤ x) → Ev l g mm d bc bs Z I P (pc + 3) ls st Q) : Ev l g mm d bc bs Z I P pc ls (vI y :: vI x :: st) Q :=
  Ev.br (C := y ≤ x) (fun h => ok_t (ok_t h)) (fun p e R s m args below meth c H locs cells slots lj Q0 hF hD kt kf => by
    have hy : InR y := ok_h hD
    have hx : InR x := ok_h (ok_t hD)
    have h1 := i_lt hx hy
    have h2 := i_lt hy hx
    have h3 := i_le hx hy
    have h4 := i_le hy hx
    have h5 := i_eq hx hy
    exact lv_icmp_ge hF.1 hF.2.1 hd ht (fun q => kt (by first | exact h1.mp q | exact h2.mp q | exact h3.mp q | exact h4.mp q | exact h5.mp q | exact fun z => q (h5.mpr z) | exact Int.not_lt.mp (fun z => q (h1.mpr z)))) (fun q => kf (by first | exact fun z => q (h1.mpr z) | exact fun z => q (h2.mpr z) | exact fun z => q (h3.mpr z) | exact fun z => q (h4.mpr z) | exact fun z => q (h5.mpr z) | exact fun z => z (h5.mp q) | exact fun z => q (fun z2 => z (h5.mp z2))))) kt kf
theorem ev_if_ge (pc : Nat) {x : Int} {off : Int} (tgt : Nat) (hd : decode mm.2.1 pc = .ok (.ifCond .ge off, 3)) (ht : (pc : Int) + off = (tgt : Int)) (kt : 0 ≤ x → Ev l g mm d bc bs Z I P tgt ls st Q) (kf : ¬ (0 ≤ x) → Ev l g mm d bc bs Z I P (pc + 3) ls st Q) : Ev l g mm d bc bs Z I P pc ls (vI x :: st) Q :=
  Ev.br (C := 0 ≤ x) (fun h => ok_t h) (fun p e R s m args below meth c H locs cells slots lj Q0 hF hD kt kf => by
    have hx : InR x := ok_h hD
    have hy : InR 0 := ⟨by omega, by omega⟩
    have h1 : Int32.ofInt x < 0 ↔ x < 0 := i_lt hx hy
    have h2 : 0 < Int32.ofInt x ↔ 0 < x := i_lt hy hx
    have h3 : Int32.ofInt x ≤ 0 ↔ x ≤ 0 := i_le hx hy
    have h4 : 0 ≤ Int32.ofInt x ↔ 0 ≤ x := i_le hy hx
    have h5 : Int32.ofInt x = 0 ↔ x = 0 := i_eq hx hy
    exact lv_if_ge hF.1 hF.2.1 hd ht (fun q => kt (by first | exact h1.mp q | exact h2.mp q | exact h3.mp q | exact h4.mp q | exact h5.mp q | exact fun z => q (h5.mpr z) | exact Int.not_lt.mp (fun z => q (h1.mpr z)))) (fun q => kf (by first | exact fun z => q (h1.mpr z) | exact fun z => q (h2.mpr z) | exact fun z => q (h3.mpr z) | exact fun z => q (h4.mpr z) | exact fun z => q (h5.mpr z) | exact fun z => z (h5.mp q) | exact fun z => q (fun z2 => z (h5.mp z2))))) kt kf
theorem cmp_ge (x y : Int) : (0 ≤ cmpI x y) ↔ (y ≤ x) := by unfold cmpI; split <;> (try split) <;> omega
theorem ev_ifc_ge (pc : Nat) {x y : Int} {off : Int} (tgt : Nat) (hd : decode mm.2.1 pc = .ok (.ifCond .ge off, 3)) (ht : (pc : Int) + off = (tgt : Int)) (kt : y ≤ x → Ev l g mm d bc bs Z I P tgt ls st Q) (kf : ¬ (y ≤ x) → Ev l g mm d bc bs Z I P (pc + 3) ls st Q) : Ev l g mm d bc bs Z I P pc ls (vI (cmpI x y) :: st) Q :=
  ev_if_ge pc tgt hd ht (fun h => kt ((cmp_ge x y).mp h)) (fun h => kf (fun z => h ((cmp_ge x y).mpr z)))
theorem ev_icmp_gt (pc : Nat) {x y : Int} {off : Int} (tgt : Nat) (hd : decode mm.2.1 pc = .ok (.if_icmp .gt off, 3)) (ht : (pc : Int) + off = (tgt : Int)) (kt : y < x → Ev l g mm d bc bs Z I P tgt ls st Q) (kf : ¬ (y < x) → Ev l g mm d bc bs Z I P (pc + 3) ls st Q) : Ev l g mm d bc bs Z I P pc ls (vI y :: vI x :: st) Q :=
  Ev.br (C := y < x) (fun h => ok_t (ok_t h)) (fun p e R s m args below meth c H locs cells slots lj Q0 hF hD kt kf => by
    have hy : InR y := ok_h hD
    have hx : InR x := ok_h (ok_t hD)
    have h1 := i_lt hx hy
    have h2 := i_lt hy hx
    have h3 := i_le hx hy
    have h4 := i_le hy hx
    have h5 := i_eq hx hy
    exact lv_icmp_gt hF.1 hF.2.1 hd ht (fun q => kt (by first | exact h1.mp q | exact h2.mp q | exact h3.mp q | exact h4.mp q | exact h5.mp q | exact fun z => q (h5.mpr z) | exact Int.not_lt.mp (fun z => q (h1.mpr z)))) (fun q => kf (by first | exact fun z => q (h1.mpr z) | exact fun z => q (h2.mpr z) | exact fun z => q (h3.mpr z) | exact fun z => q (h4.mpr z) | exact fun z => q (h5.mpr z) | exact fun z => z (h5.mp q) | exact fun z => q (fun z2 => z (h5.mp z2))))) kt kf
theorem ev_if_gt (pc : Nat) {x : Int} {off : Int} (tgt : Nat) (hd : decode mm.2.1 pc = .ok (.ifCond .gt off, 3)) (ht : (pc : Int) + off = (tgt : Int)) (kt : 0 < x → Ev l g mm d bc bs Z I P tgt ls st Q) (kf : ¬ (0 < x) → Ev l g mm d bc bs Z I P (pc + 3) ls st Q) : Ev l g mm d bc bs Z I P pc ls (vI x :: st) Q :=
  Ev.br (C := 0 < x) (fun h => ok_t h) (fun p e R s m args below meth c H locs cells slots lj Q0 hF hD kt kf => by
    have hx : InR x := ok_h hD
    have hy : InR 0 := ⟨by omega, by omega⟩
    have h1 : Int32.ofInt x < 0 ↔ x < 0 := i_lt hx hy
    have h2 : 0 < Int32.ofInt x ↔ 0 < x := i_lt hy hx
    have h3 : Int32.ofInt x ≤ 0 ↔ x ≤ 0 := i_le hx hy
    have h4 : 0 ≤ Int32.ofInt x ↔ 0 ≤ x := i_le hy hx
    have h5 : Int32.ofInt x = 0 ↔ x = 0 := i_eq hx hy
    exact lv_if_gt hF.1 hF.2.1 hd ht (fun q => kt (by first | exact h1.mp q | exact h2.mp q | exact h3.mp q | exact h4.mp q | exact h5.mp q | exact fun z => q (h5.mpr z) | exact Int.not_lt.mp (fun z => q (h1.mpr z)))) (fun q => kf (by first | exact fun z => q (h1.mpr z) | exact fun z => q (h2.mpr z) | exact fun z => q (h3.mpr z) | exact fun z => q (h4.mpr z) | exact fun z => q (h5.mpr z) | exact fun z => z (h5.mp q) | exact fun z => q (fun z2 => z (h5.mp z2))))) kt kf
theorem cmp_gt (x y : Int) : (0 < cmpI x y) ↔ (y < x) := by unfold cmpI; split <;> (try split) <;> omega
theorem ev_ifc_gt (pc : Nat) {x y : Int} {off : Int} (tgt : Nat) (hd : decode mm.2.1 pc = .ok (.ifCond .gt off, 3)) (ht : (pc : Int) + off = (tgt : Int)) (kt : y < x → Ev l g mm d bc bs Z I P tgt ls st Q) (kf : ¬ (y < x) → Ev l g mm d bc bs Z I P (pc + 3) ls st Q) : Ev l g mm d bc bs Z I P pc ls (vI (cmpI x y) :: st) Q :=
  ev_if_gt pc tgt hd ht (fun h => kt ((cmp_gt x y).mp h)) (fun h => kf (fun z => h ((cmp_gt x y).mpr z)))
theorem ev_icmp_le (pc : Nat) {x y : Int} {off : Int} (tgt : Nat) (hd : decode mm.2.1 pc = .ok (.if_icmp .le off, 3)) (ht : (pc : Int) + off = (tgt : Int)) (kt : x ≤ y → Ev l g mm d bc bs Z I P tgt ls st Q) (kf : ¬ (x ≤ y) → Ev l g mm d bc bs Z I P (pc + 3) ls st Q) : Ev l g mm d bc bs Z I P pc ls (vI y :: vI x :: st) Q :=
  Ev.br (C := x ≤ y) (fun h => ok_t (ok_t h)) (fun p e R s m args below meth c H locs cells slots lj Q0 hF hD kt kf => by
    have hy : InR y := ok_h hD
    have hx : InR x := ok_h (ok_t hD)
    have h1 := i_lt hx hy
    have h2 := i_lt hy hx
    have h3 := i_le hx hy
    have h4 := i_le hy hx
    have h5 := i_eq hx hy
    exact lv_icmp_le hF.1 hF.2.1 hd ht (fun q => kt (by first | exact h1.mp q | exact h2.mp q | exact h3.mp q | exact h4.mp q | exact h5.mp q | exact fun z => q (h5.mpr z) | exact Int.not_lt.mp (fun z => q (h1.mpr z)))) (fun q => kf (by first | exact fun z => q (h1.mpr z) | exact fun z => q (h2.mpr z) | exact fun z => q (h3.mpr z) | exact fun z => q (h4.mpr z) | exact fun z => q (h5.mpr z) | exact fun z => z (h5.mp q) | exact fun z => q (fun z2 => z (h5.mp z2))))) kt kf
theorem ev_if_le (pc : Nat) {x : Int} {off : Int} (tgt : Nat) (hd : decode mm.2.1 pc = .ok (.ifCond .le off, 3)) (ht : (pc : Int) + off = (tgt : Int)) (kt : x ≤ 0 → Ev l g mm d bc bs Z I P tgt ls st Q) (kf : ¬ (x ≤ 0) → Ev l g mm d bc bs Z I P (pc + 3) ls st Q) : Ev l g mm d bc bs Z I P pc ls (vI x :: st) Q :=
  Ev.br (C := x ≤ 0) (fun h => ok_t h) (fun p e R s m args below meth c H locs cells slots lj Q0 hF hD kt kf => by
    have hx : InR x := ok_h hD
    have hy : InR 0 := ⟨by omega, by omega⟩
    have h1 : Int32.ofInt x < 0 ↔ x < 0 := i_lt hx hy
    have h2 : 0 < Int32.ofInt x ↔ 0 < x := i_lt hy hx
    have h3 : Int32.ofInt x ≤ 0 ↔ x ≤ 0 := i_le hx hy
    have h4 : 0 ≤ Int32.ofInt x ↔ 0 ≤ x := i_le hy hx
    have h5 : Int32.ofInt x = 0 ↔ x = 0 := i_eq hx hy
    exact lv_if_le hF.1 hF.2.1 hd ht (fun q => kt (by first | exact h1.mp q | exact h2.mp q | exact h3.mp q | exact h4.mp q | exact h5.mp q | exact fun z => q (h5.mpr z) | exact Int.not_lt.mp (fun z => q (h1.mpr z)))) (fun q => kf (by first | exact fun z => q (h1.mpr z) | exact fun z => q (h2.mpr z) | exact fun z => q (h3.mpr z) | exact fun z => q (h4.mpr z) | exact fun z => q (h5.mpr z) | exact fun z => z (h5.mp q) | exact fun z => q (fun z2 => z (h5.mp z2))))) kt kf
theorem cmp_le (x y : Int) : (cmpI x y ≤ 0) ↔ (x ≤ y) := by unfold cmpI; split <;> (try split) <;> omega
theorem ev_ifc_le (pc : Nat) {x y : Int} {off : Int} (tgt : Nat) (hd : decode mm.2.1 pc = .ok (.ifCond .le off, 3)) (ht : (pc : Int) + off = (tgt : Int)) (kt : x ≤ y → Ev l g mm d bc bs Z I P tgt ls st Q) (kf : ¬ (x ≤ y) → Ev l g mm d bc bs Z I P (pc + 3) ls st Q) : Ev l g mm d bc bs Z I P pc ls (vI (cmpI x y) :: st) Q :=
  ev_if_le pc tgt hd ht (fun h => kt ((cmp_le x y).mp h)) (fun h => kf (fun z => h ((cmp_le x y).mpr z)))
/-- a truth value as a whole number -/
noncomputable def b2 (c : Prop) : Int := @ite Int c (Classical.propDecidable c) 1 0
theorem b2_t {c : Prop} (h : c) : b2 c = 1 := by unfold b2; exact if_pos h
theorem b2_f {c : Prop} (h : ¬ c) : b2 c = 0 := by unfold b2; exact if_neg h
theorem b2_0 (c : Prop) : b2 c = 0 ↔ ¬ c := ⟨fun h hc => by rw [b2_t hc] at h; omega, b2_f⟩
theorem b2_1 (c : Prop) : b2 c = 1 ↔ c := ⟨fun h => Classical.byContradiction fun hc => by rw [b2_f hc] at h; omega, b2_t⟩
theorem b2_or (c : Prop) : b2 c = 0 ∨ b2 c = 1 := by by_cases h : c; right; exact b2_t h; left; exact b2_f h
theorem b2_c {a b : Prop} (h : a ↔ b) : b2 a = b2 b := by rw [show a = b from propext h]
theorem ev_ifb_eq (pc : Nat) {c : Prop} {off : Int} (tgt : Nat) (hd : decode mm.2.1 pc = .ok (.ifCond .eq off, 3)) (ht : (pc : Int) + off = (tgt : Int)) (kt : ¬ c → Ev l g mm d bc bs Z I P tgt ls st Q) (kf : c → Ev l g mm d bc bs Z I P (pc + 3) ls st Q) : Ev l g mm d bc bs Z I P pc ls (vI (b2 c) :: st) Q :=
  ev_if_eq pc tgt hd ht (fun h => kt ((b2_0 c).mp h)) (fun h => kf (Classical.byContradiction fun hc => h ((b2_0 c).mpr hc)))
theorem ev_ifb_ne (pc : Nat) {c : Prop} {off : Int} (tgt : Nat) (hd : decode mm.2.1 pc = .ok (.ifCond .ne off, 3)) (ht : (pc : Int) + off = (tgt : Int)) (kt : c → Ev l g mm d bc bs Z I P tgt ls st Q) (kf : ¬ c → Ev l g mm d bc bs Z I P (pc + 3) ls st Q) : Ev l g mm d bc bs Z I P pc ls (vI (b2 c) :: st) Q :=
  ev_if_ne pc tgt hd ht (fun h => kt (Classical.byContradiction fun hc => h ((b2_0 c).mpr hc))) (fun h => kf (fun hc => h (fun z => (b2_0 c).mp z hc)))
theorem ev_tswIn (pc : Nat) {x dflt lo hi off : Int} {offs : Array Int} {len : Nat} (tgt : Nat) (hd : decode mm.2.1 pc = .ok (.tableswitch dflt lo hi offs, len)) (h1 : lo ≤ x) (h2 : x ≤ hi) (ho : offs[(x - lo).toNat]? = some off) (ht : (pc : Int) + off = (tgt : Int)) (k : Ev l g mm d bc bs Z I P tgt ls st Q) : Ev l g mm d bc bs Z I P pc ls (vI x :: st) Q :=
  Ev.step (fun _ h2 => ok_t h2) (fun p e R s m args below meth c H locs cells slots lj Q0 hF hD kk => lv_tableIn (x := Int32.ofInt x) hF.1 hF.2.1 hd (by rw [i_to (ok_h hD.2.2.2.2)]; omega) (by rw [i_to (ok_h hD.2.2.2.2)]; omega) (by rw [i_to (ok_h hD.2.2.2.2)]; exact ho) ht kk) k
theorem ev_tswOut (pc : Nat) {x dflt lo hi : Int} {offs : Array Int} {len : Nat} (tgt : Nat) (hd : decode mm.2.1 pc = .ok (.tableswitch dflt lo hi offs, len)) (h : x < lo ∨ hi < x) (ht : (pc : Int) + dflt = (tgt : Int)) (k : Ev l g mm d bc bs Z I P tgt ls st Q) : Ev l g mm d bc bs Z I P pc ls (vI x :: st) Q :=
  Ev.step (fun _ h2 => ok_t h2) (fun p e R s m args below meth c H locs cells slots lj Q0 hF hD kk => lv_tableOut (x := Int32.ofInt x) hF.1 hF.2.1 hd (by rw [i_to (ok_h hD.2.2.2.2)]; exact h) ht kk) k
theorem ev_lsw (pc : Nat) {x dflt : Int} {ps : Array (Int × Int)} {len : Nat} {off : Int} (tgt : Nat) (hd : decode mm.2.1 pc = .ok (.lookupswitch dflt ps, len)) (hp : (ps.toList.zip (ps.toList.drop 1)).all (fun (a, next) => a.1 < next.1) = true) (ho : Op.lookupswitch.offset ps.toList dflt x = off) (ht : (pc : Int) + off = (tgt : Int)) (k : Ev l g mm d bc bs Z I P tgt ls st Q) : Ev l g mm d bc bs Z I P pc ls (vI x :: st) Q :=
  Ev.step (fun _ h2 => ok_t h2) (fun p e R s m args below meth c H locs cells slots lj Q0 hF hD kk => lv_lookup (x := Int32.ofInt x) hF.1 hF.2.1 hd hp (by rw [i_to (ok_h hD.2.2.2.2)]; exact ho) ht kk) k
/-- what the frame's numbers are: in range -/
theorem ev_rng {x : Int} {pc : Nat} (k : InR x → Ev l g mm d bc bs Z I P pc ls (vI x :: st) Q) : Ev l g mm d bc bs Z I P pc ls (vI x :: st) Q := by
  intro p e R s m args below meth c H locs cells slots lj hF hD hc hs
  exact k (ok_h hD.2.2.2.2) p e R s m args below meth c H locs cells slots lj hF hD hc hs
theorem ev_rngl {i : Nat} {x : Int} {pc : Nat} (hi : ls[i]? = some (vI x)) (k : InR x → Ev l g mm d bc bs Z I P pc ls st Q) : Ev l g mm d bc bs Z I P pc ls st Q := by
  intro p e R s m args below meth c H locs cells slots lj hF hD hc hs
  exact k (ok_at (i := i) hD.2.2.2.1 hi) p e R s m args below meth c H locs cells slots lj hF hD hc hs
/-- fewer locals known -/
theorem ev_forget {ls' : List Vv} {pc : Nat} (h : ∀ (i : Nat) (v : Vv), ls'[i]? = some v → isJ v = false → ls[i]? = some v) (k : Ev l g mm d bc bs Z I P pc ls' st Q) : Ev l g mm d bc bs Z I P pc ls st Q := by
  intro p e R s m args below meth c H locs cells slots lj hF hD hc hs
  refine k p e R s m args below meth c H locs cells slots lj hF ⟨hD.1, hD.2.1, lv_to hD.2.2.1 (fun i v h1 h2 => by simpa using lvFrom_mem g ls 0 i v (h i v h1 h2) h2), fun v hv => ?_, hD.2.2.2.2⟩ hc hs
  obtain ⟨i, hi⟩ := List.getElem?_of_mem hv
  by_cases hj : isJ v = false
  · exact ok_at hD.2.2.2.1 (h i v hi hj)
  · rcases v with x | x | _ | _
    · exact absurd rfl hj
    · exact absurd rfl hj
    · exact trivial
    · exact trivial
theorem fg_n {ls : List Vv} : ∀ (i : Nat) (v : Vv), ([] : List Vv)[i]? = some v → isJ v = false → ls[i]? = some v := fun i v h => by simp at h
theorem fg_k {a : Vv} {l1 l2 : List Vv} (h : ∀ (i : Nat) (v : Vv), l1[i]? = some v → isJ v = false → l2[i]? = some v) : ∀ (i : Nat) (v : Vv), (a :: l1)[i]? = some v → isJ v = false → (a :: l2)[i]? = some v := fun i v => match i with
  | 0 => fun h1 _ => by simpa using h1
  | i + 1 => fun h1 h2 => by simpa using h i v (by simpa using h1) h2
theorem fg_x {a : Vv} {l1 l2 : List Vv} (h : ∀ (i : Nat) (v : Vv), l1[i]? = some v → isJ v = false → l2[i]? = some v) : ∀ (i : Nat) (v : Vv), (vX :: l1)[i]? = some v → isJ v = false → (a :: l2)[i]? = some v := fun i v => match i with
  | 0 => fun h1 h2 => by simp at h1; subst h1; cases h2
  | i + 1 => fun h1 h2 => by simpa using h i v (by simpa using h1) h2
end RUL
