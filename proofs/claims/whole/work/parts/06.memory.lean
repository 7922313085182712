/-! memory: fields, rows, new cells; calls and ends of methods -/
def upI (I : It) (a : Nat) (k : Int) (x : Int) : It := fun b j => if b = a ∧ j = k then x else I b j
def upP (P : Pt') (a : Nat) (k : Int) (x : Option Nat) : Pt' := fun b j => if b = a ∧ j = k then x else P b j
def nwZ (Z : Zt) (k : Nat) (len : Int) : Zt := (fun a => if a = Z.2.2 then k else Z.1 a, fun a => if a = Z.2.2 then len else Z.2.1 a, Z.2.2 + 1)
theorem upI_s (I : It) (a : Nat) (k x : Int) : upI I a k x a k = x := by simp [upI]
theorem upI_k {I : It} {a : Nat} {k x j : Int} (h : j ≠ k) : upI I a k x a j = I a j := by simp [upI, h]
theorem upI_a {I : It} {a b : Nat} {k x j : Int} (h : b ≠ a) : upI I a k x b j = I b j := by simp [upI, h]
theorem upI_A {I : It} {a b : Nat} {k x : Int} (h : b ≠ a) : upI I a k x b = I b := by funext j; simp [upI, h]
theorem upP_s (P : Pt') (a : Nat) (k : Int) (x : Option Nat) : upP P a k x a k = x := by simp [upP]
theorem upP_k {P : Pt'} {a : Nat} {k j : Int} {x : Option Nat} (h : j ≠ k) : upP P a k x a j = P a j := by simp [upP, h]
theorem upP_a {P : Pt'} {a b : Nat} {k j : Int} {x : Option Nat} (h : b ≠ a) : upP P a k x b j = P b j := by simp [upP, h]
theorem upP_A {P : Pt'} {a b : Nat} {k : Int} {x : Option Nat} (h : b ≠ a) : upP P a k x b = P b := by funext j; simp [upP, h]
theorem cOK.kept {g : Gt} {k : Nat} {len : Int} {I : Int → Int} {P : Int → Option Nat} {a : Nat} {H H1 : Heap} (h : cOK g k len I P a H) (e : H1[g0 g + a]? = H[g0 g + a]?) : cOK g k len I P a H1 := by
  unfold cOK at h ⊢
  split
  · rename_i hk; rw [if_pos hk] at h; exact ⟨h.1.kept e, by rw [e]; exact h.2⟩
  · rename_i hk; rw [if_neg hk] at h; rw [e]; exact h
theorem Rel.lt {g : Gt} {Z : Zt} {I : It} {P : Pt'} {H : Heap} (h : Rel g Z I P H) {a : Nat} (hk : Z.1 a < 19) : a < Z.2.2 := by
  rcases Nat.lt_or_ge a Z.2.2 with q | q
  · exact q
  · have := (h.2.2.2.1 a q).1; omega
theorem Rel.put {g : Gt} {Z : Zt} {I I' : It} {P P' : Pt'} {H H1 : Heap} (h : Rel g Z I P H) {a : Nat} (ha : a < Z.2.2) (z : H1.size = H.size) (oq : ∀ q : Nat, q ≠ g0 g + a → H1[q]? = H[q]?)
    (hc : cOK g (Z.1 a) (Z.2.1 a) (I' a) (P' a) a H1) (hI : ∀ b, b ≠ a → I' b = I b) (hP : ∀ b, b ≠ a → P' b = P b) (hr : ∀ i, rgOK (Z.1 a) (I' a i)) : Rel g Z I' P' H1 := by
  obtain ⟨h1, h2, h3, h4, h5, h6⟩ := h
  refine ⟨z.trans h1, fun q hq => (oq q (by omega)).trans (h2 q hq), fun b hb => ⟨(h3 b hb).1, ?_⟩, fun b hb => ?_, fun b i => ?_, h6⟩
  · by_cases e : b = a
    · subst e; exact hc
    · rw [hI b e, hP b e]; exact (h3 b hb).2.kept (oq _ (by omega))
  · have e : b ≠ a := by omega
    rw [hI b e, hP b e]; exact h4 b hb
  · by_cases e : b = a
    · subst e; exact hr i
    · rw [hI b e]; exact h5 b i
theorem Rel.push {g : Gt} {Z : Zt} {I : It} {P : Pt'} {H H1 : Heap} (h : Rel g Z I P H) {k : Nat} {len : Int} (z : H1.size = H.size + 1) (oq : ∀ q : Nat, q < H.size → H1[q]? = H[q]?)
    (hk : k < 19) (hl : 0 ≤ len ∧ len ≤ 2147483647) (hc : cOK g k len (I Z.2.2) (P Z.2.2) Z.2.2 H1) : Rel g (nwZ Z k len) I P H1 := by
  obtain ⟨h1, h2, h3, h4, h5, h6⟩ := h
  refine ⟨by show _ = g0 g + (Z.2.2 + 1); omega, fun q hq => (oq q (by omega)).trans (h2 q hq), fun b hb => ?_, fun b hb => ?_, fun b i => ?_, fun b => ?_⟩
  · by_cases e : b = Z.2.2
    · subst e
      simp only [nwZ, if_true]
      exact ⟨hk, hc⟩
    · have hb' : b < Z.2.2 := by have : b < Z.2.2 + 1 := hb; omega
      simp only [nwZ, if_neg e]
      exact ⟨(h3 b hb').1, (h3 b hb').2.kept (oq _ (by omega))⟩
  · have hb' : Z.2.2 + 1 ≤ b := hb
    have e : b ≠ Z.2.2 := by omega
    simp only [nwZ, if_neg e]
    exact h4 b (by omega)
  · by_cases e : b = Z.2.2
    · subst e
      simp only [nwZ, if_true]
      rw [((h4 Z.2.2 (Nat.le_refl _)).2 i).1]
      unfold rgOK; split
      · exact ⟨by omega, by omega⟩
      · exact ⟨by omega, by omega⟩
    · simp only [nwZ, if_neg e]; exact h5 b i
  · by_cases e : b = Z.2.2
    · subst e; simp only [nwZ, if_true]; exact hl
    · simp only [nwZ, if_neg e]; exact h6 b
/-- a kind of object, as the tables have it -/
def CK (ci : Nat) (C : String) (T : u_T) (N : Nat) (ty : Nat → FieldType) : Prop :=
  vwCl[ci]? = some (C, T, N) ∧ N = (fR ci).length ∧ (∀ w ∈ u_ws C T N, w ∈ tbl) ∧ (∀ k, k < N → parseFieldDescriptor (T k).2.2.1 = some (ty k)) ∧
  (∀ a, a < N → ∀ b, b < N → a ≠ b → (T a).2.1 ≠ (T b).2.1) ∧ (∀ j, j < N → defaultValue (ty j) = if isR ci j = true then .null else .int 0) ∧ ci < 13
def FA (own : String) (ix ci k : Nat) : Prop := ∃ (C : String) (T : u_T) (N : Nat) (ty : Nat → FieldType), CK ci C T N ty ∧ k < N ∧
  (Cond.fieldLink own ix (T k).1 (T k).2.1 (T k).2.2.1 ∈ tbl ∨ ∃ host, Cond.fieldLinkNest own ix (T k).1 (T k).2.1 (T k).2.2.1 host ∈ ntbl)
def FPI (own : String) (ix ci k : Nat) (t : FieldType) : Prop := ∃ (C : String) (T : u_T) (N : Nat) (ty : Nat → FieldType), CK ci C T N ty ∧ k < N ∧
  Cond.fieldLink own ix (T k).1 (T k).2.1 (T k).2.2.1 ∈ tbl ∧ ty k = t ∧ (T k).2.2.2 = false
def FPR (own : String) (ix ci k : Nat) : Prop := ∃ (C : String) (T : u_T) (N : Nat) (ty : Nat → FieldType), CK ci C T N ty ∧ k < N ∧
  Cond.fieldLink own ix (T k).1 (T k).2.1 (T k).2.2.1 ∈ tbl ∧ ((∃ n, ty k = .object n) ∨ ∃ t, ty k = .array t) ∧ ((T k).2.2.2 = false ∨ ((T k).2.2.2 = true ∧ (T k).1 = own))
theorem CK.cell {g : Gt} {Z : Zt} {I : It} {P : Pt'} {H : Heap} {ci : Nat} {C : String} {T : u_T} {N : Nat} {ty : Nat → FieldType} (h : CK ci C T N ty) (hR : Rel g Z I P H) {a : Nat} (ha : Z.1 a = ci) :
    t_OB (g0 g + a) (g.2.1.1 ci) N (g.2.1.2 ci) H (fv g ci (I a) (P a)) ∧ a < Z.2.2 := by
  have hlt : a < Z.2.2 := hR.lt (by have := h.2.2.2.2.2.2; omega)
  have h1 := (hR.2.2.1 a hlt).2
  rw [ha] at h1
  unfold cOK at h1
  rw [if_pos h.2.2.2.2.2.2, ← h.2.1] at h1
  exact ⟨h1.1, hlt⟩
section MEM
variable {l : Launch} {g : Gt} {mm : Mm} {d bc bs : Nat} {Z : Zt} {I : It} {P : Pt'} {ls st : List Vv} {Q : Qt}
theorem ev_getV (pc : Nat) {a ix ci k : Nat} {v : Vv} (hd : decode mm.2.1 pc = .ok (.getfield ix, 3)) (hf : FA mm.1.cls ix ci k) (ha : Z.1 a = ci) (hv : ∀ g, toV g v = fv g ci (I a) (P a) k) (hok : (∀ i, rgOK ci (I a i)) → okV v)
    (kk : Ev l g mm d bc bs Z I P (pc + 3) ls (v :: st) Q) : Ev l g mm d bc bs Z I P pc ls (vA a :: st) Q := by
  intro p e R s m args below meth c H locs cells slots lj hF hD hc hs
  obtain ⟨hx, hb, hml, hr, hlk, hnm, hts, hown, ⟨hK, hNw, hSW⟩, hfr, hlo⟩ := id hF
  obtain ⟨C, T, N, ty, hCK, hk, hl⟩ := hf
  obtain ⟨⟨cell, q1, q2, q3, q4⟩, hlt⟩ := hCK.cell hD.1 ha
  obtain ⟨hc1, hc2, hin, hty, hn, hdf, h13⟩ := hCK
  obtain ⟨hS, hfc, kC, hkC, hkind⟩ := hK.1 ci _ hc1
  obtain ⟨cf, kf, fi, f, hi, hsl⟩ := hS k hk
  have k1 := kk p e R s m args below meth c H locs cells slots lj hF ⟨hD.1, hD.2.1, hD.2.2.1, hD.2.2.2.1, ok_c (hok (fun i => by have := hD.1.2.2.2.2.1 a i; rw [ha] at this; exact this)) (ok_t hD.2.2.2.2)⟩ hc hs
  rcases hl with hl | ⟨host, hl⟩
  · exact W.getf hx hb hown (hts _ hl) hi (u_facts hfc hkC (u_lays hts hin hk) hi).1 q1 (by rw [q3]; exact fun h => by cases h) (v := toV g v) (by rw [hsl, q4 k hk, hv]) rfl rfl hd k1
  · exact va_Wgetf hx hb hown (va_Nw.use rfl (hNw _ hl)) hi (u_facts hfc hkC (u_lays hts hin hk) hi).1 q1 (by rw [q3]; exact fun h => by cases h) (v := toV g v) (by rw [hsl, q4 k hk, hv]) rfl rfl hd k1
theorem ev_getI (pc : Nat) {a ix ci : Nat} (k : Nat) (hd : decode mm.2.1 pc = .ok (.getfield ix, 3)) (hf : FA mm.1.cls ix ci k) (ha : Z.1 a = ci) (hv : isR ci k = false := by rfl) (h13 : Nat.ble 13 ci = false := by rfl)
    (kk : Ev l g mm d bc bs Z I P (pc + 3) ls (vI (I a k) :: st) Q) : Ev l g mm d bc bs Z I P pc ls (vA a :: st) Q :=
  ev_getV (v := vI (I a k)) pc hd hf ha (fun g => by unfold fv; rw [hv]; rfl) (fun h => by
    have h1 := h k
    have h2 : ci ≠ 16 := fun e => by subst e; cases h13
    unfold rgOK at h1
    rw [if_neg h2] at h1
    exact h1) kk
theorem ev_getA (pc : Nat) {a ix ci b : Nat} (k : Nat) (hd : decode mm.2.1 pc = .ok (.getfield ix, 3)) (hf : FA mm.1.cls ix ci k) (ha : Z.1 a = ci) (hp : P a k = some b) (hv : isR ci k = true := by rfl)
    (kk : Ev l g mm d bc bs Z I P (pc + 3) ls (vA b :: st) Q) : Ev l g mm d bc bs Z I P pc ls (vA a :: st) Q :=
  ev_getV (v := vA b) pc hd hf ha (fun g => by unfold fv; rw [hv, hp]; rfl) (fun h => trivial) kk
theorem Ev.mem {Z' : Zt} {I' : It} {P' : Pt'} {pc pc' bc' bs' : Nat} {st' : List Vv}
    (hok : (∀ v ∈ st, okV v) → ∀ v ∈ st', okV v)
    (hw : ∀ (p : Program) (e : Env) (R : Room) (s : State) (m : MethodId) (args : Array Value) (below : List Frame) (meth : Method) (c : Code) (H : Heap) (locs : List Loc) (cells slots : Nat) (lj : Array Slot) (Q0 : State → Prop),
      Fx g mm d p R s m args meth c → Rel g Z I P H → (∀ v ∈ st, okV v) → BC g Z bc s R → BS g Z bs s R →
      (∀ (H1 : Heap) (L : List Loc) (cells' slots' : Nat), Rel g Z' I' P' H1 → (∀ q ∈ L, g0 g ≤ q.base) → BC g Z' bc' s R → BS g Z' bs' s R → W p l e R s m args below meth c H1 (locs ++ L) cells' slots' Q0 (F0 m pc' lj (st'.map (toV g)))) →
      W p l e R s m args below meth c H locs cells slots Q0 (F0 m pc lj (st.map (toV g))))
    (k : Ev l g mm d bc' bs' Z' I' P' pc' ls st' Q) : Ev l g mm d bc bs Z I P pc ls st Q := by
  intro p e R s m args below meth c H locs cells slots lj hF hD hc hs
  refine hw p e R s m args below meth c H locs cells slots lj _ hF hD.1 hD.2.2.2.2 hc hs fun H1 L c' s' hR hL h1 h2 => k p e R s m args below meth c H1 (locs ++ L) c' s' lj hF ⟨hR, fun q hq => ?_, hD.2.2.1, hD.2.2.2.1, hok hD.2.2.2.2⟩ h1 h2
  rcases List.mem_append.mp hq with h | h
  · exact hD.2.1 q h
  · exact hL q h
theorem fv_set {g : Gt} {ci k : Nat} {I : Int → Int} {P : Int → Option Nat} {I' : Int → Int} {P' : Int → Option Nat} {v : Value} (h1 : fv g ci I' P' k = v) (h2 : ∀ j : Nat, j ≠ k → fv g ci I' P' j = fv g ci I P j) (j : Nat) : updV (fv g ci I P) k v j = fv g ci I' P' j := by
  by_cases e : j = k
  · subst e; simp [updV, h1]
  · simp [updV, e, h2 j e]
theorem ev_putV (pc : Nat) {a ix ci k : Nat} {v : Vv} {I' : It} {P' : Pt'} {C : String} {T : u_T} {N : Nat} {ty : Nat → FieldType} (hd : decode mm.2.1 pc = .ok (.putfield ix, 3)) (hCK : CK ci C T N ty) (hk : k < N) (hl : Cond.fieldLink mm.1.cls ix (T k).1 (T k).2.1 (T k).2.2.1 ∈ tbl)
    (hfin : (T k).2.2.2 = false ∨ ((T k).2.2.2 = true ∧ (T k).1 = mm.1.cls ∧ mm.1.name = "<init>")) (ha : Z.1 a = ci) (hn : ∀ g, narrow (ty k) (toV g v) = toV g v) (hft : ∀ g, fits (ty k) (toV g v) = true)
    (hI : ∀ b, b ≠ a → I' b = I b) (hP : ∀ b, b ≠ a → P' b = P b) (h1 : ∀ g, fv g ci (I' a) (P' a) k = toV g v) (h2 : ∀ g, ∀ j : Nat, j ≠ k → fv g ci (I' a) (P' a) j = fv g ci (I a) (P a) j) (hr : okV v → (∀ i, rgOK ci (I a i)) → ∀ i, rgOK ci (I' a i))
    (kk : Ev l g mm d bc bs Z I' P' (pc + 3) ls st Q) : Ev l g mm d bc bs Z I P pc ls (v :: vA a :: st) Q := by
  refine Ev.mem (fun h => ok_t (ok_t h)) (fun p e R s m args below meth c H locs cells slots lj Q0 hF hR hok hc hs kw => ?_) kk
  obtain ⟨hx, hb, hml, hr0, hlk, hnm, hts, hown, ⟨hK, hNw, hSW⟩, hfr, hlo⟩ := id hF
  obtain ⟨⟨cell, q1, q2, q3, q4⟩, hlt⟩ := hCK.cell hR ha
  obtain ⟨hc1, hc2, hin, hty, hnn, hdf, h13⟩ := hCK
  have hap := va_apart (own := mm.1.cls) hts hin ty hty hnn hK hc1
  obtain ⟨hS, hfc, kC, hkC, hkind⟩ := hK.1 ci _ hc1
  obtain ⟨cf, kf, fi, f, hi, hsl⟩ := hS k hk
  have hst := (u_facts hfc hkC (u_lays hts hin hk) hi).1
  have fin : ∀ H' : Heap, H'[g0 g + a]? = some (cell.setSlot f.slot (toV g v)) → H'.size = H.size → (∀ q, q ≠ g0 g + a → H'[q]? = H[q]?) → Rel g Z I' P' H' := by
    intro H' e1 e2 e3
    rw [hsl] at e1
    refine hR.put hlt e2 e3 ?_ hI hP (by rw [ha]; exact hr (ok_h hok) (fun i => by have := hR.2.2.2.2.1 a i; rw [ha] at this; exact this))
    unfold cOK
    rw [ha, if_pos h13, ← hc2]
    have hsz := (hR.2.2.1 a hlt).2
    rw [ha] at hsz
    unfold cOK at hsz
    rw [if_pos h13, ← hc2] at hsz
    obtain ⟨cell2, w1, w2⟩ := hsz.2
    have ec : cell2 = cell := Option.some.inj (w1.symm.trans q1)
    subst ec
    exact ⟨t_OB.to (V := updV (fv g ci (I a) (P a)) k (toV g v)) ⟨_, e1, q2, q3, t_set q4 hap hk (toV g v)⟩ (fun j _ => fv_set (h1 g) (h2 g) j), _, e1, by simp [Cell.setSlot, w2]⟩
  rcases hfin with hfin | ⟨hfin, hdecl, hin2⟩
  · have hlay := hts _ (hin _ (u_in_lay hk))
    unfold u_lay at hlay
    rw [if_neg (by rw [hfin]; decide)] at hlay
    have h6 := u_store hfc hkC hkind hlay hi (hty k hk) (hn g) (hft g)
    refine W.putK hx hb (f := f) ⟨hown, hts _ hl, ⟨_, _, _, hi⟩, hst⟩ (by rw [q2]; exact h6) q1 q3 (by rw [hsl]; exact k2_hasslot (q4 k hk)) rfl rfl hd fun H' e1 e2 e3 => ?_
    exact kw H' _ cells slots (fin H' e1 e2 e3) (fun q hq => by rw [List.mem_singleton.mp hq]; exact Nat.le_add_right _ _) hc hs
  · have hlay := hts _ (hin _ (u_in_lay hk))
    unfold u_lay at hlay
    rw [if_pos hfin] at hlay
    have hcf : m.cls = cf := by
      obtain ⟨_, _, c', _, _, _, -, -, hf', -, -, -, hown2, -⟩ := Cond.laysFinal_spec hlay
      have e1 : c' = cf := by have := hi.symm.trans hf'; simp at this; exact this.1.symm
      rw [hdecl] at hown2
      rw [← e1]; exact Option.some.inj (hown.symm.trans hown2)
    have h6 := u_fits hfc hkC hkind (Or.inr hlay) hi (hty k hk) (hn g) (hft g)
    refine W.putFinK hx hb hown (hts _ hl) hi hst hcf (by rw [hnm]; exact hin2) (by rw [q2]; exact h6) q1 q3 (by rw [hsl]; exact k2_hasslot (q4 k hk)) rfl rfl hd fun H' e1 e2 e3 => ?_
    exact kw H' _ cells slots (fin H' e1 e2 e3) (fun q hq => by rw [List.mem_singleton.mp hq]; exact Nat.le_add_right _ _) hc hs
theorem fv_I {g : Gt} {ci k : Nat} {I : It} {P : Pt'} {a : Nat} {x : Int} (hv : isR ci k = false) : fv g ci (upI I a k x a) (P a) k = toV g (vI x) := by unfold fv; rw [hv, upI_s]; rfl
theorem fv_In {g : Gt} {ci k j : Nat} {I : It} {P : Pt'} {a : Nat} {x : Int} (h : j ≠ k) : fv g ci (upI I a k x a) (P a) j = fv g ci (I a) (P a) j := by unfold fv; rw [upI_k (by omega)]
theorem rg_I {ci : Nat} {k x : Int} {I : It} {a : Nat} (h13 : ci ≠ 16) (hx : InR x) (h : ∀ i, rgOK ci (I a i)) : ∀ i, rgOK ci (upI I a k x a i) := fun i => by
  by_cases e : i = k
  · subst e; rw [upI_s]; unfold rgOK; rw [if_neg h13]; exact hx
  · rw [upI_k e]; exact h i
theorem ev_putI (pc : Nat) {a ix ci : Nat} (k : Nat) {x : Int} (hd : decode mm.2.1 pc = .ok (.putfield ix, 3)) (hf : FPI mm.1.cls ix ci k .int) (ha : Z.1 a = ci) (hv : isR ci k = false := by rfl)
    (kk : Ev l g mm d bc bs Z (upI I a k x) P (pc + 3) ls st Q) : Ev l g mm d bc bs Z I P pc ls (vI x :: vA a :: st) Q := by
  obtain ⟨C, T, N, ty, hCK, hk, hl, ht, hfin⟩ := hf
  exact ev_putV (v := vI x) pc hd hCK hk hl (Or.inl hfin) ha (fun g => by rw [ht]; rfl) (fun g => by rw [ht]; rfl) (fun b hb => upI_A hb) (fun b _ => rfl) (fun g => fv_I hv) (fun g j hj => fv_In hj) (fun hx h => rg_I (by have := hCK.2.2.2.2.2.2; omega) hx h) kk
theorem ev_putZ (pc : Nat) {a ix ci : Nat} (k : Nat) {x : Int} (hd : decode mm.2.1 pc = .ok (.putfield ix, 3)) (hf : FPI mm.1.cls ix ci k .boolean) (ha : Z.1 a = ci) (hx : x = 0 ∨ x = 1) (hv : isR ci k = false := by rfl)
    (kk : Ev l g mm d bc bs Z (upI I a k x) P (pc + 3) ls st Q) : Ev l g mm d bc bs Z I P pc ls (vI x :: vA a :: st) Q := by
  obtain ⟨C, T, N, ty, hCK, hk, hl, ht, hfin⟩ := hf
  exact ev_putV (v := vI x) pc hd hCK hk hl (Or.inl hfin) ha (fun g => by rw [ht]; rcases hx with rfl | rfl <;> rfl) (fun g => by rw [ht]; rcases hx with rfl | rfl <;> rfl) (fun b hb => upI_A hb) (fun b _ => rfl) (fun g => fv_I hv) (fun g j hj => fv_In hj) (fun hx h => rg_I (by have := hCK.2.2.2.2.2.2; omega) hx h) kk
theorem ev_putA (pc : Nat) {a ix ci b : Nat} (k : Nat) (hd : decode mm.2.1 pc = .ok (.putfield ix, 3)) (hf : FPR mm.1.cls ix ci k) (ha : Z.1 a = ci) (hi : mm.1.name = "<init>" ∨ ¬ mm.1.name = "<init>" ∧ ∃ (C : String) (T : u_T) (N : Nat), vwCl[ci]? = some (C, T, N) ∧ (T k).2.2.2 = false) (hv : isR ci k = true := by rfl)
    (kk : Ev l g mm d bc bs Z I (upP P a k (some b)) (pc + 3) ls st Q) : Ev l g mm d bc bs Z I P pc ls (vA b :: vA a :: st) Q := by
  obtain ⟨C, T, N, ty, hCK, hk, hl, ht, hfin⟩ := hf
  have hfin' : (T k).2.2.2 = false ∨ ((T k).2.2.2 = true ∧ (T k).1 = mm.1.cls ∧ mm.1.name = "<init>") := by
    rcases hfin with h | h
    · exact Or.inl h
    · rcases hi with hi | ⟨-, C', T', N', h1, h2⟩
      · exact Or.inr ⟨h.1, h.2, hi⟩
      · have e := hCK.1.symm.trans h1
        simp only [Option.some.injEq, Prod.mk.injEq] at e
        rw [e.2.1]; exact Or.inl h2
  refine ev_putV (v := vA b) pc hd hCK hk hl hfin' ha (fun g => ?_) (fun g => ?_) (fun b _ => rfl) (fun b hb => upP_A hb) (fun g => ?_) (fun g j hj => ?_) (fun _ h => h) kk
  · rcases ht with ⟨n, h⟩ | ⟨t, h⟩ <;> rw [h] <;> rfl
  · rcases ht with ⟨n, h⟩ | ⟨t, h⟩ <;> rw [h] <;> rfl
  · unfold fv; rw [hv, upP_s]; rfl
  · unfold fv; rw [upP_k (by omega)]
-- rows
theorem tys_i (g : Gt) (k : Nat) (h1 : 13 ≤ k) (h2 : k < 19) : ∃ ty, (tysOf g)[k - 13]? = some (g.2.2.1 k, ty) ∧ ty = (match k with | 13 => .boolean | 14 => .byte | 15 => .int | 16 => .long | 17 => .object RX5 | _ => .object RX8) := by
  rcases (show k = 13 ∨ k = 14 ∨ k = 15 ∨ k = 16 ∨ k = 17 ∨ k = 18 by omega) with rfl | rfl | rfl | rfl | rfl | rfl <;> exact ⟨_, rfl, rfl⟩
theorem row_of {g : Gt} {H : Heap} (hR : Rel g Z I P H) {a k : Nat} (ha : Z.1 a = k) (h1 : 13 ≤ k) (h2 : k < 19) : H[g0 g + a]? = some (arrV (g.2.2.1 k) (Z.2.1 a).toNat (av g k (I a) (P a))) ∧ a < Z.2.2 := by
  have hlt : a < Z.2.2 := hR.lt (by omega)
  have h3 := (hR.2.2.1 a hlt).2
  rw [ha] at h3
  unfold cOK at h3
  rw [if_neg (by omega)] at h3
  exact ⟨h3, hlt⟩
theorem ev_alen (pc : Nat) {a k : Nat} (hd : decode mm.2.1 pc = .ok (.arraylength, 1)) (ha : Z.1 a = k) (h1 : Nat.ble 13 k = true := by rfl) (h2 : Nat.ble (k + 1) 19 = true := by rfl)
    (kk : Ev l g mm d bc bs Z I P (pc + 1) ls (vI (Z.2.1 a) :: st) Q) : Ev l g mm d bc bs Z I P pc ls (vA a :: st) Q := by
  intro p e R s m args below meth c H locs cells slots lj hF hD hc hs
  obtain ⟨hx, hb, hml, hr, hlk, hnm, hts, hown, ⟨hK, hNw, hSW⟩, hfr, hlo⟩ := id hF
  have h1 := Nat.le_of_ble_eq_true h1
  have h2 := Nat.le_of_ble_eq_true h2
  obtain ⟨hrow, hlt⟩ := row_of hD.1 ha h1 (by omega)
  obtain ⟨ty, ht, -⟩ := tys_i g k h1 (by omega)
  have hl := hD.1.2.2.2.2.2 a
  have k1 := kk p e R s m args below meth c H locs cells slots lj hF ⟨hD.1, hD.2.1, hD.2.2.1, hD.2.2.2.1, ok_cI ⟨by omega, by omega⟩ (ok_t hD.2.2.2.2)⟩ hc hs
  refine W.alen hx hb hrow ((hK.2 _ _ ht).1 _ _) (n := Int32.ofInt (Z.2.1 a)) ?_ rfl rfl hd k1
  rw [arrV_size]
  show Int32.ofNat _ = _
  rw [← Int32.ofInt_eq_ofNat, Int.toNat_of_nonneg hl.1]
theorem in_of {Z : Zt} {a : Nat} {i : Int} {cA : ClassId} {f : Nat → Value} (h0 : 0 ≤ i) (hi : i < Z.2.1 a) (hr : InR i) : ¬ (Int32.ofInt i < 0 ∨ (arrV cA (Z.2.1 a).toNat f).slots.size ≤ (Int32.ofInt i).toNatClampNeg) := by
  rw [arrV_size]; exact i_in hr h0 hi
theorem rd_of {Z : Zt} {a : Nat} {i : Int} {cA : ClassId} {f : Nat → Value} (h0 : 0 ≤ i) (hi : i < Z.2.1 a) (hr : InR i) : (arrV cA (Z.2.1 a).toNat f).slots[(Int32.ofInt i).toNatClampNeg]? = some (f i.toNat) := by
  rw [i_nat hr, arrV_read _ _ (by omega)]
theorem ev_iald (pc : Nat) {a : Nat} {i : Int} (hd : decode mm.2.1 pc = .ok (.iaload, 1)) (ha : Z.1 a = 15) (hi : 0 ≤ i ∧ i < Z.2.1 a)
    (kk : Ev l g mm d bc bs Z I P (pc + 1) ls (vI (I a i) :: st) Q) : Ev l g mm d bc bs Z I P pc ls (vI i :: vA a :: st) Q := by
  intro p e R s m args below meth c H locs cells slots lj hF hD hc hs
  obtain ⟨hx, hb, hml, hr, hlk, hnm, hts, hown, ⟨hK, hNw, hSW⟩, hfr, hlo⟩ := id hF
  obtain ⟨hrow, hlt⟩ := row_of hD.1 ha (by omega) (by omega)
  obtain ⟨ty, ht, rfl⟩ := tys_i g 15 (by omega) (by omega)
  have hri : InR i := ok_h hD.2.2.2.2
  have hrv : InR (I a i) := by have := hD.1.2.2.2.2.1 a i; rw [ha] at this; exact this
  have k1 := kk p e R s m args below meth c H locs cells slots lj hF ⟨hD.1, hD.2.1, hD.2.2.1, hD.2.2.2.1, ok_cI hrv (ok_t (ok_t hD.2.2.2.2))⟩ hc hs
  exact W.iald hx hb hrow ((hK.2 _ _ ht).1 _ _) (fun q => by cases q) (in_of hi.1 hi.2 hri) (v := .int (Int32.ofInt (I a i))) (by rw [rd_of hi.1 hi.2 hri]; simp [av, Int.toNat_of_nonneg hi.1]) rfl rfl hd k1
theorem ev_zald (pc : Nat) {a : Nat} {i : Int} (hd : decode mm.2.1 pc = .ok (.baload, 1)) (ha : Z.1 a = 13) (hi : 0 ≤ i ∧ i < Z.2.1 a)
    (kk : Ev l g mm d bc bs Z I P (pc + 1) ls (vI (I a i) :: st) Q) : Ev l g mm d bc bs Z I P pc ls (vI i :: vA a :: st) Q := by
  intro p e R s m args below meth c H locs cells slots lj hF hD hc hs
  obtain ⟨hx, hb, hml, hr, hlk, hnm, hts, hown, ⟨hK, hNw, hSW⟩, hfr, hlo⟩ := id hF
  obtain ⟨hrow, hlt⟩ := row_of hD.1 ha (by omega) (by omega)
  obtain ⟨ty, ht, rfl⟩ := tys_i g 13 (by omega) (by omega)
  have hri : InR i := ok_h hD.2.2.2.2
  have hrv : InR (I a i) := by have := hD.1.2.2.2.2.1 a i; rw [ha] at this; exact this
  have k1 := kk p e R s m args below meth c H locs cells slots lj hF ⟨hD.1, hD.2.1, hD.2.2.1, hD.2.2.2.1, ok_cI hrv (ok_t (ok_t hD.2.2.2.2))⟩ hc hs
  exact W.zald hx hb hrow ((hK.2 _ _ ht).1 _ _) (fun q => by cases q) (in_of hi.1 hi.2 hri) (v := .int (Int32.ofInt (I a i))) (by rw [rd_of hi.1 hi.2 hri]; simp [av, Int.toNat_of_nonneg hi.1]) rfl rfl hd k1
theorem ev_bald (pc : Nat) {a : Nat} {i : Int} (hd : decode mm.2.1 pc = .ok (.baload, 1)) (ha : Z.1 a = 14) (hi : 0 ≤ i ∧ i < Z.2.1 a)
    (kk : Ev l g mm d bc bs Z I P (pc + 1) ls (vI (I a i) :: st) Q) : Ev l g mm d bc bs Z I P pc ls (vI i :: vA a :: st) Q := by
  intro p e R s m args below meth c H locs cells slots lj hF hD hc hs
  obtain ⟨hx, hb, hml, hr, hlk, hnm, hts, hown, ⟨hK, hNw, hSW⟩, hfr, hlo⟩ := id hF
  obtain ⟨hrow, hlt⟩ := row_of hD.1 ha (by omega) (by omega)
  obtain ⟨ty, ht, rfl⟩ := tys_i g 14 (by omega) (by omega)
  have hri : InR i := ok_h hD.2.2.2.2
  have hrv : InR (I a i) := by have := hD.1.2.2.2.2.1 a i; rw [ha] at this; exact this
  have k1 := kk p e R s m args below meth c H locs cells slots lj hF ⟨hD.1, hD.2.1, hD.2.2.1, hD.2.2.2.1, ok_cI hrv (ok_t (ok_t hD.2.2.2.2))⟩ hc hs
  exact W.bald hx hb hrow ((hK.2 _ _ ht).1 _ _) (fun q => by cases q) (in_of hi.1 hi.2 hri) (v := .int (Int32.ofInt (I a i))) (by rw [rd_of hi.1 hi.2 hri]; simp [av, Int.toNat_of_nonneg hi.1]) rfl rfl hd k1
theorem ev_lald (pc : Nat) {a : Nat} {i : Int} (hd : decode mm.2.1 pc = .ok (.laload, 1)) (ha : Z.1 a = 16) (hi : 0 ≤ i ∧ i < Z.2.1 a)
    (kk : Ev l g mm d bc bs Z I P (pc + 1) ls (vL (I a i) :: st) Q) : Ev l g mm d bc bs Z I P pc ls (vI i :: vA a :: st) Q := by
  intro p e R s m args below meth c H locs cells slots lj hF hD hc hs
  obtain ⟨hx, hb, hml, hr, hlk, hnm, hts, hown, ⟨hK, hNw, hSW⟩, hfr, hlo⟩ := id hF
  obtain ⟨hrow, hlt⟩ := row_of hD.1 ha (by omega) (by omega)
  obtain ⟨ty, ht, rfl⟩ := tys_i g 16 (by omega) (by omega)
  have hri : InR i := ok_h hD.2.2.2.2
  have hrv : InL (I a i) := by have := hD.1.2.2.2.2.1 a i; rw [ha] at this; exact this
  have k1 := kk p e R s m args below meth c H locs cells slots lj hF ⟨hD.1, hD.2.1, hD.2.2.1, hD.2.2.2.1, ok_cL hrv (ok_t (ok_t hD.2.2.2.2))⟩ hc hs
  exact W.lald hx hb hrow ((hK.2 _ _ ht).1 _ _) (fun q => by cases q) (in_of hi.1 hi.2 hri) (v := .long (Int64.ofInt (I a i))) (by rw [rd_of hi.1 hi.2 hri]; simp [av, Int.toNat_of_nonneg hi.1]) rfl rfl hd k1
theorem ev_aaldV (pc : Nat) {a k : Nat} {i : Int} {v : Vv} (hd : decode mm.2.1 pc = .ok (.aaload, 1)) (ha : Z.1 a = k) (h17 : k = 17 ∨ k = 18) (hi : 0 ≤ i ∧ i < Z.2.1 a) (hv : ∀ g, toV g v = rv g (P a i)) (hok : okV v)
    (kk : Ev l g mm d bc bs Z I P (pc + 1) ls (v :: st) Q) : Ev l g mm d bc bs Z I P pc ls (vI i :: vA a :: st) Q := by
  intro p e R s m args below meth c H locs cells slots lj hF hD hc hs
  obtain ⟨hx, hb, hml, hr, hlk, hnm, hts, hown, ⟨hK, hNw, hSW⟩, hfr, hlo⟩ := id hF
  obtain ⟨hrow, hlt⟩ := row_of hD.1 ha (by omega) (by omega)
  obtain ⟨ty, ht, hty⟩ := tys_i g k (by omega) (by omega)
  have hri : InR i := ok_h hD.2.2.2.2
  have k1 := kk p e R s m args below meth c H locs cells slots lj hF ⟨hD.1, hD.2.1, hD.2.2.1, hD.2.2.2.1, ok_c hok (ok_t (ok_t hD.2.2.2.2))⟩ hc hs
  refine W.aald (ty := ty) hx hb hrow ((hK.2 _ _ ht).1 _ _) ?_ (fun q => by cases q) (in_of hi.1 hi.2 hri) (v := toV g v) ?_ rfl rfl hd k1
  · rcases h17 with rfl | rfl <;> subst hty <;> rfl
  · rw [rd_of hi.1 hi.2 hri, hv]
    have : k ≠ 16 := by omega
    have h : 17 ≤ k := by omega
    simp [av, Int.toNat_of_nonneg hi.1, this, h]
theorem ev_aaldA (pc : Nat) {a k b : Nat} {i : Int} (hd : decode mm.2.1 pc = .ok (.aaload, 1)) (ha : Z.1 a = k) (h17 : k = 17 ∨ k = 18) (hi : 0 ≤ i ∧ i < Z.2.1 a) (hp : P a i = some b)
    (kk : Ev l g mm d bc bs Z I P (pc + 1) ls (vA b :: st) Q) : Ev l g mm d bc bs Z I P pc ls (vI i :: vA a :: st) Q :=
  ev_aaldV (v := vA b) pc hd ha h17 hi (fun g => by rw [hp]; rfl) trivial kk
theorem ev_aaldN (pc : Nat) {a k : Nat} {i : Int} (hd : decode mm.2.1 pc = .ok (.aaload, 1)) (ha : Z.1 a = k) (h17 : k = 17 ∨ k = 18) (hi : 0 ≤ i ∧ i < Z.2.1 a) (hp : P a i = none)
    (kk : Ev l g mm d bc bs Z I P (pc + 1) ls (vN :: st) Q) : Ev l g mm d bc bs Z I P pc ls (vI i :: vA a :: st) Q :=
  ev_aaldV (v := vN) pc hd ha h17 hi (fun g => by rw [hp]; rfl) trivial kk
theorem av_set {g : Gt} {k : Nat} {n : Nat} {I : Int → Int} {P : Int → Option Nat} {I' : Int → Int} {P' : Int → Option Nat} {v : Value} (h1 : av g k I' P' n = v) (h2 : ∀ j : Nat, j ≠ n → av g k I' P' j = av g k I P j) : updV (av g k I P) n v = av g k I' P' := by
  funext j
  by_cases e : j = n
  · subst e; simp [updV, h1]
  · simp [updV, e, h2 j e]
theorem row_put {g : Gt} {H H1 : Heap} (hR : Rel g Z I P H) {a k : Nat} {I' : It} {P' : Pt'} {i : Int} {x : Value} (ha : Z.1 a = k) (hk1 : 13 ≤ k) (hk2 : k < 19) (h0 : 0 ≤ i) (hri : InR i)
    (e : H1[g0 g + a]? = some ((arrV (g.2.2.1 k) (Z.2.1 a).toNat (av g k (I a) (P a))).setSlot (Int32.ofInt i).toNatClampNeg x)) (z : H1.size = H.size) (oq : ∀ q : Nat, q ≠ g0 g + a → H1[q]? = H[q]?)
    (hI : ∀ b, b ≠ a → I' b = I b) (hP : ∀ b, b ≠ a → P' b = P b) (h1 : av g k (I' a) (P' a) i.toNat = x) (h2 : ∀ j : Nat, j ≠ i.toNat → av g k (I' a) (P' a) j = av g k (I a) (P a) j) (hr : ∀ j, rgOK k (I' a j)) : Rel g Z I' P' H1 := by
  refine hR.put (hR.lt (by omega)) z oq ?_ hI hP (by rw [ha]; exact hr)
  unfold cOK
  rw [ha, if_neg (by omega), e, arrV_store, i_nat hri, av_set h1 h2]
theorem av_I {g : Gt} {k : Nat} {I : It} {P : Pt'} {a : Nat} {i x : Int} (h0 : 0 ≤ i) (hk : k = 13 ∨ k = 14 ∨ k = 15) : av g k (upI I a i x a) (P a) i.toNat = .int (Int32.ofInt x) := by
  have h1 : k ≠ 16 := by omega
  have h2 : ¬ 17 ≤ k := by omega
  simp [av, h1, h2, Int.toNat_of_nonneg h0, upI_s]
theorem av_In {g : Gt} {k j : Nat} {I : It} {P : Pt'} {a : Nat} {i x : Int} (h0 : 0 ≤ i) (h : j ≠ i.toNat) : av g k (upI I a i x a) (P a) j = av g k (I a) (P a) j := by
  unfold av; rw [upI_k (by omega)]
theorem rg_R (hR : ∀ a i, rgOK (Z.1 a) (I a i)) {a k : Nat} (ha : Z.1 a = k) : ∀ i, rgOK k (I a i) := fun i => by have := hR a i; rw [ha] at this; exact this
theorem ev_iast (pc : Nat) {a : Nat} {i x : Int} (hd : decode mm.2.1 pc = .ok (.iastore, 1)) (ha : Z.1 a = 15) (hi : 0 ≤ i ∧ i < Z.2.1 a)
    (kk : Ev l g mm d bc bs Z (upI I a i x) P (pc + 1) ls st Q) : Ev l g mm d bc bs Z I P pc ls (vI x :: vI i :: vA a :: st) Q := by
  refine Ev.mem (fun h => ok_t (ok_t (ok_t h))) (fun p e R s m args below meth c H locs cells slots lj Q0 hF hR hok hc hs kw => ?_) kk
  obtain ⟨hx, hb, hml, hr, hlk, hnm, hts, hown, ⟨hK, hNw, hSW⟩, hfr, hlo⟩ := id hF
  obtain ⟨hrow, hlt⟩ := row_of hR ha (by omega) (by omega)
  obtain ⟨ty, ht, rfl⟩ := tys_i g 15 (by omega) (by omega)
  have hri : InR i := ok_h (ok_t hok)
  have hrx : InR x := ok_h hok
  refine W.iast hx hb hrow ((hK.2 _ _ ht).1 _ _) (fun q => by cases q) (in_of hi.1 hi.2 hri) rfl rfl hd fun H1 e1 z oq => ?_
  exact kw H1 _ cells slots (row_put hR ha (by omega) (by omega) hi.1 hri e1 z oq (fun b hb => upI_A hb) (fun b _ => rfl) (av_I hi.1 (by omega)) (fun j hj => av_In hi.1 hj) (rg_I (by omega) hrx (rg_R hR.2.2.2.2.1 ha))) (fun q hq => by rw [List.mem_singleton.mp hq]; exact Nat.le_add_right _ _) hc hs
theorem ev_zast (pc : Nat) {a : Nat} {i x : Int} (hd : decode mm.2.1 pc = .ok (.bastore, 1)) (ha : Z.1 a = 13) (hi : 0 ≤ i ∧ i < Z.2.1 a) (hx1 : x = 0 ∨ x = 1)
    (kk : Ev l g mm d bc bs Z (upI I a i x) P (pc + 1) ls st Q) : Ev l g mm d bc bs Z I P pc ls (vI x :: vI i :: vA a :: st) Q := by
  refine Ev.mem (fun h => ok_t (ok_t (ok_t h))) (fun p e R s m args below meth c H locs cells slots lj Q0 hF hR hok hc hs kw => ?_) kk
  obtain ⟨hx, hb, hml, hr, hlk, hnm, hts, hown, ⟨hK, hNw, hSW⟩, hfr, hlo⟩ := id hF
  obtain ⟨hrow, hlt⟩ := row_of hR ha (by omega) (by omega)
  obtain ⟨ty, ht, rfl⟩ := tys_i g 13 (by omega) (by omega)
  have hri : InR i := ok_h (ok_t hok)
  have hrx : InR x := ok_h hok
  refine W.zast hx hb hrow ((hK.2 _ _ ht).1 _ _) (fun q => by cases q) (in_of hi.1 hi.2 hri) rfl rfl hd fun H1 e1 z oq => ?_
  have hn : narrow .boolean (.int (Int32.ofInt x)) = .int (Int32.ofInt x) := by rcases hx1 with rfl | rfl <;> rfl
  rw [hn] at e1
  exact kw H1 _ cells slots (row_put hR ha (by omega) (by omega) hi.1 hri e1 z oq (fun b hb => upI_A hb) (fun b _ => rfl) (av_I hi.1 (by omega)) (fun j hj => av_In hi.1 hj) (rg_I (by omega) hrx (rg_R hR.2.2.2.2.1 ha))) (fun q hq => by rw [List.mem_singleton.mp hq]; exact Nat.le_add_right _ _) hc hs
theorem ev_bast (pc : Nat) {a : Nat} {i x : Int} (hd : decode mm.2.1 pc = .ok (.bastore, 1)) (ha : Z.1 a = 14) (hi : 0 ≤ i ∧ i < Z.2.1 a) (hx1 : -128 ≤ x ∧ x ≤ 127)
    (kk : Ev l g mm d bc bs Z (upI I a i x) P (pc + 1) ls st Q) : Ev l g mm d bc bs Z I P pc ls (vI x :: vI i :: vA a :: st) Q := by
  refine Ev.mem (fun h => ok_t (ok_t (ok_t h))) (fun p e R s m args below meth c H locs cells slots lj Q0 hF hR hok hc hs kw => ?_) kk
  obtain ⟨hx, hb, hml, hr, hlk, hnm, hts, hown, ⟨hK, hNw, hSW⟩, hfr, hlo⟩ := id hF
  obtain ⟨hrow, hlt⟩ := row_of hR ha (by omega) (by omega)
  obtain ⟨ty, ht, rfl⟩ := tys_i g 14 (by omega) (by omega)
  have hri : InR i := ok_h (ok_t hok)
  have hrx : InR x := ok_h hok
  refine W.bast hx hb hrow ((hK.2 _ _ ht).1 _ _) (fun q => by cases q) (in_of hi.1 hi.2 hri) rfl rfl hd fun H1 e1 z oq => ?_
  have hn : narrow .byte (.int (Int32.ofInt x)) = .int (Int32.ofInt x) := by
    show Value.int (Int32.ofInt x).toInt8.toInt32 = _
    rw [Int32.toInt8_ofInt, i8_of hx1.1 hx1.2]
  rw [hn] at e1
  exact kw H1 _ cells slots (row_put hR ha (by omega) (by omega) hi.1 hri e1 z oq (fun b hb => upI_A hb) (fun b _ => rfl) (av_I hi.1 (by omega)) (fun j hj => av_In hi.1 hj) (rg_I (by omega) hrx (rg_R hR.2.2.2.2.1 ha))) (fun q hq => by rw [List.mem_singleton.mp hq]; exact Nat.le_add_right _ _) hc hs
theorem ev_last (pc : Nat) {a : Nat} {i x : Int} (hd : decode mm.2.1 pc = .ok (.lastore, 1)) (ha : Z.1 a = 16) (hi : 0 ≤ i ∧ i < Z.2.1 a)
    (kk : Ev l g mm d bc bs Z (upI I a i x) P (pc + 1) ls st Q) : Ev l g mm d bc bs Z I P pc ls (vL x :: vI i :: vA a :: st) Q := by
  refine Ev.mem (fun h => ok_t (ok_t (ok_t h))) (fun p e R s m args below meth c H locs cells slots lj Q0 hF hR hok hc hs kw => ?_) kk
  obtain ⟨hx, hb, hml, hr, hlk, hnm, hts, hown, ⟨hK, hNw, hSW⟩, hfr, hlo⟩ := id hF
  obtain ⟨hrow, hlt⟩ := row_of hR ha (by omega) (by omega)
  obtain ⟨ty, ht, rfl⟩ := tys_i g 16 (by omega) (by omega)
  have hri : InR i := ok_h (ok_t hok)
  have hrx : InL x := ok_h hok
  refine W.last hx hb hrow ((hK.2 _ _ ht).1 _ _) (fun q => by cases q) (in_of hi.1 hi.2 hri) rfl rfl hd fun H1 e1 z oq => ?_
  exact kw H1 _ cells slots (row_put hR ha (by omega) (by omega) hi.1 hri e1 z oq (fun b hb => upI_A hb) (fun b _ => rfl) (by simp [av, Int.toNat_of_nonneg hi.1, upI_s]) (fun j hj => av_In hi.1 hj) (fun j => by
    by_cases ej : j = i
    · subst ej; rw [upI_s]; exact hrx
    · rw [upI_k ej]; exact rg_R hR.2.2.2.2.1 ha j)) (fun q hq => by rw [List.mem_singleton.mp hq]; exact Nat.le_add_right _ _) hc hs
theorem ev_aast (pc : Nat) {a b k ci : Nat} {i : Int} (hd : decode mm.2.1 pc = .ok (.aastore, 1)) (ha : Z.1 a = k) (hb2 : Z.1 b = ci) (hk : (k = 17 ∧ ci = 5) ∨ (k = 18 ∧ ci = 8)) (hi : 0 ≤ i ∧ i < Z.2.1 a)
    (kk : Ev l g mm d bc bs Z I (upP P a i (some b)) (pc + 1) ls st Q) : Ev l g mm d bc bs Z I P pc ls (vA b :: vI i :: vA a :: st) Q := by
  refine Ev.mem (fun h => ok_t (ok_t (ok_t h))) (fun p e R s m args below meth c H locs cells slots lj Q0 hF hR hok hc hs kw => ?_) kk
  obtain ⟨hx, hb, hml, hr, hlk, hnm, hts, hown, ⟨hK, hNw, hSW⟩, hfr, hlo⟩ := id hF
  obtain ⟨hrow, hlt⟩ := row_of hR ha (by omega) (by omega)
  have hri : InR i := ok_h (ok_t hok)
  have hbl : b < Z.2.2 := hR.lt (by omega)
  obtain ⟨r, hr1, ht⟩ : ∃ r : vw_C, vwCl[ci]? = some r ∧ (tysOf g)[k - 13]? = some (g.2.2.1 k, .object r.1) := by
    rcases hk with ⟨rfl, rfl⟩ | ⟨rfl, rfl⟩ <;> exact ⟨_, rfl, rfl⟩
  have hcb := (hR.2.2.1 b hbl).2
  rw [hb2] at hcb
  unfold cOK at hcb
  rw [if_pos (by omega)] at hcb
  obtain ⟨⟨cellV, g1, g2, g3, -⟩, -⟩ := hcb
  have hcls := (hK.1 ci r hr1).2
  obtain ⟨kA, comp, k1, k2, k3, -⟩ := (hK.2 _ _ ht).2
  have hcomp : comp = g.2.1.1 ci := Option.some.inj (k3.symm.trans hcls.1)
  subst hcomp
  obtain ⟨kC, hkC, -⟩ := hcls.2
  have hin := in_of (f := av g k (I a) (P a)) (cA := g.2.2.1 k) hi.1 hi.2 hri
  refine W.aast hx hb hrow (fun q h => by cases h) (fun h => by cases h) k1 k2 rfl hkC ⟨fun q => hin (Or.inl q), Nat.not_le.mp fun q => hin (Or.inr q)⟩ g1 (fun q h => by rw [g3] at h; cases h) (by rw [g2]; exact hkC) (by rw [g2]; exact va_assign hcls) rfl rfl hd fun H1 e1 z oq => ?_
  refine kw H1 _ cells slots (row_put hR ha (by omega) (by omega) hi.1 hri e1 z oq (fun b _ => rfl) (fun b hb => upP_A hb) ?_ (fun j hj => by unfold av; rw [upP_k (by omega)]) (rg_R hR.2.2.2.2.1 ha)) (fun q hq => by rw [List.mem_singleton.mp hq]; exact Nat.le_add_right _ _) hc hs
  have h1 : k ≠ 16 := by omega
  have h2 : 17 ≤ k := by omega
  simp [av, h1, h2, Int.toNat_of_nonneg hi.1, upP_s]
  rfl
end MEM
