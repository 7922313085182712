/-! what divides both -/
theorem QL_of {x y : Int} {Z : Zt} {I : It} {P : Pt'} (h : x = y) : QL y Z I P (some (vL x)) Z I P := ⟨by rw [h], rfl, rfl, rfl⟩
def cdF : Nat → Int → Int → Int
  | 0, a, _ => a
  | k + 1, a, b => if b = 0 then a else cdF k b (a.tmod b)
theorem c_cd {l : Launch} {g : Gt} {d : Nat} {Z : Zt} {I : It} {P : Pt'} {a b : Int} (ha : 0 ≤ a) (hb : 0 ≤ b) : Mt l g mX11_commonDivisor d 0 0 [vL a, vL b] Z I P (QL (cdF 1000 a b) Z I P) := by
  refine Mt.of kmX11_commonDivisor (ls := [vL a, vX, vL b, vX, vX, vX, vX]) (fun _ => rfl) (fun _ => rfl) (okf_k (okf_x (okf_k (okf_x (okf_n rfl))))) (fun hok => ?_)
  have loop : ∀ (k : Nat) (n x y : Int) (vx vy : Vv), 0 ≤ n → n + k = 1000 → 0 ≤ x → 0 ≤ y → cdF 1000 a b = cdF k x y → Ev l g mX11_commonDivisor d 0 0 Z I P 3 [vL x, vX, vL y, vX, vI n, vx, vy] [] (QL (cdF 1000 a b) Z I P) := by
    intro k
    induction k with
    | zero =>
      intro n x y vx vy h0 h1 hx hy e
      refine ev_lload_2 3 dX11_commonDivisor_3 ?_
      refine ev_lconst0 4 dX11_commonDivisor_4 ?_
      refine ev_lcmp 5 dX11_commonDivisor_5 ?_
      refine ev_ifc_eq 6 33 dX11_commonDivisor_6 rfl (fun h6 => ?_) (fun h6 => ?_)
      · refine ev_lload_0 33 dX11_commonDivisor_33 ?_
        refine ev_lret 34 dX11_commonDivisor_34 ?_ rfl
        exact QL_of e.symm
      · refine ev_iload_4 9 dX11_commonDivisor_9 ?_
        refine ev_sipush 11 dX11_commonDivisor_11 ⟨by decide, by decide⟩ ?_
        refine ev_icmp_ge 14 33 dX11_commonDivisor_14 rfl (fun h14 => ?_) (fun h14 => ?_)
        · refine ev_lload_0 33 dX11_commonDivisor_33 ?_
          refine ev_lret 34 dX11_commonDivisor_34 ?_ rfl
          exact QL_of e.symm
        · exfalso; omega
    | succ k ih =>
      intro n x y vx vy h0 h1 hx hy e
      refine ev_lload_2 3 dX11_commonDivisor_3 ?_
      refine ev_lconst0 4 dX11_commonDivisor_4 ?_
      refine ev_lcmp 5 dX11_commonDivisor_5 ?_
      refine ev_ifc_eq 6 33 dX11_commonDivisor_6 rfl (fun h6 => ?_) (fun h6 => ?_)
      · refine ev_lload_0 33 dX11_commonDivisor_33 ?_
        refine ev_lret 34 dX11_commonDivisor_34 ?_ rfl
        first
          | exact QL_of (e.trans (if_pos (by assumption))).symm
          | (exfalso; omega)
      · refine ev_iload_4 9 dX11_commonDivisor_9 ?_
        refine ev_sipush 11 dX11_commonDivisor_11 ⟨by decide, by decide⟩ ?_
        refine ev_icmp_ge 14 33 dX11_commonDivisor_14 rfl (fun h14 => ?_) (fun h14 => ?_)
        · refine ev_lload_0 33 dX11_commonDivisor_33 ?_
          refine ev_lret 34 dX11_commonDivisor_34 ?_ rfl
          first
            | exact QL_of (e.trans (if_pos (by assumption))).symm
            | (exfalso; omega)
        · refine ev_lload_0 17 dX11_commonDivisor_17 ?_
          refine ev_lload_2 18 dX11_commonDivisor_18 ?_
          refine ev_lrem 19 dX11_commonDivisor_19 (by omega) ?_
          refine ev_lstore_5 20 dX11_commonDivisor_20 rfl rfl ?_
          refine ev_lload_2 22 dX11_commonDivisor_22 ?_
          refine ev_lstore_0 23 dX11_commonDivisor_23 rfl rfl ?_
          refine ev_lload_5 24 dX11_commonDivisor_24 ?_
          refine ev_lstore_2 26 dX11_commonDivisor_26 rfl rfl ?_
          refine ev_iinc_4 27 dX11_commonDivisor_27 ⟨by omega, by omega⟩ rfl rfl ?_
          refine ev_goto 30 3 dX11_commonDivisor_30 rfl ?_
          exact ih _ _ _ _ _ (by omega) (by omega) hy (Int.tmod_nonneg y hx) (e.trans (if_neg (by assumption)))
  refine ev_iconst 0 dX11_commonDivisor_0 ⟨by decide, by decide⟩ ?_
  refine ev_istore_4 1 dX11_commonDivisor_1 rfl rfl ?_
  exact loop 1000 0 a b _ _ (by omega) (by omega) ha hb rfl
