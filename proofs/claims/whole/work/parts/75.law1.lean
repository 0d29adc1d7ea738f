/-! the law: rows -/
theorem i32_in (x : Int32) : inI x.toInt := by
  have h1 := Int32.le_toInt x
  have h2 := Int32.toInt_lt x
  unfold inI; omega
/-- where the law runs -/
def Lw (X : Xt) (K : K5) (L : Nat) (xs : Nat → Int32) : Prop := Cx X code 4 "PlanValuesLaw" ret ∧ X.ro = room_1 ∧ X.ty = tyK K ∧ va_X X.sb L xs X.s0 X.s0.heap ∧ X.sb < X.ba ∧ X.ba ≤ X.s0.heap.size ∧ L ≤ 2560
abbrev LV (i : Nat) : List (Nat × Value) := [(3, vi (i : Int)), (2, .ref 50), (1, .ref 0), (0, .float 0)]
section LAW
variable {X : Xt} {K : K5} {L k n pc : Nat} {xs : Nat → Int32} {st : List Value} {ah : Hp}
/-- script[i + c] -/
theorem a_arg (hW : Lw X K L xs) {i c : Nat} (hi : i + c < L) (d0 : decode code pc = .ok (.aload_n 0, 1)) (d1 : decode code (pc + 1) = .ok (.iload_n 3, 1)) (d2 : decode code (pc + 2) = .ok (.iconst (c : Int), 1)) (d3 : decode code (pc + 3) = .ok (.iadd, 1)) (d4 : decode code (pc + 4) = .ok (.iaload, 1)) (kk : AW X 4 k n (pc + 5) (LV i) (vi (xs (i + c)).toInt :: st) ah) : AW X 4 k n pc (LV i) st ah := by
  obtain ⟨hC, hro, hty, hX, hb, hb0, hL⟩ := hW
  refine a_sload_n (pc := pc) (q := 0) (i := 0) hC d0 rfl 3 rfl ?_
  refine a_iload_n (pc := pc + 1) (q := 3) (i := 3) (x := (i : Int)) hC d1 rfl 0 rfl ?_
  refine a_iconst (pc := pc + 2) (c := (c : Int)) hC d2 ?_
  refine a_iadd (pc := pc + 3) hC d3 ?_
  have e : (i : Int) + (c : Int) = ((i + c : Nat) : Int) := by omega
  rw [e]
  exact a_sald (pc := pc + 4) hC hX hb hb0 d4 hi (by omega) kk
theorem a_lcmpS {cc : ByteArray} {nL : Nat} {own : String} {ret : Option FieldType} {lv : List (Nat × Value)} (hC : Cx X cc nL own ret) {x : Int} (hd : decode cc pc = .ok (.lcmp, 1)) (kk : AW X nL k n (pc + 1) lv (vi 0 :: st) ah) : AW X nL k n pc lv (vl x :: vl x :: st) ah := fun H locs ls hR hS hl => W.lcmp (x := lZ x) (y := lZ x) (rest := st.map (mv X.ba X.sb)) hC.1 hC.2.1 hd (by
  have e : lg_cmp (lZ x) (lZ x) = iZ 0 := by
    unfold lg_cmp
    rw [if_neg (fun q => Int64.lt_irrefl q), if_pos rfl]; rfl
  rw [e]; exact kk H locs ls hR hS hl)
section LCALL
variable {cc : ByteArray} {nL : Nat} {own : String} {ret : Option FieldType} {lv : List (Nat × Value)} {y : MethodName} {bc : ByteArray} {maxL na idx fr lo : Nat} {rt : Option FieldType} {av rest st0 : List Value} {G g : GT}
theorem g_lV (hC : Cx X cc nL own ret) (hro : X.ro = room_1) (hty : X.ty = tyK K) {v : Value} (hd : decode cc pc = .ok (.invokevirtual idx, 3)) {ci i N : Nat} {T : u_T} {fs : List (Option Unit ⊕ Nat)} (hc : vwCl[ci]? = some (y.cls, T, N)) (hsh : shape[i]? = some (.inr (ci, fs))) (hy : Yk y bc maxL rt na) (hi : Cond.instanceMethod y ∈ TT) (hsel : Cond.selects y.cls y y ∈ TT) (hlk : Cond.methodLink own idx y ∈ TT) (hM : Ct X.la X.dd K y bc maxL rt fr lo (.ref i :: av) G (some v) g) (hst : st0 = av.reverse ++ .ref i :: rest) (hna : av.length = na) (hf : fr + 1 ≤ 10 ∧ 8 + (maxL + 11) + lo ≤ 386) (hk : k ≤ 600000 ∧ n ≤ 7302250) (hcat : (rest.map fun v => v.category).sum ≤ 8)
    (kk : AW X nL k n (pc + 3) lv (v :: rest) (hp K g)) : AW X nL k n pc lv st0 (hp K G) := by
  rw [hst]
  exact a_callV (rm := rmk fr lo) hC hd hc (hp_at K G hsh) hy hi hsel hlk (by rw [hty]; exact hM) hna (by rw [hro]; exact ⟨hf, hk.1, hk.2⟩) hcat (ct_go (v := some v) (a := hp K g) (P := fun r ah' => AW X nL (k + (rmk fr lo).cells) (n + (rmk fr lo).slots) (pc + 3) lv (r.toList ++ rest) ah') kk)
theorem g_lV0 (hC : Cx X cc nL own ret) (hro : X.ro = room_1) (hty : X.ty = tyK K) (hd : decode cc pc = .ok (.invokevirtual idx, 3)) {ci i N : Nat} {T : u_T} {fs : List (Option Unit ⊕ Nat)} (hc : vwCl[ci]? = some (y.cls, T, N)) (hsh : shape[i]? = some (.inr (ci, fs))) (hy : Yk y bc maxL rt na) (hi : Cond.instanceMethod y ∈ TT) (hsel : Cond.selects y.cls y y ∈ TT) (hlk : Cond.methodLink own idx y ∈ TT) (hM : Ct X.la X.dd K y bc maxL rt fr lo (.ref i :: av) G none g) (hst : st0 = av.reverse ++ .ref i :: rest) (hna : av.length = na) (hf : fr + 1 ≤ 10 ∧ 8 + (maxL + 11) + lo ≤ 386) (hk : k ≤ 600000 ∧ n ≤ 7302250) (hcat : (rest.map fun v => v.category).sum ≤ 8)
    (kk : AW X nL k n (pc + 3) lv rest (hp K g)) : AW X nL k n pc lv st0 (hp K G) := by
  rw [hst]
  exact a_callV (rm := rmk fr lo) hC hd hc (hp_at K G hsh) hy hi hsel hlk (by rw [hty]; exact hM) hna (by rw [hro]; exact ⟨hf, hk.1, hk.2⟩) hcat (ct_go (v := none) (a := hp K g) (P := fun r ah' => AW X nL (k + (rmk fr lo).cells) (n + (rmk fr lo).slots) (pc + 3) lv (r.toList ++ rest) ah') kk)
end LCALL
end LAW
