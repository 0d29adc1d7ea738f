/-! PlanValues: its private methods -/
section GCOPY
variable {X : Xt} {cc : ByteArray} {nL k n pc : Nat} {own : String} {ret : Option FieldType} {lv : List (Nat × Value)} {st : List Value} {K : K5} {G : GT}
theorem copy_facts : Cond.native arraycopyName ∈ TT ∧ Cond.static arraycopyName ∈ TT ∧ Cond.initialized "java/lang/System" ∈ TT := by refine ⟨?_, ?_, ?_⟩ <;> decide +kernel
theorem g_copyI (hC : Cx X cc nL own ret) {F L : Nat} (hro : X.ro = rmk F L) (hty : X.ty = tyK K) {idx a0 a1 N0 N1 M : Nat} (hd : decode cc pc = .ok (.invokestatic idx, 3)) (hlk : Cond.methodLink own idx arraycopyName ∈ TT) (h0 : shape[a0]? = some (shI N0)) (h1 : shape[a1]? = some (shI N1)) (hM0 : M ≤ N0) (hM1 : M ≤ N1) (hN : N0 < 2147483648) (hfl : 1 ≤ F ∧ 60 ≤ L) (hcat : (st.map fun v => v.category).sum ≤ 8) {z : Int} (hz : z = (M : Int))
    (kk : AW X nL k n (pc + 3) lv st (hp K (uG G a1 (cpy (G a0) (G a1) M)))) : AW X nL k n pc lv (vi z :: vi 0 :: .ref a1 :: vi 0 :: .ref a0 :: st) (hp K G) := by
  refine a_copy hC (N0 := N0) (N1 := N1) (M := M) (cA := K.1) (ty := .int) (N0, .inl (fun j => iZ (G a0 j))) (N1, .inl (fun j => iZ (G a1 j))) (N1, .inl (fun j => iZ (cpy (G a0) (G a1) M j))) rfl rfl (fun i => .int (iZ (G a0 i))) hd hlk copy_facts.1 copy_facts.2.1 copy_facts.2.2 (by rw [hty]; exact tyK_I K) rfl (fun _ => rfl) (fun _ => rfl) (fun _ => rfl) (fun c => ⟨rfl, rfl, by rw [vp_cell_i, arrV_size]⟩) (fun c => ⟨rfl, rfl, by rw [vp_cell_i, arrV_size]⟩) (fun c i hi => by rw [vp_cell_i, Array.getD_eq_getD_getElem?, arrV_read _ _ (by omega)]; simp) (fun i _ => rfl) (fun i _ a h => by cases h) (fun c => ?_) (hp_at K G h0) (hp_at K G h1) hM0 hM1 (by omega) (by rw [hro]; exact hfl.1) (by rw [hro]; exact hfl.2) hcat (hp_set K G h1 (cpy (G a0) (G a1) M)) hz kk
  have e : copied (vp_cell c (N0, .inl (fun j => iZ (G a0 j)))) (vp_cell c (N1, .inl (fun j => iZ (G a1 j)))) 0 0 (iZ (M : Int)) = vp_cell c (N1, .inl (va_cpy (fun j => iZ (G a0 j)) (fun j => iZ (G a1 j)) (0 : Int32).toNatClampNeg (0 : Int32).toNatClampNeg (iZ (M : Int)).toNatClampNeg)) := va_copied (fun z => .int z) c c (fun j => iZ (G a0 j)) (fun j => iZ (G a1 j)) (by rw [iZ_clN (by omega)]; show 0 + M ≤ N0; omega)
  rw [iZ_clN (by omega)] at e
  rw [cpy_i]
  exact e
theorem g_copyL (hC : Cx X cc nL own ret) {F L : Nat} (hro : X.ro = rmk F L) (hty : X.ty = tyK K) {idx a0 a1 N0 N1 M : Nat} (hd : decode cc pc = .ok (.invokestatic idx, 3)) (hlk : Cond.methodLink own idx arraycopyName ∈ TT) (h0 : shape[a0]? = some (shL N0)) (h1 : shape[a1]? = some (shL N1)) (hM0 : M ≤ N0) (hM1 : M ≤ N1) (hN : N0 < 2147483648) (hfl : 1 ≤ F ∧ 60 ≤ L) (hcat : (st.map fun v => v.category).sum ≤ 8) {z : Int} (hz : z = (M : Int))
    (kk : AW X nL k n (pc + 3) lv st (hp K (uG G a1 (cpy (G a0) (G a1) M)))) : AW X nL k n pc lv (vi z :: vi 0 :: .ref a1 :: vi 0 :: .ref a0 :: st) (hp K G) := by
  refine a_copy hC (N0 := N0) (N1 := N1) (M := M) (cA := K.2.1) (ty := .long) (N0, .inr (.inl (fun j => lZ (G a0 j)))) (N1, .inr (.inl (fun j => lZ (G a1 j)))) (N1, .inr (.inl (fun j => lZ (cpy (G a0) (G a1) M j)))) rfl rfl (fun i => .long (lZ (G a0 i))) hd hlk copy_facts.1 copy_facts.2.1 copy_facts.2.2 (by rw [hty]; exact tyK_L K) rfl (fun _ => rfl) (fun _ => rfl) (fun _ => rfl) (fun c => ⟨rfl, rfl, by rw [vp_cell_l, arrV_size]⟩) (fun c => ⟨rfl, rfl, by rw [vp_cell_l, arrV_size]⟩) (fun c i hi => by rw [vp_cell_l, Array.getD_eq_getD_getElem?, arrV_read _ _ (by omega)]; simp) (fun i _ => rfl) (fun i _ a h => by cases h) (fun c => ?_) (hp_at K G h0) (hp_at K G h1) hM0 hM1 (by omega) (by rw [hro]; exact hfl.1) (by rw [hro]; exact hfl.2) hcat (hp_set K G h1 (cpy (G a0) (G a1) M)) hz kk
  have e : copied (vp_cell c (N0, .inr (.inl (fun j => lZ (G a0 j))))) (vp_cell c (N1, .inr (.inl (fun j => lZ (G a1 j))))) 0 0 (iZ (M : Int)) = vp_cell c (N1, .inr (.inl (va_cpy (fun j => lZ (G a0 j)) (fun j => lZ (G a1 j)) (0 : Int32).toNatClampNeg (0 : Int32).toNatClampNeg (iZ (M : Int)).toNatClampNeg))) := va_copied (fun z => .long z) c c (fun j => lZ (G a0 j)) (fun j => lZ (G a1 j)) (by rw [iZ_clN (by omega)]; show 0 + M ≤ N0; omega)
  rw [iZ_clN (by omega)] at e
  rw [cpy_l]
  exact e
end GCOPY
def cdL : Nat → Int → Int → Int
  | 0, a, _ => a
  | k + 1, a, b => if b = 0 then a else cdL k b (Int.tmod a b)
theorem tmod_in {a b : Int} (ha : 0 ≤ a) (hb : 0 ≤ b) (h0 : b ≠ 0) : 0 ≤ Int.tmod a b ∧ Int.tmod a b < b := ⟨Int.tmod_nonneg b ha, Int.tmod_lt_of_pos a (by omega)⟩
theorem cdL_in : ∀ (k : Nat) {a b : Int}, (0 ≤ a ∧ inL a) → (0 ≤ b ∧ inL b) → 0 ≤ cdL k a b ∧ inL (cdL k a b)
  | 0, _, _, ha, _ => ha
  | k + 1, a, b, ha, hb => by
    unfold cdL
    split
    · exact ha
    · next h =>
      have := tmod_in ha.1 hb.1 h
      exact cdL_in k hb ⟨this.1, by unfold inL at *; omega⟩
def gdZ (x y : Int) : Int := maxZ 1 (cdL 100 (absZ x) y)
theorem gdZ_1 (x y : Int) : 1 ≤ gdZ x y := by unfold gdZ maxZ; split <;> omega
def ansG (G : GT) (x y : Int) : GT := uG G 0 (up (up (G 0) 8 (Int.tdiv x (gdZ x y))) 9 (Int.tdiv y (gdZ x y)))
def payZ (p : Int) : Int := if -50 ≤ p ∧ p ≤ 50 then 1 else 0
def nxtZ (G : GT) (N s : Nat) : Int := comesZ G N (s * 3 + (likS G N s 0 44 (G 3 s).toNat).1.toNat) 44
def nxF (G : GT) (N i : Nat) : Nat → Int := fun s => if s < i then nxtZ G N s else G 46 s
theorem nxF_0 (G : GT) (N : Nat) : nxF G N 0 = G 46 := by funext s; exact if_neg (by omega)
theorem nxF_s (G : GT) (N i : Nat) : up (nxF G N i) i (nxtZ G N i) = nxF G N (i + 1) := by
  funext j; unfold up nxF
  by_cases h : j = i
  · subst h; rw [if_pos rfl, if_pos (by omega)]
  · rw [if_neg h]
    by_cases h2 : j < i
    · rw [if_pos h2, if_pos (by omega)]
    · rw [if_neg h2, if_neg (by omega)]
def stpG (G : GT) (N : Nat) : GT := uG (uG (uG G 46 (nxF G N N)) 45 (cpy (nxF G N N) (G 45) N)) 44 (up (G 44) 1 (G 44 1 * stepZ G))
def isbZ (G : GT) (N s a : Nat) : Int := if comesZ G N (s * 3 + a) 30 = (G 31 s) * (stepZ G) then 1 else 0
theorem isbZ_01 (G : GT) (N s a : Nat) : isbZ G N s a = 0 ∨ isbZ G N s a = 1 := by unfold isbZ; split <;> omega
def bbS (G : GT) (N s : Nat) : Nat → Int
  | 0 => 0
  | a + 1 => if isbZ G N s a = 1 then orZ (bbS G N s a) ((pw a : Nat) : Int) else bbS G N s a
theorem bbS_in (G : GT) (N s : Nat) : ∀ a, a ≤ 3 → 0 ≤ bbS G N s a ∧ bbS G N s a ≤ 63 ∧ (bbS G N s a).toNat < 2 ^ a
  | 0, _ => by unfold bbS; decide
  | a + 1, h => by
    have ih := bbS_in G N s a (by omega)
    have h1 := pw_in (k := a) (by omega)
    have h2 : (2 : Nat) ^ (a + 1) = 2 * 2 ^ a := by rw [Nat.pow_succ, Nat.mul_comm]
    unfold bbS
    split
    · have h3 := orZ_in ⟨ih.1, ih.2.1⟩ (show 0 ≤ ((pw a : Nat) : Int) ∧ ((pw a : Nat) : Int) ≤ 63 by omega)
      refine ⟨h3.1, h3.2, ?_⟩
      show ((((bbS G N s a).toNat ||| ((pw a : Nat) : Int).toNat : Nat) : Int)).toNat < _
      rw [Int.toNat_natCast, Int.toNat_natCast]
      exact Nat.or_lt_two_pow (by omega) (by show 2 ^ a < _; omega)
    · exact ⟨ih.1, ih.2.1, by omega⟩
/-- what bestBits and isBest need -/
def BstOk (G : GT) (N : Nat) : Prop := ComOk G N 30 ∧ ∀ s, s < N → inL ((G 31 s) * (stepZ G))
theorem mul_in {x y A B : Int} (hx : -A ≤ x ∧ x ≤ A) (hy : 0 ≤ y ∧ y ≤ B) (hA : 0 ≤ A) : -(A * B) ≤ x * y ∧ x * y ≤ A * B := by
  have h1 : x * y ≤ A * y := Int.mul_le_mul_of_nonneg_right hx.2 hy.1
  have h2 : A * y ≤ A * B := Int.mul_le_mul_of_nonneg_left hy.2 hA
  have h3 : -A * y ≤ x * y := Int.mul_le_mul_of_nonneg_right hx.1 hy.1
  rw [Int.neg_mul] at h3
  omega
theorem BstOk.of {G : GT} {N : Nat} (hw : WW G N) (hc : ComOk G N 30) (hn : NumOk G N) : BstOk G N := ⟨hc, fun s hs => by
  have h1 := hn.2.2 s hs
  have h2 := hw.2.2.1
  have := mul_in (A := 18139852800) (B := 360) ⟨h1.1, h1.2⟩ (show 0 ≤ stepZ G ∧ stepZ G ≤ 360 by unfold stepZ; omega) (by decide)
  unfold inL
  omega⟩
def sumA (G : GT) : Nat → Int
  | 0 => 0
  | s + 1 => sumA G s + G 3 s
def prodA (G : GT) : Nat → Int
  | 0 => 1
  | s + 1 => prodA G s * maxZ 1 (G 3 s)
def sumT (G : GT) : Nat → Int
  | 0 => 0
  | s + 1 => if G 2 s = 0 then sumT G s else sumT G s + 1
def bcZ (x : Nat) : Int := ((x % 2 + x / 2 % 2 + x / 4 % 2 : Nat) : Int)

set_option maxRecDepth 100000 in
set_option maxHeartbeats 4000000 in
theorem ct_V_commonDivisor (l : Launch) (D : va_G) (K : K5) (G : GT) (x y : Int) (hx : 0 ≤ x ∧ inL x) (hy : 0 ≤ y ∧ inL y) : Ct l D K y_V_commonDivisor c_V_commonDivisor 11 (some .long) 0 0 [vl x, vl y] G (some (vl (cdL 100 x y))) G := by
  refine Ct.intro (by decide +kernel) (Nat.le_of_ble_eq_true rfl) ?_
  intro X hro hty hC hE
  refine a_lload_n (pc := 0) (q := 0) (i := 0) (x := x) hC (by decide +kernel) rfl 0 rfl ?_
  refine a_lstore (pc := 1) (q := 0) (i := 4) (lv' := [(4, vl x), (0, vl x), (2, vl y)]) hC (by decide +kernel) (by decide) rfl ?_
  refine a_lload_n (pc := 3) (q := 2) (i := 2) (x := y) hC (by decide +kernel) rfl 2 rfl ?_
  refine a_lstore (pc := 4) (q := 0) (i := 6) (lv' := [(6, vl y), (4, vl x), (0, vl x), (2, vl y)]) hC (by decide +kernel) (by decide) rfl ?_
  refine a_iconst (pc := 6) (c := 0) hC (by decide +kernel) ?_
  refine a_istore (pc := 7) (q := 0) (i := 8) (lv' := [(8, vi 0), (6, vl y), (4, vl x), (0, vl x), (2, vl y)]) hC (by decide +kernel) (by decide) rfl ?_
  have L9 : ∀ (fuel : Nat) (k : Nat) (a : Int) (b : Int), 100 - k < fuel → k ≤ 100 → (0 ≤ a ∧ inL a) → (0 ≤ b ∧ inL b) → cdL (100 - k) a b = cdL 100 x y → AW X 11 0 0 9 [(8, vi ((k : Int))), (6, vl b), (4, vl a), (0, vl x), (2, vl y)] [] (hp K G) := by
    intro fuel
    induction fuel with
    | zero => intro k a b h; exact absurd h (Nat.not_lt_zero _)
    | succ fuel ih9 =>
      intro k a b hm hk0 ha hb hH
      refine a_iload (pc := 9) (i := 8) (x := (k : Int)) hC (by decide +kernel) 0 rfl ?_
      refine a_bipush (pc := 11) (c := 100) hC (by decide +kernel) (by decide +kernel) ?_
      refine a_icmp_ge (pc := 13) (off := 31) hC 44 (by decide +kernel) (by decide) (by unfold inI; omega) (by unfold inI; omega) (fun c13 => ?_) (fun c13 => ?_)
      · skip
        have hk : k = 100 := by omega
        refine a_lload (pc := 44) (i := 4) (x := a) hC (by decide +kernel) 2 rfl ?_
        exact g_lret (pc := 46) hC hE (by decide +kernel) (by rw [← hH]; first | exact hst.symm | (rw [hk]; rfl)) rfl
      · skip
        refine a_lload (pc := 16) (i := 6) (x := b) hC (by decide +kernel) 1 rfl ?_
        refine a_lconst (pc := 18) (c := 0) (z := 0) hC (by decide +kernel) rfl ?_
        refine a_lcmp (pc := 19) hC (by decide +kernel) hb.2 inL_0 ?_
        refine a_if_eq (pc := 20) (off := 24) hC 44 (by decide +kernel) (by decide) (cmpZ_in _ _) (fun c20 => ?_) (fun c20 => ?_)
        · skip
          rw [cmpZ_eq] at c20
          have hst : cdL (100 - k) a b = a := by
            rw [show 100 - k = (99 - k) + 1 by omega]; show (if _ then _ else _) = _; rw [if_pos c20]
          refine a_lload (pc := 44) (i := 4) (x := a) hC (by decide +kernel) 2 rfl ?_
          exact g_lret (pc := 46) hC hE (by decide +kernel) (by rw [← hH]; first | exact hst.symm | (rw [hk]; rfl)) rfl
        · skip
          rw [cmpZ_eq] at c20
          have hst : cdL (100 - k) a b = cdL (100 - (k + 1)) b (Int.tmod a b) := by
            rw [show 100 - k = (99 - k) + 1 by omega, show 100 - (k + 1) = 99 - k by omega]; show (if _ then _ else _) = _; rw [if_neg c20]
          have htm := tmod_in ha.1 hb.1 c20
          refine a_lload (pc := 23) (i := 4) (x := a) hC (by decide +kernel) 2 rfl ?_
          refine a_lload (pc := 25) (i := 6) (x := b) hC (by decide +kernel) 1 rfl ?_
          refine a_lrem (pc := 27) hC (by decide +kernel) ha.2 hb.2 c20 ?_
          refine a_lstore (pc := 28) (q := 0) (i := 9) (lv' := [(9, vl (Int.tmod a b)), (8, vi ((k : Int))), (6, vl b), (4, vl a), (0, vl x), (2, vl y)]) hC (by decide +kernel) (by decide) rfl ?_
          refine a_lload (pc := 30) (i := 6) (x := b) hC (by decide +kernel) 2 rfl ?_
          refine a_lstore (pc := 32) (q := 0) (i := 4) (lv' := [(4, vl b), (9, vl (Int.tmod a b)), (8, vi ((k : Int))), (6, vl b), (0, vl x), (2, vl y)]) hC (by decide +kernel) (by decide) rfl ?_
          refine a_lload (pc := 34) (i := 9) (x := Int.tmod a b) hC (by decide +kernel) 1 rfl ?_
          refine a_lstore (pc := 36) (q := 0) (i := 6) (lv' := [(6, vl (Int.tmod a b)), (4, vl b), (9, vl (Int.tmod a b)), (8, vi ((k : Int))), (0, vl x), (2, vl y)]) hC (by decide +kernel) (by decide) rfl ?_
          refine a_iinc (pc := 38) (i := 8) (c := 1) (x := (k : Int)) (lv' := [(8, vi (((k : Int)) + 1)), (6, vl (Int.tmod a b)), (4, vl b), (9, vl (Int.tmod a b)), (0, vl x), (2, vl y)]) hC (by decide +kernel) 3 rfl (by decide) rfl ?_
          refine a_goto (pc := 41) (off := -32) hC 9 (by decide +kernel) (by decide) ?_
          refine a_sub (lv' := [(8, vi (((k + 1) : Int))), (6, vl ((Int.tmod a b))), (4, vl b), (0, vl x), (2, vl y)]) [0, 1, 2, 4, 5] rfl ?_
          exact ih9 (k + 1) b (Int.tmod a b) (by omega) (by omega) hb ⟨htm.1, by have := hb.2; unfold inL at *; omega⟩ (by rw [← hst]; exact hH)
  refine a_sub (lv' := [(8, vi ((0 : Int))), (6, vl y), (4, vl x), (0, vl x), (2, vl y)]) [0, 1, 2, 3, 4] rfl ?_
  exact L9 _ 0 x y (Nat.lt_succ_self _) (by omega) hx hy rfl

set_option maxRecDepth 100000 in
set_option maxHeartbeats 4000000 in
theorem ct_V_giveAnswer (l : Launch) (D : va_G) (K : K5) (G : GT) (x y : Int) (hx : inL x) (hax : inL (absZ x)) (hy : 0 ≤ y ∧ inL y) : Ct l D K y_V_giveAnswer c_V_giveAnswer 7 (some .int) 1 30 [.ref 0, vl x, vl y] G (some (vi 1)) (ansG G x y) := by
  refine Ct.intro (by decide +kernel) (Nat.le_of_ble_eq_true rfl) ?_
  intro X hro hty hC hE
  have hab : 0 ≤ absZ x := by unfold absZ; split <;> omega
  have hcd := cdL_in 100 ⟨hab, hax⟩ hy
  have hg1 := gdZ_1 x y
  have hgi : inL (gdZ x y) := by unfold gdZ maxZ; unfold inL at *; split <;> omega
  refine a_lconst (pc := 0) (c := 1) (z := 1) hC (by decide +kernel) rfl ?_
  refine a_lload_n (pc := 1) (q := 1) (i := 1) (x := x) hC (by decide +kernel) rfl 1 rfl ?_
  refine g_callS (pc := 2) (idx := 182) (av := [vl x]) (rest := [vl 1]) (g := G) (v := vl (absZ x)) hC hro hty (by decide +kernel) k_JM_abs (by decide +kernel) (by decide +kernel) (ct_JM_abs X.la X.dd K G x hx) rfl rfl (by decide) (by first | decide | simp [Value.category]) ?_
  refine a_lload_n (pc := 5) (q := 3) (i := 3) (x := y) hC (by decide +kernel) rfl 2 rfl ?_
  refine g_callS (pc := 6) (idx := 188) (av := [vl (absZ x), vl y]) (rest := [vl 1]) (g := G) (v := vl (cdL 100 (absZ x) y)) hC hro hty (by decide +kernel) k_V_commonDivisor (by decide +kernel) (by decide +kernel) (ct_V_commonDivisor X.la X.dd K G (absZ x) y ⟨hab, hax⟩ hy) rfl rfl (by decide) (by first | decide | simp [Value.category]) ?_
  refine g_callS (pc := 9) (idx := 192) (av := [vl 1, vl (cdL 100 (absZ x) y)]) (rest := []) (g := G) (v := vl (maxZ 1 (cdL 100 (absZ x) y))) hC hro hty (by decide +kernel) k_JM_max_JJ (by decide +kernel) (by decide +kernel) (ct_JM_max_JJ X.la X.dd K G 1 (cdL 100 (absZ x) y) ⟨by decide, by decide⟩ hcd.2) rfl rfl (by decide) (by first | decide | simp [Value.category]) ?_
  refine g_topl (y := gdZ x y) rfl ?_
  refine a_lstore (pc := 12) (q := 0) (i := 5) (lv' := [(5, vl (gdZ x y)), (0, .ref 0), (1, vl x), (3, vl y)]) hC (by decide +kernel) (by decide) rfl ?_
  refine a_aload_n (pc := 14) (q := 0) (i := 0) (x := 0) hC (by decide +kernel) rfl 1 rfl ?_
  refine a_lload_n (pc := 15) (q := 1) (i := 1) (x := x) hC (by decide +kernel) rfl 2 rfl ?_
  refine a_lload (pc := 16) (i := 5) (x := gdZ x y) hC (by decide +kernel) 0 rfl ?_
  refine a_ldiv (pc := 18) hC (by decide +kernel) hx hgi (by omega) ?_
  refine g_put (pc := 19) (idx := 51) (ci := 5) (x := Int.tdiv x (gdZ x y)) hC 0 8 (by decide +kernel) rfl rfl (congrArg (fun z => vl z) (up_s _ _ _)) rfl wrV (by decide) rfl (by decide +kernel) rfl (ok_long _) ?_
  refine a_aload_n (pc := 22) (q := 0) (i := 0) (x := 0) hC (by decide +kernel) rfl 1 rfl ?_
  refine a_lload_n (pc := 23) (q := 3) (i := 3) (x := y) hC (by decide +kernel) rfl 3 rfl ?_
  refine a_lload (pc := 24) (i := 5) (x := gdZ x y) hC (by decide +kernel) 0 rfl ?_
  refine a_ldiv (pc := 26) hC (by decide +kernel) hy.2 hgi (by omega) ?_
  refine g_put (pc := 27) (idx := 55) (ci := 5) (x := Int.tdiv y (gdZ x y)) hC 0 9 (by decide +kernel) rfl rfl (congrArg (fun z => vl z) (up_s _ _ _)) rfl wrV (by decide) rfl (by decide +kernel) rfl (ok_long _) ?_
  refine a_iconst (pc := 30) (c := 1) hC (by decide +kernel) ?_
  exact g_iret (pc := 31) hC hE (by decide +kernel) rfl (by rw [uG_s, uG_uG]; rfl)

set_option maxRecDepth 100000 in
set_option maxHeartbeats 4000000 in
theorem ct_V_isPay (l : Launch) (D : va_G) (K : K5) (G : GT) (p : Int) (hp0 : inI p) : Ct l D K y_V_isPay c_V_isPay 1 (some .boolean) 0 0 [vi p] G (some (vi (payZ p))) G := by
  refine Ct.intro (by decide +kernel) (Nat.le_of_ble_eq_true rfl) ?_
  intro X hro hty hC hE
  unfold inI at hp0
  refine a_iload_n (pc := 0) (q := 0) (i := 0) (x := p) hC (by decide +kernel) rfl 0 rfl ?_
  refine a_bipush (pc := 1) (c := -50) hC (by decide +kernel) (by decide +kernel) ?_
  refine a_icmp_lt (pc := 3) (off := 13) hC 16 (by decide +kernel) (by decide) (by unfold inI; omega) (by unfold inI; omega) (fun c3 => ?_) (fun c3 => ?_)
  · skip
    refine a_iconst (pc := 16) (c := 0) hC (by decide +kernel) ?_
    exact g_zret (pc := 17) hC hE (by decide +kernel) (by omega) (by unfold payZ; split <;> omega) rfl
  · skip
    refine a_iload_n (pc := 6) (q := 0) (i := 0) (x := p) hC (by decide +kernel) rfl 0 rfl ?_
    refine a_bipush (pc := 7) (c := 50) hC (by decide +kernel) (by decide +kernel) ?_
    refine a_icmp_gt (pc := 9) (off := 7) hC 16 (by decide +kernel) (by decide) (by unfold inI; omega) (by unfold inI; omega) (fun c9 => ?_) (fun c9 => ?_)
    · skip
      refine a_iconst (pc := 16) (c := 0) hC (by decide +kernel) ?_
      exact g_zret (pc := 17) hC hE (by decide +kernel) (by omega) (by unfold payZ; split <;> omega) rfl
    · skip
      refine a_iconst (pc := 12) (c := 1) hC (by decide +kernel) ?_
      refine a_goto (pc := 13) (off := 4) hC 17 (by decide +kernel) (by decide) ?_
      exact g_zret (pc := 17) hC hE (by decide +kernel) (by omega) (by unfold payZ; split <;> omega) rfl

set_option maxRecDepth 100000 in
set_option maxHeartbeats 4000000 in
theorem ct_V_tryToldPlan (l : Launch) (D : va_G) (K : K5) (G : GT)  : Ct l D K y_V_tryToldPlan c_V_tryToldPlan 1 none 1 60 [.ref 0] G none (uG G 49 (cpy (G 47) (G 49) 5)) := by
  refine Ct.intro (by decide +kernel) (Nat.le_of_ble_eq_true rfl) ?_
  intro X hro hty hC hE
  refine a_aload_n (pc := 0) (q := 0) (i := 0) (x := 0) hC (by decide +kernel) rfl 0 rfl ?_
  refine g_get (pc := 1) (idx := 41) (ci := 5) (v := .ref 47) hC 0 5 (by decide +kernel) rfl rfl rfl rfl wrV (by decide) rfl (by decide +kernel) ?_
  refine a_iconst (pc := 4) (c := 0) hC (by decide +kernel) ?_
  refine a_aload_n (pc := 5) (q := 0) (i := 0) (x := 0) hC (by decide +kernel) rfl 0 rfl ?_
  refine g_get (pc := 6) (idx := 48) (ci := 5) (v := .ref 49) hC 0 7 (by decide +kernel) rfl rfl rfl rfl wrV (by decide) rfl (by decide +kernel) ?_
  refine a_iconst (pc := 9) (c := 0) hC (by decide +kernel) ?_
  refine a_iconst (pc := 10) (c := 5) hC (by decide +kernel) ?_
  refine g_copyI (pc := 11) (idx := 195) (a0 := 47) (a1 := 49) (M := 5) hC hro hty (by decide +kernel) (by decide +kernel) rfl rfl (by omega) (by omega) (by decide) (by decide) (by first | decide | simp [Value.category]) rfl ?_
  exact g_vret (pc := 14) hC hE (by decide +kernel) rfl

set_option maxRecDepth 100000 in
set_option maxHeartbeats 4000000 in
theorem ct_V_stepBack (l : Launch) (D : va_G) (K : K5) (G : GT) (N : Nat) (hw : WW G N) (hco : ComOk G N 44) : Ct l D K y_V_stepBack c_V_stepBack 3 none 3 77 [.ref 0] G none (stpG G N) := by
  refine Ct.intro (by decide +kernel) (Nat.le_of_ble_eq_true rfl) ?_
  intro X hro hty hC hE
  obtain ⟨hn, hN5, hsh, hac, hpa, hwe, hth⟩ := id hw
  refine a_iconst (pc := 0) (c := 0) hC (by decide +kernel) ?_
  refine a_istore_n (pc := 1) (q := 1) (i := 1) (lv' := [(1, vi 0), (0, .ref 0)]) hC (by decide +kernel) rfl (by decide) rfl ?_
  have L2 : ∀ (fuel : Nat) (s : Nat), N - s < fuel → s ≤ N → AW X 3 0 0 2 [(1, vi ((s : Int))), (0, .ref 0)] [] (hp K (uG G 46 (nxF G N s))) := by
    intro fuel
    induction fuel with
    | zero => intro s h; exact absurd h (Nat.not_lt_zero _)
    | succ fuel ih2 =>
      intro s hm hs
      refine a_iload_n (pc := 2) (q := 1) (i := 1) (x := (s : Int)) hC (by decide +kernel) rfl 0 rfl ?_
      refine a_aload_n (pc := 3) (q := 0) (i := 0) (x := 0) hC (by decide +kernel) rfl 1 rfl ?_
      refine g_get (pc := 4) (idx := 10) (ci := 5) (v := .ref 1) hC 0 0 (by decide +kernel) rfl rfl rfl rfl wrV (by decide) rfl (by decide +kernel) ?_
      refine g_getN (pc := 7) (idx := 67) (ci := 4) (v := vi ((uG G 46 (nxF G N s)) 1 0)) (host := "PlanValues") hC 1 0 (by decide +kernel) rfl rfl rfl rfl wrW (by decide) rfl (by decide +kernel) ?_
      refine g_top (y := (N : Int)) (by rw [uG_n _ _ (by omega)]; exact hn) ?_
      refine a_icmp_ge (pc := 10) (off := 45) hC 55 (by decide +kernel) (by decide) (by unfold inI; omega) (by unfold inI; omega) (fun c10 => ?_) (fun c10 => ?_)
      · skip
        refine a_aload_n (pc := 55) (q := 0) (i := 0) (x := 0) hC (by decide +kernel) rfl 1 rfl ?_
        refine g_get (pc := 56) (idx := 37) (ci := 5) (v := .ref 46) hC 0 4 (by decide +kernel) rfl rfl rfl rfl wrV (by decide) rfl (by decide +kernel) ?_
        refine a_iconst (pc := 59) (c := 0) hC (by decide +kernel) ?_
        refine a_aload_n (pc := 60) (q := 0) (i := 0) (x := 0) hC (by decide +kernel) rfl 1 rfl ?_
        refine g_get (pc := 61) (idx := 33) (ci := 5) (v := .ref 44) hC 0 3 (by decide +kernel) rfl rfl rfl rfl wrV (by decide) rfl (by decide +kernel) ?_
        refine g_getN (pc := 64) (idx := 119) (ci := 2) (v := .ref 45) (host := "PlanValues") hC 44 0 (by decide +kernel) rfl rfl rfl rfl wrU (by decide) rfl (by decide +kernel) ?_
        refine a_iconst (pc := 67) (c := 0) hC (by decide +kernel) ?_
        refine a_aload_n (pc := 68) (q := 0) (i := 0) (x := 0) hC (by decide +kernel) rfl 1 rfl ?_
        refine g_get (pc := 69) (idx := 10) (ci := 5) (v := .ref 1) hC 0 0 (by decide +kernel) rfl rfl rfl rfl wrV (by decide) rfl (by decide +kernel) ?_
        refine g_getN (pc := 72) (idx := 67) (ci := 4) (v := vi ((uG G 46 (nxF G N s)) 1 0)) (host := "PlanValues") hC 1 0 (by decide +kernel) rfl rfl rfl rfl wrW (by decide) rfl (by decide +kernel) ?_
        refine g_top (y := (N : Int)) (by rw [uG_n _ _ (by omega)]; exact hn) ?_
        refine g_copyL (pc := 75) (idx := 195) (a0 := 46) (a1 := 45) (M := N) hC hro hty (by decide +kernel) (by decide +kernel) rfl rfl (by omega) (by omega) (by decide) (by decide) (by first | decide | simp [Value.category]) (by omega) ?_
        refine g_G (G' := uG (uG G 46 (nxF G N N)) 45 (cpy (nxF G N N) (G 45) N)) (by rw [show s = N by omega, uG_s]; rfl) ?_
        refine a_aload_n (pc := 78) (q := 0) (i := 0) (x := 0) hC (by decide +kernel) rfl 1 rfl ?_
        refine g_get (pc := 79) (idx := 33) (ci := 5) (v := .ref 44) hC 0 3 (by decide +kernel) rfl rfl rfl rfl wrV (by decide) rfl (by decide +kernel) ?_
        refine a_dup (pc := 82) hC (by decide +kernel) rfl ?_
        refine g_getN (pc := 83) (idx := 122) (ci := 2) (v := vl ((uG (uG G 46 (nxF G N N)) 45 (cpy (nxF G N N) (G 45) N)) 44 1)) (host := "PlanValues") hC 44 1 (by decide +kernel) rfl rfl rfl rfl wrU (by decide) rfl (by decide +kernel) ?_
        refine g_topl (y := G 44 1) rfl ?_
        refine a_aload_n (pc := 86) (q := 0) (i := 0) (x := 0) hC (by decide +kernel) rfl 1 rfl ?_
        refine g_get (pc := 87) (idx := 10) (ci := 5) (v := .ref 1) hC 0 0 (by decide +kernel) rfl rfl rfl rfl wrV (by decide) rfl (by decide +kernel) ?_
        refine g_callVN (pc := 90) (idx := 133) (i := 1) (av := []) (rest := [vl (G 44 1), .ref 44]) (g := uG (uG G 46 (nxF G N N)) 45 (cpy (nxF G N N) (G 45) N)) (v := vl (stepZ (uG (uG G 46 (nxF G N N)) 45 (cpy (nxF G N N) (G 45) N)))) (host := "PlanValues") hC hro hty (by decide +kernel) rfl rfl k_W_stepScale (by decide +kernel) (by decide +kernel) (by decide +kernel) (ct_W_stepScale X.la X.dd K (uG (uG G 46 (nxF G N N)) 45 (cpy (nxF G N N) (G 45) N)) N (hw.keep (fun c hc => by rw [uG_n _ _ (by omega), uG_n _ _ (by omega)]))) rfl rfl (by decide) (by first | decide | simp [Value.category]) ?_
        refine g_topl (y := stepZ G) rfl ?_
        refine a_lmul (pc := 93) hC (by decide +kernel) ?_
        refine g_putN (pc := 94) (idx := 122) (ci := 2) (x := (G 44 1) * (stepZ G)) (host := "PlanValues") hC 44 1 (by decide +kernel) rfl rfl (congrArg (fun z => vl z) (up_s _ _ _)) rfl wrU (by decide) rfl (by decide +kernel) rfl (ok_long _) ?_
        exact g_vret (pc := 97) hC hE (by decide +kernel) rfl
      · skip
        obtain ⟨A, hA⟩ : ∃ A : Nat, G 3 s = (A : Int) := ⟨(G 3 s).toNat, by have := hac s (by omega); omega⟩
        have hA3 := hac s (by omega)
        have hli := (likS_in (G := G) (N := N) (s := s) (held := 0) (u := 44) (A := A) (by omega) (by omega) (fun a ha => hco (s * 3 + a) (by omega)) A (Nat.le_refl _)).2
        obtain ⟨c, hc, hc3⟩ : ∃ c : Nat, (likS G N s 0 44 A).1 = (c : Int) ∧ c < 3 := ⟨(likS G N s 0 44 A).1.toNat, by omega, by omega⟩
        have hnx : nxtZ G N s = comesZ G N (s * 3 + c) 44 := by unfold nxtZ; rw [hA, Int.toNat_natCast, hc, Int.toNat_natCast]
        refine a_aload_n (pc := 13) (q := 0) (i := 0) (x := 0) hC (by decide +kernel) rfl 1 rfl ?_
        refine g_get (pc := 14) (idx := 10) (ci := 5) (v := .ref 1) hC 0 0 (by decide +kernel) rfl rfl rfl rfl wrV (by decide) rfl (by decide +kernel) ?_
        refine a_iload_n (pc := 17) (q := 1) (i := 1) (x := (s : Int)) hC (by decide +kernel) rfl 0 rfl ?_
        refine a_iconst (pc := 18) (c := 0) hC (by decide +kernel) ?_
        refine a_aload_n (pc := 19) (q := 0) (i := 0) (x := 0) hC (by decide +kernel) rfl 1 rfl ?_
        refine g_get (pc := 20) (idx := 33) (ci := 5) (v := .ref 44) hC 0 3 (by decide +kernel) rfl rfl rfl rfl wrV (by decide) rfl (by decide +kernel) ?_
        have hcg : ∀ c, c ≤ 45 → uG G 46 (nxF G N s) c = G c := fun c hc => uG_n _ _ (by omega)
        have hlk := likS_congr (N := N) (s := s) (held := 0) (u := 44) (fun c hc => hcg c (by omega)) (hcg 44 (by omega)) (hcg 45 (by omega)) (by omega) (by omega) A (by omega)
        refine g_callVN (pc := 23) (idx := 201) (i := 1) (av := [vi ((s : Int)), vi 0, .ref 44]) (rest := []) (g := uG G 46 (nxF G N s)) (v := vi ((likS (uG G 46 (nxF G N s)) N s 0 44 A).1)) (host := "PlanValues") hC hro hty (by decide +kernel) rfl rfl k_W_likedAct (by decide +kernel) (by decide +kernel) (by decide +kernel) (ct_W_likedAct X.la X.dd K (uG G 46 (nxF G N s)) N s 0 44 A (by omega) (by omega) (by rw [hcg 3 (by omega)]; exact hA) rfl rfl (hw.keep (fun c hc => hcg c (by omega))) (fun a ha => by rw [comesZ_congr (fun c hc => hcg c (by omega)) (hcg 44 (by omega)) (hcg 45 (by omega)) (by omega)]; exact hco (s * 3 + a) (by omega))) rfl rfl (by decide) (by first | decide | simp [Value.category]) ?_
        refine g_top (y := (c : Int)) (by rw [hlk, hc]) ?_
        refine a_istore_n (pc := 26) (q := 2) (i := 2) (lv' := [(2, vi ((c : Int))), (1, vi ((s : Int))), (0, .ref 0)]) hC (by decide +kernel) rfl (by decide) rfl ?_
        refine a_aload_n (pc := 27) (q := 0) (i := 0) (x := 0) hC (by decide +kernel) rfl 2 rfl ?_
        refine g_get (pc := 28) (idx := 37) (ci := 5) (v := .ref 46) hC 0 4 (by decide +kernel) rfl rfl rfl rfl wrV (by decide) rfl (by decide +kernel) ?_
        refine a_iload_n (pc := 31) (q := 1) (i := 1) (x := (s : Int)) hC (by decide +kernel) rfl 1 rfl ?_
        refine a_aload_n (pc := 32) (q := 0) (i := 0) (x := 0) hC (by decide +kernel) rfl 2 rfl ?_
        refine g_get (pc := 33) (idx := 10) (ci := 5) (v := .ref 1) hC 0 0 (by decide +kernel) rfl rfl rfl rfl wrV (by decide) rfl (by decide +kernel) ?_
        refine a_iload_n (pc := 36) (q := 1) (i := 1) (x := (s : Int)) hC (by decide +kernel) rfl 1 rfl ?_
        refine a_iload_n (pc := 37) (q := 2) (i := 2) (x := (c : Int)) hC (by decide +kernel) rfl 0 rfl ?_
        refine g_callSN (pc := 38) (idx := 93) (av := [vi ((s : Int)), vi ((c : Int))]) (rest := [.ref 1, vi ((s : Int)), .ref 46]) (g := uG G 46 (nxF G N s)) (v := vi (((s : Int)) * 3 + ((c : Int)))) (host := "PlanValues") hC hro hty (by decide +kernel) k_W_slotOf (by decide +kernel) (by decide +kernel) (ct_W_slotOf X.la X.dd K (uG G 46 (nxF G N s)) ((s : Int)) ((c : Int))) rfl rfl (by decide) (by first | decide | simp [Value.category]) ?_
        refine g_top (y := ((s * 3 + c : Nat) : Int)) (by omega) ?_
        refine a_aload_n (pc := 41) (q := 0) (i := 0) (x := 0) hC (by decide +kernel) rfl 2 rfl ?_
        refine g_get (pc := 42) (idx := 33) (ci := 5) (v := .ref 44) hC 0 3 (by decide +kernel) rfl rfl rfl rfl wrV (by decide) rfl (by decide +kernel) ?_
        refine g_callVN (pc := 45) (idx := 129) (i := 1) (av := [vi (((s * 3 + c : Nat) : Int)), .ref 44]) (rest := [vi ((s : Int)), .ref 46]) (g := uG G 46 (nxF G N s)) (v := vl (comesZ (uG G 46 (nxF G N s)) N (s * 3 + c) 44)) (host := "PlanValues") hC hro hty (by decide +kernel) rfl rfl k_W_comesTo (by decide +kernel) (by decide +kernel) (by decide +kernel) (ct_W_comesTo X.la X.dd K (uG G 46 (nxF G N s)) N (s * 3 + c) 44 (by omega) rfl rfl (hw.keep (fun c hc => hcg c (by omega)))) rfl rfl (by decide) (by first | decide | simp [Value.category]) ?_
        refine g_topl (y := nxtZ G N s) (by rw [comesZ_congr (fun c hc => hcg c (by omega)) (hcg 44 (by omega)) (hcg 45 (by omega)) (by omega), hnx]) ?_
        refine g_last (pc := 48) (a := 46) (j := s) (x := nxtZ G N s) hC hty (by decide +kernel) rfl (by omega) (by first | decide | omega) ?_
        refine a_iinc (pc := 49) (i := 1) (c := 1) (x := (s : Int)) (lv' := [(1, vi (((s : Int)) + 1)), (2, vi ((c : Int))), (0, .ref 0)]) hC (by decide +kernel) 1 rfl (by decide) rfl ?_
        refine a_goto (pc := 52) (off := -50) hC 2 (by decide +kernel) (by decide) ?_
        refine a_sub (lv' := [(1, vi (((s + 1) : Int))), (0, .ref 0)]) [0, 2] rfl ?_
        refine g_G (G' := uG G 46 (nxF G N (s + 1))) (by rw [uG_s, uG_uG, nxF_s]) ?_
        exact ih2 (s + 1) (by omega) (by omega)
  refine a_sub (lv' := [(1, vi ((0 : Int))), (0, .ref 0)]) [0, 1] rfl ?_
  refine g_G (G' := uG G 46 (nxF G N 0)) (by rw [nxF_0, uG_self]) ?_
  exact L2 _ 0 (Nat.lt_succ_self _) (by omega)

set_option maxRecDepth 100000 in
set_option maxHeartbeats 4000000 in
theorem ct_V_isBest (l : Launch) (D : va_G) (K : K5) (G : GT) (N s a : Nat) (hs : s < N) (ha : a < 3) (hw : WW G N) (hbo : BstOk G N) : Ct l D K y_V_isBest c_V_isBest 5 (some .boolean) 2 48 [.ref 0, vi ((s : Int)), vi ((a : Int))] G (some (vi (isbZ G N s a))) G := by
  refine Ct.intro (by decide +kernel) (Nat.le_of_ble_eq_true rfl) ?_
  intro X hro hty hC hE
  obtain ⟨hn, hN5, hsh, hac, hpa, hwe, hth⟩ := id hw
  refine a_aload_n (pc := 0) (q := 0) (i := 0) (x := 0) hC (by decide +kernel) rfl 0 rfl ?_
  refine g_get (pc := 1) (idx := 10) (ci := 5) (v := .ref 1) hC 0 0 (by decide +kernel) rfl rfl rfl rfl wrV (by decide) rfl (by decide +kernel) ?_
  refine a_iload_n (pc := 4) (q := 1) (i := 1) (x := (s : Int)) hC (by decide +kernel) rfl 1 rfl ?_
  refine a_iload_n (pc := 5) (q := 2) (i := 2) (x := (a : Int)) hC (by decide +kernel) rfl 2 rfl ?_
  refine g_callSN (pc := 6) (idx := 93) (av := [vi ((s : Int)), vi ((a : Int))]) (rest := [.ref 1]) (g := G) (v := vi (((s : Int)) * 3 + ((a : Int)))) (host := "PlanValues") hC hro hty (by decide +kernel) k_W_slotOf (by decide +kernel) (by decide +kernel) (ct_W_slotOf X.la X.dd K G ((s : Int)) ((a : Int))) rfl rfl (by decide) (by first | decide | simp [Value.category]) ?_
  refine g_top (y := ((s * 3 + a : Nat) : Int)) (by omega) ?_
  refine a_aload_n (pc := 9) (q := 0) (i := 0) (x := 0) hC (by decide +kernel) rfl 0 rfl ?_
  refine g_get (pc := 10) (idx := 19) (ci := 5) (v := .ref 22) hC 0 1 (by decide +kernel) rfl rfl rfl rfl wrV (by decide) rfl (by decide +kernel) ?_
  refine g_getN (pc := 13) (idx := 116) (ci := 3) (v := .ref 30) (host := "PlanValues") hC 22 1 (by decide +kernel) rfl rfl rfl rfl wrP (by decide) rfl (by decide +kernel) ?_
  refine g_callVN (pc := 16) (idx := 129) (i := 1) (av := [vi (((s * 3 + a : Nat) : Int)), .ref 30]) (rest := []) (g := G) (v := vl (comesZ G N (s * 3 + a) 30)) (host := "PlanValues") hC hro hty (by decide +kernel) rfl rfl k_W_comesTo (by decide +kernel) (by decide +kernel) (by decide +kernel) (ct_W_comesTo X.la X.dd K G N (s * 3 + a) 30 (by omega) rfl rfl hw) rfl rfl (by decide) (by first | decide | simp [Value.category]) ?_
  refine a_lstore_n (pc := 19) (q := 3) (i := 3) (lv' := [(3, vl (comesZ G N (s * 3 + a) 30)), (0, .ref 0), (1, vi ((s : Int))), (2, vi ((a : Int)))]) hC (by decide +kernel) rfl (by decide) rfl ?_
  refine a_lload_n (pc := 20) (q := 3) (i := 3) (x := comesZ G N (s * 3 + a) 30) hC (by decide +kernel) rfl 0 rfl ?_
  refine a_aload_n (pc := 21) (q := 0) (i := 0) (x := 0) hC (by decide +kernel) rfl 1 rfl ?_
  refine g_get (pc := 22) (idx := 19) (ci := 5) (v := .ref 22) hC 0 1 (by decide +kernel) rfl rfl rfl rfl wrV (by decide) rfl (by decide +kernel) ?_
  refine g_getN (pc := 25) (idx := 116) (ci := 3) (v := .ref 30) (host := "PlanValues") hC 22 1 (by decide +kernel) rfl rfl rfl rfl wrP (by decide) rfl (by decide +kernel) ?_
  refine g_getN (pc := 28) (idx := 119) (ci := 2) (v := .ref 31) (host := "PlanValues") hC 30 0 (by decide +kernel) rfl rfl rfl rfl wrU (by decide) rfl (by decide +kernel) ?_
  refine a_iload_n (pc := 31) (q := 1) (i := 1) (x := (s : Int)) hC (by decide +kernel) rfl 2 rfl ?_
  refine g_lald (pc := 32) (a := 31) (j := s) hC hty (by decide +kernel) rfl (by omega) (by first | decide | omega) ?_
  refine a_aload_n (pc := 33) (q := 0) (i := 0) (x := 0) hC (by decide +kernel) rfl 1 rfl ?_
  refine g_get (pc := 34) (idx := 10) (ci := 5) (v := .ref 1) hC 0 0 (by decide +kernel) rfl rfl rfl rfl wrV (by decide) rfl (by decide +kernel) ?_
  refine g_callVN (pc := 37) (idx := 133) (i := 1) (av := []) (rest := [vl (G 31 s), vl (comesZ G N (s * 3 + a) 30)]) (g := G) (v := vl (stepZ G)) (host := "PlanValues") hC hro hty (by decide +kernel) rfl rfl k_W_stepScale (by decide +kernel) (by decide +kernel) (by decide +kernel) (ct_W_stepScale X.la X.dd K G N hw) rfl rfl (by decide) (by first | decide | simp [Value.category]) ?_
  refine a_lmul (pc := 40) hC (by decide +kernel) ?_
  refine a_lcmp (pc := 41) hC (by decide +kernel) (hbo.1 _ (by omega)) (hbo.2 s hs) ?_
  refine a_if_ne (pc := 42) (off := 7) hC 49 (by decide +kernel) (by decide) (cmpZ_in _ _) (fun c42 => ?_) (fun c42 => ?_)
  · skip
    rw [cmpZ_eq] at c42
    refine a_iconst (pc := 49) (c := 0) hC (by decide +kernel) ?_
    exact g_zret (pc := 50) hC hE (by decide +kernel) (by omega) (by unfold isbZ; split <;> omega) rfl
  · skip
    rw [cmpZ_eq] at c42
    refine a_iconst (pc := 45) (c := 1) hC (by decide +kernel) ?_
    refine a_goto (pc := 46) (off := 4) hC 50 (by decide +kernel) (by decide) ?_
    exact g_zret (pc := 50) hC hE (by decide +kernel) (by omega) (by unfold isbZ; split <;> omega) rfl

set_option maxRecDepth 100000 in
set_option maxHeartbeats 4000000 in
theorem ct_V_bestBits (l : Launch) (D : va_G) (K : K5) (G : GT) (N s A : Nat) (hs : s < N) (hA : G 3 s = (A : Int)) (hw : WW G N) (hbo : BstOk G N) : Ct l D K y_V_bestBits c_V_bestBits 4 (some .int) 3 72 [.ref 0, vi ((s : Int))] G (some (vi (bbS G N s A))) G := by
  refine Ct.intro (by decide +kernel) (Nat.le_of_ble_eq_true rfl) ?_
  intro X hro hty hC hE
  obtain ⟨hn, hN5, hsh, hac, hpa, hwe, hth⟩ := id hw
  have h3 := hac s (by omega)
  refine a_iconst (pc := 0) (c := 0) hC (by decide +kernel) ?_
  refine a_istore_n (pc := 1) (q := 2) (i := 2) (lv' := [(2, vi 0), (0, .ref 0), (1, vi ((s : Int)))]) hC (by decide +kernel) rfl (by decide) rfl ?_
  refine a_iconst (pc := 2) (c := 0) hC (by decide +kernel) ?_
  refine a_istore_n (pc := 3) (q := 3) (i := 3) (lv' := [(3, vi 0), (2, vi 0), (0, .ref 0), (1, vi ((s : Int)))]) hC (by decide +kernel) rfl (by decide) rfl ?_
  have L4 : ∀ (fuel : Nat) (a : Nat), A - a < fuel → a ≤ A → AW X 4 0 0 4 [(3, vi ((a : Int))), (2, vi (bbS G N s a)), (0, .ref 0), (1, vi ((s : Int)))] [] (hp K G) := by
    intro fuel
    induction fuel with
    | zero => intro a h; exact absurd h (Nat.not_lt_zero _)
    | succ fuel ih4 =>
      intro a hm ha
      have hbi := bbS_in G N s a (by omega)
      refine a_iload_n (pc := 4) (q := 3) (i := 3) (x := (a : Int)) hC (by decide +kernel) rfl 0 rfl ?_
      refine a_aload_n (pc := 5) (q := 0) (i := 0) (x := 0) hC (by decide +kernel) rfl 2 rfl ?_
      refine g_get (pc := 6) (idx := 10) (ci := 5) (v := .ref 1) hC 0 0 (by decide +kernel) rfl rfl rfl rfl wrV (by decide) rfl (by decide +kernel) ?_
      refine g_getN (pc := 9) (idx := 82) (ci := 4) (v := .ref 3) (host := "PlanValues") hC 1 4 (by decide +kernel) rfl rfl rfl rfl wrW (by decide) rfl (by decide +kernel) ?_
      refine a_iload_n (pc := 12) (q := 1) (i := 1) (x := (s : Int)) hC (by decide +kernel) rfl 3 rfl ?_
      refine g_iald (pc := 13) (a := 3) (j := s) hC hty (by decide +kernel) rfl (by omega) (by first | decide | omega) ?_
      refine a_icmp_ge (pc := 14) (off := 24) hC 38 (by decide +kernel) (by decide) (by unfold inI; omega) (by unfold inI; omega) (fun c14 => ?_) (fun c14 => ?_)
      · skip
        refine a_iload_n (pc := 38) (q := 2) (i := 2) (x := bbS G N s a) hC (by decide +kernel) rfl 1 rfl ?_
        exact g_iret (pc := 39) hC hE (by decide +kernel) (by rw [show a = A by omega]) rfl
      · skip
        have h01 := isbZ_01 G N s a
        have hpw := pw_in (k := a) (by omega)
        refine a_aload_n (pc := 17) (q := 0) (i := 0) (x := 0) hC (by decide +kernel) rfl 2 rfl ?_
        refine a_iload_n (pc := 18) (q := 1) (i := 1) (x := (s : Int)) hC (by decide +kernel) rfl 3 rfl ?_
        refine a_iload_n (pc := 19) (q := 3) (i := 3) (x := (a : Int)) hC (by decide +kernel) rfl 0 rfl ?_
        refine g_callV (pc := 20) (idx := 166) (i := 0) (av := [vi ((s : Int)), vi ((a : Int))]) (rest := []) (g := G) (v := vi (isbZ G N s a)) hC hro hty (by decide +kernel) rfl rfl k_V_isBest (by decide +kernel) (by decide +kernel) (by decide +kernel) (ct_V_isBest X.la X.dd K G N s a (by omega) (by omega) hw hbo) rfl rfl (by decide) (by first | decide | simp [Value.category]) ?_
        refine a_if_eq (pc := 23) (off := 9) hC 32 (by decide +kernel) (by decide) (by unfold inI; omega) (fun c23 => ?_) (fun c23 => ?_)
        · skip
          have hst : bbS G N s a = bbS G N s (a + 1) := by show _ = (if _ then _ else _); rw [if_neg (by omega)]
          refine a_iinc (pc := 32) (i := 3) (c := 1) (x := (a : Int)) (lv' := [(3, vi (((a : Int)) + 1)), (2, vi (bbS G N s a)), (0, .ref 0), (1, vi ((s : Int)))]) hC (by decide +kernel) 0 rfl (by decide) rfl ?_
          refine a_goto (pc := 35) (off := -31) hC 4 (by decide +kernel) (by decide) ?_
          refine a_sub (lv' := [(3, vi (((a + 1) : Int))), (2, vi (bbS G N s (a + 1))), (0, .ref 0), (1, vi ((s : Int)))]) [0, 1, 2, 3] (by rw [← hst]; rfl) ?_
          exact ih4 (a + 1) (by omega) (by omega)
        · skip
          have hst : orZ (bbS G N s a) ((pw a : Nat) : Int) = bbS G N s (a + 1) := by show _ = (if _ then _ else _); rw [if_pos (by omega)]
          refine a_iload_n (pc := 26) (q := 2) (i := 2) (x := bbS G N s a) hC (by decide +kernel) rfl 1 rfl ?_
          refine a_iconst (pc := 27) (c := 1) hC (by decide +kernel) ?_
          refine a_iload_n (pc := 28) (q := 3) (i := 3) (x := (a : Int)) hC (by decide +kernel) rfl 0 rfl ?_
          refine a_ishl (pc := 29) (z := ((pw a : Nat) : Int)) hC (by decide +kernel) (iZ_shl (by omega)) ?_
          refine a_ior (pc := 30) (z := orZ (bbS G N s a) ((pw a : Nat) : Int)) hC (by decide +kernel) (iZ_or (by omega) (by omega)) ?_
          refine a_istore_n (pc := 31) (q := 2) (i := 2) (lv' := [(2, vi (orZ (bbS G N s a) ((pw a : Nat) : Int))), (3, vi ((a : Int))), (0, .ref 0), (1, vi ((s : Int)))]) hC (by decide +kernel) rfl (by decide) rfl ?_
          refine a_iinc (pc := 32) (i := 3) (c := 1) (x := (a : Int)) (lv' := [(3, vi (((a : Int)) + 1)), (2, vi (orZ (bbS G N s a) ((pw a : Nat) : Int))), (0, .ref 0), (1, vi ((s : Int)))]) hC (by decide +kernel) 1 rfl (by decide) rfl ?_
          refine a_goto (pc := 35) (off := -31) hC 4 (by decide +kernel) (by decide) ?_
          refine a_sub (lv' := [(3, vi (((a + 1) : Int))), (2, vi (bbS G N s (a + 1))), (0, .ref 0), (1, vi ((s : Int)))]) [0, 1, 2, 3] (by rw [← hst]; rfl) ?_
          exact ih4 (a + 1) (by omega) (by omega)
  refine a_sub (lv' := [(3, vi ((0 : Int))), (2, vi (bbS G N s 0)), (0, .ref 0), (1, vi ((s : Int)))]) [0, 1, 2, 3] rfl ?_
  exact L4 _ 0 (Nat.lt_succ_self _) (by omega)

set_option maxRecDepth 100000 in
set_option maxHeartbeats 4000000 in
theorem ct_V_countActs (l : Launch) (D : va_G) (K : K5) (G : GT) (N : Nat) (hw : WW G N) : Ct l D K y_V_countActs c_V_countActs 3 (some .int) 0 0 [.ref 0] G (some (vi (sumA G N))) G := by
  refine Ct.intro (by decide +kernel) (Nat.le_of_ble_eq_true rfl) ?_
  intro X hro hty hC hE
  obtain ⟨hn, hN5, hsh, hac, hpa, hwe, hth⟩ := id hw
  refine a_iconst (pc := 0) (c := 0) hC (by decide +kernel) ?_
  refine a_istore_n (pc := 1) (q := 1) (i := 1) (lv' := [(1, vi 0), (0, .ref 0)]) hC (by decide +kernel) rfl (by decide) rfl ?_
  refine a_iconst (pc := 2) (c := 0) hC (by decide +kernel) ?_
  refine a_istore_n (pc := 3) (q := 2) (i := 2) (lv' := [(2, vi 0), (1, vi 0), (0, .ref 0)]) hC (by decide +kernel) rfl (by decide) rfl ?_
  have L4 : ∀ (fuel : Nat) (s : Nat), N - s < fuel → s ≤ N → AW X 3 0 0 4 [(2, vi ((s : Int))), (1, vi (sumA G s)), (0, .ref 0)] [] (hp K G) := by
    intro fuel
    induction fuel with
    | zero => intro s h; exact absurd h (Nat.not_lt_zero _)
    | succ fuel ih4 =>
      intro s hm hs
      refine a_iload_n (pc := 4) (q := 2) (i := 2) (x := (s : Int)) hC (by decide +kernel) rfl 0 rfl ?_
      refine a_aload_n (pc := 5) (q := 0) (i := 0) (x := 0) hC (by decide +kernel) rfl 2 rfl ?_
      refine g_get (pc := 6) (idx := 10) (ci := 5) (v := .ref 1) hC 0 0 (by decide +kernel) rfl rfl rfl rfl wrV (by decide) rfl (by decide +kernel) ?_
      refine g_getN (pc := 9) (idx := 67) (ci := 4) (v := vi (G 1 0)) (host := "PlanValues") hC 1 0 (by decide +kernel) rfl rfl rfl rfl wrW (by decide) rfl (by decide +kernel) ?_
      refine a_icmp_ge (pc := 12) (off := 21) hC 33 (by decide +kernel) (by decide) (by unfold inI; omega) (by unfold inI; omega) (fun c12 => ?_) (fun c12 => ?_)
      · skip
        refine a_iload_n (pc := 33) (q := 1) (i := 1) (x := sumA G s) hC (by decide +kernel) rfl 1 rfl ?_
        exact g_iret (pc := 34) hC hE (by decide +kernel) (by rw [show s = N by omega]) rfl
      · skip
        refine a_iload_n (pc := 15) (q := 1) (i := 1) (x := sumA G s) hC (by decide +kernel) rfl 1 rfl ?_
        refine a_aload_n (pc := 16) (q := 0) (i := 0) (x := 0) hC (by decide +kernel) rfl 2 rfl ?_
        refine g_get (pc := 17) (idx := 10) (ci := 5) (v := .ref 1) hC 0 0 (by decide +kernel) rfl rfl rfl rfl wrV (by decide) rfl (by decide +kernel) ?_
        refine g_getN (pc := 20) (idx := 82) (ci := 4) (v := .ref 3) (host := "PlanValues") hC 1 4 (by decide +kernel) rfl rfl rfl rfl wrW (by decide) rfl (by decide +kernel) ?_
        refine a_iload_n (pc := 23) (q := 2) (i := 2) (x := (s : Int)) hC (by decide +kernel) rfl 0 rfl ?_
        refine g_iald (pc := 24) (a := 3) (j := s) hC hty (by decide +kernel) rfl (by omega) (by first | decide | omega) ?_
        refine a_iadd (pc := 25) hC (by decide +kernel) ?_
        refine a_istore_n (pc := 26) (q := 1) (i := 1) (lv' := [(1, vi ((sumA G s) + (G 3 s))), (2, vi ((s : Int))), (0, .ref 0)]) hC (by decide +kernel) rfl (by decide) rfl ?_
        refine a_iinc (pc := 27) (i := 2) (c := 1) (x := (s : Int)) (lv' := [(2, vi (((s : Int)) + 1)), (1, vi ((sumA G s) + (G 3 s))), (0, .ref 0)]) hC (by decide +kernel) 1 rfl (by decide) rfl ?_
        refine a_goto (pc := 30) (off := -26) hC 4 (by decide +kernel) (by decide) ?_
        refine a_sub (lv' := [(2, vi (((s + 1) : Int))), (1, vi (sumA G (s + 1))), (0, .ref 0)]) [0, 1, 2] rfl ?_
        exact ih4 (s + 1) (by omega) (by omega)
  refine a_sub (lv' := [(2, vi ((0 : Int))), (1, vi (sumA G 0)), (0, .ref 0)]) [0, 1, 2] rfl ?_
  exact L4 _ 0 (Nat.lt_succ_self _) (by omega)

set_option maxRecDepth 100000 in
set_option maxHeartbeats 4000000 in
theorem ct_V_countPlans (l : Launch) (D : va_G) (K : K5) (G : GT) (N : Nat) (hw : WW G N) : Ct l D K y_V_countPlans c_V_countPlans 3 (some .int) 1 21 [.ref 0] G (some (vi (prodA G N))) G := by
  refine Ct.intro (by decide +kernel) (Nat.le_of_ble_eq_true rfl) ?_
  intro X hro hty hC hE
  obtain ⟨hn, hN5, hsh, hac, hpa, hwe, hth⟩ := id hw
  refine a_iconst (pc := 0) (c := 1) hC (by decide +kernel) ?_
  refine a_istore_n (pc := 1) (q := 1) (i := 1) (lv' := [(1, vi 1), (0, .ref 0)]) hC (by decide +kernel) rfl (by decide) rfl ?_
  refine a_iconst (pc := 2) (c := 0) hC (by decide +kernel) ?_
  refine a_istore_n (pc := 3) (q := 2) (i := 2) (lv' := [(2, vi 0), (1, vi 1), (0, .ref 0)]) hC (by decide +kernel) rfl (by decide) rfl ?_
  have L4 : ∀ (fuel : Nat) (s : Nat), N - s < fuel → s ≤ N → AW X 3 0 0 4 [(2, vi ((s : Int))), (1, vi (prodA G s)), (0, .ref 0)] [] (hp K G) := by
    intro fuel
    induction fuel with
    | zero => intro s h; exact absurd h (Nat.not_lt_zero _)
    | succ fuel ih4 =>
      intro s hm hs
      refine a_iload_n (pc := 4) (q := 2) (i := 2) (x := (s : Int)) hC (by decide +kernel) rfl 0 rfl ?_
      refine a_aload_n (pc := 5) (q := 0) (i := 0) (x := 0) hC (by decide +kernel) rfl 2 rfl ?_
      refine g_get (pc := 6) (idx := 10) (ci := 5) (v := .ref 1) hC 0 0 (by decide +kernel) rfl rfl rfl rfl wrV (by decide) rfl (by decide +kernel) ?_
      refine g_getN (pc := 9) (idx := 67) (ci := 4) (v := vi (G 1 0)) (host := "PlanValues") hC 1 0 (by decide +kernel) rfl rfl rfl rfl wrW (by decide) rfl (by decide +kernel) ?_
      refine a_icmp_ge (pc := 12) (off := 25) hC 37 (by decide +kernel) (by decide) (by unfold inI; omega) (by unfold inI; omega) (fun c12 => ?_) (fun c12 => ?_)
      · skip
        refine a_iload_n (pc := 37) (q := 1) (i := 1) (x := prodA G s) hC (by decide +kernel) rfl 1 rfl ?_
        exact g_iret (pc := 38) hC hE (by decide +kernel) (by rw [show s = N by omega]) rfl
      · skip
        have h3 := hac s (by omega)
        refine a_iload_n (pc := 15) (q := 1) (i := 1) (x := prodA G s) hC (by decide +kernel) rfl 1 rfl ?_
        refine a_iconst (pc := 16) (c := 1) hC (by decide +kernel) ?_
        refine a_aload_n (pc := 17) (q := 0) (i := 0) (x := 0) hC (by decide +kernel) rfl 2 rfl ?_
        refine g_get (pc := 18) (idx := 10) (ci := 5) (v := .ref 1) hC 0 0 (by decide +kernel) rfl rfl rfl rfl wrV (by decide) rfl (by decide +kernel) ?_
        refine g_getN (pc := 21) (idx := 82) (ci := 4) (v := .ref 3) (host := "PlanValues") hC 1 4 (by decide +kernel) rfl rfl rfl rfl wrW (by decide) rfl (by decide +kernel) ?_
        refine a_iload_n (pc := 24) (q := 2) (i := 2) (x := (s : Int)) hC (by decide +kernel) rfl 0 rfl ?_
        refine g_iald (pc := 25) (a := 3) (j := s) hC hty (by decide +kernel) rfl (by omega) (by first | decide | omega) ?_
        refine g_callS (pc := 26) (idx := 205) (av := [vi 1, vi (G 3 s)]) (rest := [vi (prodA G s)]) (g := G) (v := vi (maxZ 1 (G 3 s))) hC hro hty (by decide +kernel) k_JM_max_II (by decide +kernel) (by decide +kernel) (ct_JM_max_II X.la X.dd K G 1 (G 3 s) (by unfold inI; omega) (by unfold inI; omega)) rfl rfl (by decide) (by first | decide | simp [Value.category]) ?_
        refine a_imul (pc := 29) hC (by decide +kernel) ?_
        refine a_istore_n (pc := 30) (q := 1) (i := 1) (lv' := [(1, vi ((prodA G s) * (maxZ 1 (G 3 s)))), (2, vi ((s : Int))), (0, .ref 0)]) hC (by decide +kernel) rfl (by decide) rfl ?_
        refine a_iinc (pc := 31) (i := 2) (c := 1) (x := (s : Int)) (lv' := [(2, vi (((s : Int)) + 1)), (1, vi ((prodA G s) * (maxZ 1 (G 3 s)))), (0, .ref 0)]) hC (by decide +kernel) 1 rfl (by decide) rfl ?_
        refine a_goto (pc := 34) (off := -30) hC 4 (by decide +kernel) (by decide) ?_
        refine a_sub (lv' := [(2, vi (((s + 1) : Int))), (1, vi (prodA G (s + 1))), (0, .ref 0)]) [0, 1, 2] rfl ?_
        exact ih4 (s + 1) (by omega) (by omega)
  refine a_sub (lv' := [(2, vi ((0 : Int))), (1, vi (prodA G 0)), (0, .ref 0)]) [0, 1, 2] rfl ?_
  exact L4 _ 0 (Nat.lt_succ_self _) (by omega)

set_option maxRecDepth 100000 in
set_option maxHeartbeats 4000000 in
theorem ct_V_countTheirs (l : Launch) (D : va_G) (K : K5) (G : GT) (N : Nat) (hw : WW G N) : Ct l D K y_V_countTheirs c_V_countTheirs 3 (some .int) 0 0 [.ref 0] G (some (vi (sumT G N))) G := by
  refine Ct.intro (by decide +kernel) (Nat.le_of_ble_eq_true rfl) ?_
  intro X hro hty hC hE
  obtain ⟨hn, hN5, hsh, hac, hpa, hwe, hth⟩ := id hw
  refine a_iconst (pc := 0) (c := 0) hC (by decide +kernel) ?_
  refine a_istore_n (pc := 1) (q := 1) (i := 1) (lv' := [(1, vi 0), (0, .ref 0)]) hC (by decide +kernel) rfl (by decide) rfl ?_
  refine a_iconst (pc := 2) (c := 0) hC (by decide +kernel) ?_
  refine a_istore_n (pc := 3) (q := 2) (i := 2) (lv' := [(2, vi 0), (1, vi 0), (0, .ref 0)]) hC (by decide +kernel) rfl (by decide) rfl ?_
  have L4 : ∀ (fuel : Nat) (s : Nat), N - s < fuel → s ≤ N → AW X 3 0 0 4 [(2, vi ((s : Int))), (1, vi (sumT G s)), (0, .ref 0)] [] (hp K G) := by
    intro fuel
    induction fuel with
    | zero => intro s h; exact absurd h (Nat.not_lt_zero _)
    | succ fuel ih4 =>
      intro s hm hs
      refine a_iload_n (pc := 4) (q := 2) (i := 2) (x := (s : Int)) hC (by decide +kernel) rfl 0 rfl ?_
      refine a_aload_n (pc := 5) (q := 0) (i := 0) (x := 0) hC (by decide +kernel) rfl 2 rfl ?_
      refine g_get (pc := 6) (idx := 10) (ci := 5) (v := .ref 1) hC 0 0 (by decide +kernel) rfl rfl rfl rfl wrV (by decide) rfl (by decide +kernel) ?_
      refine g_getN (pc := 9) (idx := 67) (ci := 4) (v := vi (G 1 0)) (host := "PlanValues") hC 1 0 (by decide +kernel) rfl rfl rfl rfl wrW (by decide) rfl (by decide +kernel) ?_
      refine a_icmp_ge (pc := 12) (off := 24) hC 36 (by decide +kernel) (by decide) (by unfold inI; omega) (by unfold inI; omega) (fun c12 => ?_) (fun c12 => ?_)
      · skip
        refine a_iload_n (pc := 36) (q := 1) (i := 1) (x := sumT G s) hC (by decide +kernel) rfl 1 rfl ?_
        exact g_iret (pc := 37) hC hE (by decide +kernel) (by rw [show s = N by omega]) rfl
      · skip
        have h2 := hth s (by omega)
        refine a_aload_n (pc := 15) (q := 0) (i := 0) (x := 0) hC (by decide +kernel) rfl 2 rfl ?_
        refine g_get (pc := 16) (idx := 10) (ci := 5) (v := .ref 1) hC 0 0 (by decide +kernel) rfl rfl rfl rfl wrV (by decide) rfl (by decide +kernel) ?_
        refine g_getN (pc := 19) (idx := 212) (ci := 4) (v := .ref 2) (host := "PlanValues") hC 1 3 (by decide +kernel) rfl rfl rfl rfl wrW (by decide) rfl (by decide +kernel) ?_
        refine a_iload_n (pc := 22) (q := 2) (i := 2) (x := (s : Int)) hC (by decide +kernel) rfl 0 rfl ?_
        refine g_zald (pc := 23) (a := 2) (j := s) hC hty (by decide +kernel) rfl (by omega) (by first | decide | omega) ?_
        refine a_if_eq (pc := 24) (off := 6) hC 30 (by decide +kernel) (by decide) (by unfold inI; omega) (fun c24 => ?_) (fun c24 => ?_)
        · skip
          have hst : sumT G s = sumT G (s + 1) := by show _ = (if _ then _ else _); rw [if_pos c24]
          refine a_iinc (pc := 30) (i := 2) (c := 1) (x := (s : Int)) (lv' := [(2, vi (((s : Int)) + 1)), (1, vi (sumT G s)), (0, .ref 0)]) hC (by decide +kernel) 0 rfl (by decide) rfl ?_
          refine a_goto (pc := 33) (off := -29) hC 4 (by decide +kernel) (by decide) ?_
          refine a_sub (lv' := [(2, vi (((s + 1) : Int))), (1, vi (sumT G (s + 1))), (0, .ref 0)]) [0, 1, 2] (by rw [← hst]; rfl) ?_
          exact ih4 (s + 1) (by omega) (by omega)
        · skip
          have hst : sumT G s + 1 = sumT G (s + 1) := by show _ = (if _ then _ else _); rw [if_neg c24]
          refine a_iinc (pc := 27) (i := 1) (c := 1) (x := sumT G s) (lv' := [(1, vi ((sumT G s) + 1)), (2, vi ((s : Int))), (0, .ref 0)]) hC (by decide +kernel) 1 rfl (by decide) rfl ?_
          refine a_iinc (pc := 30) (i := 2) (c := 1) (x := (s : Int)) (lv' := [(2, vi (((s : Int)) + 1)), (1, vi ((sumT G s) + 1)), (0, .ref 0)]) hC (by decide +kernel) 1 rfl (by decide) rfl ?_
          refine a_goto (pc := 33) (off := -29) hC 4 (by decide +kernel) (by decide) ?_
          refine a_sub (lv' := [(2, vi (((s + 1) : Int))), (1, vi (sumT G (s + 1))), (0, .ref 0)]) [0, 1, 2] (by rw [← hst]; rfl) ?_
          exact ih4 (s + 1) (by omega) (by omega)
  refine a_sub (lv' := [(2, vi ((0 : Int))), (1, vi (sumT G 0)), (0, .ref 0)]) [0, 1, 2] rfl ?_
  exact L4 _ 0 (Nat.lt_succ_self _) (by omega)
