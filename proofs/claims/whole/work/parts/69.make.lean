/-! the constructors -/
theorem hl {pre : Hp} {p : Nat} (hp : pre.length = p) {l : Hp} {k : Nat} (h : l.length = k) : (pre ++ l).length = p + k := by rw [List.length_append, hp, h]
theorem hg0 {pre : Hp} {p : Nat} (hp : pre.length = p) (o : va_E) (tl : Hp) : (pre ++ o :: tl)[p]? = some o := by rw [← hp, List.getElem?_append_right (Nat.le_refl _), Nat.sub_self]; rfl
theorem hs0 {pre : Hp} {p : Nat} (hp : pre.length = p) (o o' : va_E) (tl : Hp) : (pre ++ o :: tl).set p o' = pre ++ o' :: tl := by rw [← hp, List.set_append_right _ _ (Nat.le_refl _), Nat.sub_self]; rfl
theorem ha0 (pre : Hp) (o : va_E) (tl m : Hp) : (pre ++ o :: tl) ++ m = pre ++ o :: (tl ++ m) := by rw [List.append_assoc]; rfl
theorem a_hp {X : Xt} {nL k n pc : Nat} {lv : List (Nat × Value)} {st : List Value} {ah ah' : Hp} (h : ah = ah') (kk : AW X nL k n pc lv st ah') : AW X nL k n pc lv st ah := h ▸ kk
abbrev rmn (f l c s : Nat) : Room := { frames := f, cells := c, slots := s, locals := l }
def ObjOk : Prop := Cond.instanceMethod Lib.objectInit ∈ TT ∧ Cond.code Lib.objectInit ⟨#[0xb1]⟩ 1 none ∈ TT
theorem objOk : ObjOk := ⟨by decide +kernel, List.mem_filter.mpr ⟨List.mem_append_right _ (by decide +kernel), rfl⟩⟩
def hp_U (K : K5) (p : Nat) : Hp := (.inr (2, [.ref (p + 1), vl 1])) :: ([] ++ [aL K.2.1 5 (fun _ => 0)])
set_option maxRecDepth 100000 in
set_option maxHeartbeats 4000000 in
theorem cn_U_init (l : Launch) (D : va_G) (K : K5) (pre : Hp) (p : Nat) (hp : pre.length = p) : Mt l y_U_init c_U_init 1 none (rmn 1 20 1 5) D (tyK K) [.ref p] (pre ++ [.inr (2, [.null, vl 0])]) (fun r ah' => r = none ∧ ah' = pre ++ hp_U K p) := by
  refine Mt.intro (by decide +kernel) (Nat.le_of_ble_eq_true rfl) ?_
  intro X hla hro hdd hty hnm hC hE
  refine a_aload_n (pc := 0) (q := 0) (i := 0) (x := p) hC (by decide +kernel) rfl 0 rfl ?_
  refine a_objInit (pc := 1) (idx := 3) (i := p) hC (by decide +kernel) (by decide +kernel) objOk.1 objOk.2 (by rw [hro]; decide) (by rw [hro]; decide) (by decide) ?_
  refine a_aload_n (pc := 4) (q := 0) (i := 0) (x := p) hC (by decide +kernel) rfl 0 rfl ?_
  refine a_iconst (pc := 5) (c := 5) hC (by decide +kernel) ?_
  refine a_newL (pc := 6) (a := p + 1) (N := 5) (cA := K.2.1) (z := 5) (atype := .long) (ah' := pre ++ (.inr (2, [.null, vl 0])) :: ([] ++ [aL K.2.1 5 (fun _ => 0)])) hC (by decide +kernel) rfl (by rw [hty]; exact tyK_L K) (by decide +kernel) rfl (by decide) (by rw [hro]; decide) (by rw [hro]; decide) (hl hp rfl) (ha0 _ _ _ _) ?_
  refine a_putF (pc := 8) (idx := 9) (ci := 2) (i := p) (f := 0) (fs := [.null, vl 0]) (v := .ref (p + 1)) (ah' := pre ++ (.inr (2, [.ref (p + 1), vl 0])) :: ([] ++ [aL K.2.1 5 (fun _ => 0)])) hC (by decide +kernel) rfl wrU (by decide) rfl (by decide +kernel) rfl hnm rfl rfl rfl (hg0 hp _ _) (Nat.le_of_ble_eq_true rfl) (hs0 hp _ _ _) ?_
  refine a_aload_n (pc := 11) (q := 0) (i := 0) (x := p) hC (by decide +kernel) rfl 0 rfl ?_
  refine a_lconst (pc := 12) (c := 1) (z := 1) hC (by decide +kernel) rfl ?_
  refine a_put (pc := 13) (idx := 15) (ci := 2) (i := p) (f := 1) (fs := [.ref (p + 1), vl 0]) (v := vl 1) (ah' := pre ++ (.inr (2, [.ref (p + 1), vl 1])) :: ([] ++ [aL K.2.1 5 (fun _ => 0)])) hC (by decide +kernel) rfl wrU (by decide) rfl (by decide +kernel) rfl rfl rfl (hg0 hp _ _) (Nat.le_of_ble_eq_true rfl) (hs0 hp _ _ _) ?_
  exact a_return (pc := 16) hC hE (by decide +kernel) ⟨rfl, rfl⟩
def hp_E (K : K5) (p : Nat) : Hp := (.inr (0, [.ref (p + 1)])) :: ([] ++ (aQ K.2.2.2.2 5 (fun j => if j < 5 then some (p + 1 + 1 + j) else none) :: List.replicate 5 (aL K.2.1 6 (fun _ => 0))))
set_option maxRecDepth 100000 in
set_option maxHeartbeats 4000000 in
theorem cn_E_init (l : Launch) (D : va_G) (K : K5) (pre : Hp) (p : Nat) (hp : pre.length = p) : Mt l y_E_init c_E_init 1 none (rmn 1 20 6 35) D (tyK K) [.ref p] (pre ++ [.inr (0, [.null])]) (fun r ah' => r = none ∧ ah' = pre ++ hp_E K p) := by
  refine Mt.intro (by decide +kernel) (Nat.le_of_ble_eq_true rfl) ?_
  intro X hla hro hdd hty hnm hC hE
  refine a_aload_n (pc := 0) (q := 0) (i := 0) (x := p) hC (by decide +kernel) rfl 0 rfl ?_
  refine a_objInit (pc := 1) (idx := 3) (i := p) hC (by decide +kernel) (by decide +kernel) objOk.1 objOk.2 (by rw [hro]; decide) (by rw [hro]; decide) (by decide) ?_
  refine a_aload_n (pc := 4) (q := 0) (i := 0) (x := p) hC (by decide +kernel) rfl 0 rfl ?_
  refine a_iconst (pc := 5) (c := 5) hC (by decide +kernel) ?_
  refine a_bipush (pc := 6) (c := 6) hC (by decide +kernel) (by decide +kernel) ?_
  refine a_mana (pc := 8) (idx := 9) (a := p + 1) (N := 5) (M := 6) (cO := K.2.2.2.2) (cR := K.2.1) (ty := .long) (z := 5) (w := 6) (row := aL K.2.1 6 (fun _ => 0)) (ah' := pre ++ (.inr (0, [.null])) :: ([] ++ (aQ K.2.2.2.2 5 (fun j => if j < 5 then some (p + 1 + 1 + j) else none) :: List.replicate 5 (aL K.2.1 6 (fun _ => 0))))) hC (by decide +kernel) (by decide +kernel) (by decide +kernel) (by decide +kernel) (by rw [hty]; exact tyK_LL K) (by rw [hty]; exact tyK_L K) (Or.inr ⟨rfl, rfl⟩) rfl rfl (by decide) (by decide) (by rw [hro]; decide) (by rw [hro]; decide) (hl hp rfl) (ha0 _ _ _ _) ?_
  refine a_putF (pc := 12) (idx := 11) (ci := 0) (i := p) (f := 0) (fs := [.null]) (v := .ref (p + 1)) (ah' := pre ++ (.inr (0, [.ref (p + 1)])) :: ([] ++ (aQ K.2.2.2.2 5 (fun j => if j < 5 then some (p + 1 + 1 + j) else none) :: List.replicate 5 (aL K.2.1 6 (fun _ => 0))))) hC (by decide +kernel) rfl wrE (by decide) rfl (by decide +kernel) rfl hnm rfl rfl rfl (hg0 hp _ _) (Nat.le_of_ble_eq_true rfl) (hs0 hp _ _ _) ?_
  exact a_return (pc := 15) hC hE (by decide +kernel) ⟨rfl, rfl⟩
def hp_W (K : K5) (p : Nat) : Hp := (.inr (4, [vi 0, vi 1, vi 2, .ref (p + 1), .ref (p + 2), .ref (p + 3), .ref (p + 4), .ref (p + 5)])) :: ((((([] ++ [aI K.2.2.1 5 (fun _ => 0)]) ++ [aI K.1 5 (fun _ => 0)]) ++ [aI K.1 15 (fun _ => 0)]) ++ [aI K.1 15 (fun _ => 0)]) ++ (aQ K.2.2.2.1 15 (fun j => if j < 15 then some (p + 5 + 1 + j) else none) :: List.replicate 15 (aI K.1 5 (fun _ => 0))))
set_option maxRecDepth 100000 in
set_option maxHeartbeats 4000000 in
theorem cn_W_init (l : Launch) (D : va_G) (K : K5) (pre : Hp) (p : Nat) (hp : pre.length = p) : Mt l y_W_init c_W_init 1 none (rmn 1 20 20 130) D (tyK K) [.ref p] (pre ++ [.inr (4, [vi 0, vi 0, vi 0, .null, .null, .null, .null, .null])]) (fun r ah' => r = none ∧ ah' = pre ++ hp_W K p) := by
  refine Mt.intro (by decide +kernel) (Nat.le_of_ble_eq_true rfl) ?_
  intro X hla hro hdd hty hnm hC hE
  refine a_aload_n (pc := 0) (q := 0) (i := 0) (x := p) hC (by decide +kernel) rfl 0 rfl ?_
  refine a_objInit (pc := 1) (idx := 3) (i := p) hC (by decide +kernel) (by decide +kernel) objOk.1 objOk.2 (by rw [hro]; decide) (by rw [hro]; decide) (by decide) ?_
  refine a_aload_n (pc := 4) (q := 0) (i := 0) (x := p) hC (by decide +kernel) rfl 0 rfl ?_
  refine a_iconst (pc := 5) (c := 0) hC (by decide +kernel) ?_
  refine a_put (pc := 6) (idx := 9) (ci := 4) (i := p) (f := 0) (fs := [vi 0, vi 0, vi 0, .null, .null, .null, .null, .null]) (v := vi 0) (ah' := pre ++ (.inr (4, [vi 0, vi 0, vi 0, .null, .null, .null, .null, .null])) :: []) hC (by decide +kernel) rfl wrW (by decide) rfl (by decide +kernel) rfl rfl rfl (hg0 hp _ _) (Nat.le_of_ble_eq_true rfl) (hs0 hp _ _ _) ?_
  refine a_aload_n (pc := 9) (q := 0) (i := 0) (x := p) hC (by decide +kernel) rfl 0 rfl ?_
  refine a_iconst (pc := 10) (c := 1) hC (by decide +kernel) ?_
  refine a_put (pc := 11) (idx := 15) (ci := 4) (i := p) (f := 1) (fs := [vi 0, vi 0, vi 0, .null, .null, .null, .null, .null]) (v := vi 1) (ah' := pre ++ (.inr (4, [vi 0, vi 1, vi 0, .null, .null, .null, .null, .null])) :: []) hC (by decide +kernel) rfl wrW (by decide) rfl (by decide +kernel) rfl rfl rfl (hg0 hp _ _) (Nat.le_of_ble_eq_true rfl) (hs0 hp _ _ _) ?_
  refine a_aload_n (pc := 14) (q := 0) (i := 0) (x := p) hC (by decide +kernel) rfl 0 rfl ?_
  refine a_iconst (pc := 15) (c := 2) hC (by decide +kernel) ?_
  refine a_put (pc := 16) (idx := 18) (ci := 4) (i := p) (f := 2) (fs := [vi 0, vi 1, vi 0, .null, .null, .null, .null, .null]) (v := vi 2) (ah' := pre ++ (.inr (4, [vi 0, vi 1, vi 2, .null, .null, .null, .null, .null])) :: []) hC (by decide +kernel) rfl wrW (by decide) rfl (by decide +kernel) rfl rfl rfl (hg0 hp _ _) (Nat.le_of_ble_eq_true rfl) (hs0 hp _ _ _) ?_
  refine a_aload_n (pc := 19) (q := 0) (i := 0) (x := p) hC (by decide +kernel) rfl 0 rfl ?_
  refine a_iconst (pc := 20) (c := 5) hC (by decide +kernel) ?_
  refine a_newI (pc := 21) (a := p + 1) (N := 5) (cA := K.2.2.1) (z := 5) (atype := .boolean) (ty := .boolean) (ah' := pre ++ (.inr (4, [vi 0, vi 1, vi 2, .null, .null, .null, .null, .null])) :: ([] ++ [aI K.2.2.1 5 (fun _ => 0)])) hC (by decide +kernel) rfl (by decide) (by rw [hty]; exact tyK_Z K) (by decide +kernel) rfl (by decide) (by rw [hro]; decide) (by rw [hro]; decide) (hl hp rfl) (ha0 _ _ _ _) ?_
  refine a_putF (pc := 23) (idx := 21) (ci := 4) (i := p) (f := 3) (fs := [vi 0, vi 1, vi 2, .null, .null, .null, .null, .null]) (v := .ref (p + 1)) (ah' := pre ++ (.inr (4, [vi 0, vi 1, vi 2, .ref (p + 1), .null, .null, .null, .null])) :: ([] ++ [aI K.2.2.1 5 (fun _ => 0)])) hC (by decide +kernel) rfl wrW (by decide) rfl (by decide +kernel) rfl hnm rfl rfl rfl (hg0 hp _ _) (Nat.le_of_ble_eq_true rfl) (hs0 hp _ _ _) ?_
  refine a_aload_n (pc := 26) (q := 0) (i := 0) (x := p) hC (by decide +kernel) rfl 0 rfl ?_
  refine a_iconst (pc := 27) (c := 5) hC (by decide +kernel) ?_
  refine a_newI (pc := 28) (a := p + 2) (N := 5) (cA := K.1) (z := 5) (atype := .int) (ty := .int) (ah' := pre ++ (.inr (4, [vi 0, vi 1, vi 2, .ref (p + 1), .null, .null, .null, .null])) :: (([] ++ [aI K.2.2.1 5 (fun _ => 0)]) ++ [aI K.1 5 (fun _ => 0)])) hC (by decide +kernel) rfl (by decide) (by rw [hty]; exact tyK_I K) (by decide +kernel) rfl (by decide) (by rw [hro]; decide) (by rw [hro]; decide) (hl hp rfl) (ha0 _ _ _ _) ?_
  refine a_putF (pc := 30) (idx := 25) (ci := 4) (i := p) (f := 4) (fs := [vi 0, vi 1, vi 2, .ref (p + 1), .null, .null, .null, .null]) (v := .ref (p + 2)) (ah' := pre ++ (.inr (4, [vi 0, vi 1, vi 2, .ref (p + 1), .ref (p + 2), .null, .null, .null])) :: (([] ++ [aI K.2.2.1 5 (fun _ => 0)]) ++ [aI K.1 5 (fun _ => 0)])) hC (by decide +kernel) rfl wrW (by decide) rfl (by decide +kernel) rfl hnm rfl rfl rfl (hg0 hp _ _) (Nat.le_of_ble_eq_true rfl) (hs0 hp _ _ _) ?_
  refine a_aload_n (pc := 33) (q := 0) (i := 0) (x := p) hC (by decide +kernel) rfl 0 rfl ?_
  refine a_bipush (pc := 34) (c := 15) hC (by decide +kernel) (by decide +kernel) ?_
  refine a_newI (pc := 36) (a := p + 3) (N := 15) (cA := K.1) (z := 15) (atype := .int) (ty := .int) (ah' := pre ++ (.inr (4, [vi 0, vi 1, vi 2, .ref (p + 1), .ref (p + 2), .null, .null, .null])) :: ((([] ++ [aI K.2.2.1 5 (fun _ => 0)]) ++ [aI K.1 5 (fun _ => 0)]) ++ [aI K.1 15 (fun _ => 0)])) hC (by decide +kernel) rfl (by decide) (by rw [hty]; exact tyK_I K) (by decide +kernel) rfl (by decide) (by rw [hro]; decide) (by rw [hro]; decide) (hl hp rfl) (ha0 _ _ _ _) ?_
  refine a_putF (pc := 38) (idx := 29) (ci := 4) (i := p) (f := 5) (fs := [vi 0, vi 1, vi 2, .ref (p + 1), .ref (p + 2), .null, .null, .null]) (v := .ref (p + 3)) (ah' := pre ++ (.inr (4, [vi 0, vi 1, vi 2, .ref (p + 1), .ref (p + 2), .ref (p + 3), .null, .null])) :: ((([] ++ [aI K.2.2.1 5 (fun _ => 0)]) ++ [aI K.1 5 (fun _ => 0)]) ++ [aI K.1 15 (fun _ => 0)])) hC (by decide +kernel) rfl wrW (by decide) rfl (by decide +kernel) rfl hnm rfl rfl rfl (hg0 hp _ _) (Nat.le_of_ble_eq_true rfl) (hs0 hp _ _ _) ?_
  refine a_aload_n (pc := 41) (q := 0) (i := 0) (x := p) hC (by decide +kernel) rfl 0 rfl ?_
  refine a_bipush (pc := 42) (c := 15) hC (by decide +kernel) (by decide +kernel) ?_
  refine a_newI (pc := 44) (a := p + 4) (N := 15) (cA := K.1) (z := 15) (atype := .int) (ty := .int) (ah' := pre ++ (.inr (4, [vi 0, vi 1, vi 2, .ref (p + 1), .ref (p + 2), .ref (p + 3), .null, .null])) :: (((([] ++ [aI K.2.2.1 5 (fun _ => 0)]) ++ [aI K.1 5 (fun _ => 0)]) ++ [aI K.1 15 (fun _ => 0)]) ++ [aI K.1 15 (fun _ => 0)])) hC (by decide +kernel) rfl (by decide) (by rw [hty]; exact tyK_I K) (by decide +kernel) rfl (by decide) (by rw [hro]; decide) (by rw [hro]; decide) (hl hp rfl) (ha0 _ _ _ _) ?_
  refine a_putF (pc := 46) (idx := 32) (ci := 4) (i := p) (f := 6) (fs := [vi 0, vi 1, vi 2, .ref (p + 1), .ref (p + 2), .ref (p + 3), .null, .null]) (v := .ref (p + 4)) (ah' := pre ++ (.inr (4, [vi 0, vi 1, vi 2, .ref (p + 1), .ref (p + 2), .ref (p + 3), .ref (p + 4), .null])) :: (((([] ++ [aI K.2.2.1 5 (fun _ => 0)]) ++ [aI K.1 5 (fun _ => 0)]) ++ [aI K.1 15 (fun _ => 0)]) ++ [aI K.1 15 (fun _ => 0)])) hC (by decide +kernel) rfl wrW (by decide) rfl (by decide +kernel) rfl hnm rfl rfl rfl (hg0 hp _ _) (Nat.le_of_ble_eq_true rfl) (hs0 hp _ _ _) ?_
  refine a_aload_n (pc := 49) (q := 0) (i := 0) (x := p) hC (by decide +kernel) rfl 0 rfl ?_
  refine a_bipush (pc := 50) (c := 15) hC (by decide +kernel) (by decide +kernel) ?_
  refine a_iconst (pc := 52) (c := 5) hC (by decide +kernel) ?_
  refine a_mana (pc := 53) (idx := 35) (a := p + 5) (N := 15) (M := 5) (cO := K.2.2.2.1) (cR := K.1) (ty := .int) (z := 15) (w := 5) (row := aI K.1 5 (fun _ => 0)) (ah' := pre ++ (.inr (4, [vi 0, vi 1, vi 2, .ref (p + 1), .ref (p + 2), .ref (p + 3), .ref (p + 4), .null])) :: ((((([] ++ [aI K.2.2.1 5 (fun _ => 0)]) ++ [aI K.1 5 (fun _ => 0)]) ++ [aI K.1 15 (fun _ => 0)]) ++ [aI K.1 15 (fun _ => 0)]) ++ (aQ K.2.2.2.1 15 (fun j => if j < 15 then some (p + 5 + 1 + j) else none) :: List.replicate 15 (aI K.1 5 (fun _ => 0))))) hC (by decide +kernel) (by decide +kernel) (by decide +kernel) (by decide +kernel) (by rw [hty]; exact tyK_II K) (by rw [hty]; exact tyK_I K) (Or.inl ⟨rfl, rfl⟩) rfl rfl (by decide) (by decide) (by rw [hro]; decide) (by rw [hro]; decide) (hl hp rfl) (ha0 _ _ _ _) ?_
  refine a_putF (pc := 57) (idx := 37) (ci := 4) (i := p) (f := 7) (fs := [vi 0, vi 1, vi 2, .ref (p + 1), .ref (p + 2), .ref (p + 3), .ref (p + 4), .null]) (v := .ref (p + 5)) (ah' := pre ++ (.inr (4, [vi 0, vi 1, vi 2, .ref (p + 1), .ref (p + 2), .ref (p + 3), .ref (p + 4), .ref (p + 5)])) :: ((((([] ++ [aI K.2.2.1 5 (fun _ => 0)]) ++ [aI K.1 5 (fun _ => 0)]) ++ [aI K.1 15 (fun _ => 0)]) ++ [aI K.1 15 (fun _ => 0)]) ++ (aQ K.2.2.2.1 15 (fun j => if j < 15 then some (p + 5 + 1 + j) else none) :: List.replicate 15 (aI K.1 5 (fun _ => 0))))) hC (by decide +kernel) rfl wrW (by decide) rfl (by decide +kernel) rfl hnm rfl rfl rfl (hg0 hp _ _) (Nat.le_of_ble_eq_true rfl) (hs0 hp _ _ _) ?_
  exact a_return (pc := 60) hC hE (by decide +kernel) ⟨rfl, rfl⟩
def hp_P (K : K5) (p : Nat) : Hp := (.inr (3, [.ref (p + 1), .ref (p + 8)])) :: (([] ++ hp_E K (p + 1)) ++ hp_U K (p + 8))
set_option maxRecDepth 100000 in
set_option maxHeartbeats 4000000 in
theorem cn_P_init (l : Launch) (D : va_G) (K : K5) (pre : Hp) (p : Nat) (hp : pre.length = p) : Mt l y_P_init c_P_init 1 none (rmn 2 40 9 43) D (tyK K) [.ref p] (pre ++ [.inr (3, [.null, .null])]) (fun r ah' => r = none ∧ ah' = pre ++ hp_P K p) := by
  refine Mt.intro (by decide +kernel) (Nat.le_of_ble_eq_true rfl) ?_
  intro X hla hro hdd hty hnm hC hE
  refine a_aload_n (pc := 0) (q := 0) (i := 0) (x := p) hC (by decide +kernel) rfl 0 rfl ?_
  refine a_objInit (pc := 1) (idx := 3) (i := p) hC (by decide +kernel) (by decide +kernel) objOk.1 objOk.2 (by rw [hro]; decide) (by rw [hro]; decide) (by decide) ?_
  refine a_aload_n (pc := 4) (q := 0) (i := 0) (x := p) hC (by decide +kernel) rfl 0 rfl ?_
  refine a_new (pc := 5) (idx := 9) (ci := 0) (a := p + 1) (fs := [.null]) (ah' := (pre ++ (.inr (3, [.null, .null])) :: []) ++ [.inr (0, [.null])]) hC (by decide +kernel) rfl wrE (by decide +kernel) (by decide +kernel) (by decide +kernel) (by decide +kernel) (fun _ _ => rfl) (by rw [hro]; decide) (by rw [hro]; decide) (hl hp rfl) rfl ?_
  refine a_dup (pc := 8) hC (by decide +kernel) rfl ?_
  refine a_callIN (pc := 9) (idx := 11) (y := y_E_init) (code := c_E_init) (maxL := 1) (na := 0) (rm := (rmn 1 20 6 35)) (av := []) (rest := [.ref (p + 1), .ref (p)]) (host := "PlanValues") (i := p + 1) hC (by decide +kernel) k_E_init (by decide +kernel) rfl (by decide +kernel) (by rw [hty]; exact cn_E_init X.la X.dd K (pre ++ (.inr (3, [.null, .null])) :: []) (p + 1) (hl hp rfl)) rfl (by rw [hro]; exact ⟨⟨by decide, by decide⟩, by decide, by decide⟩) (by first | decide | simp [Value.category]) (ct_go (v := none) (a := (pre ++ (.inr (3, [.null, .null])) :: []) ++ hp_E K (p + 1)) (P := fun r ah' => AW X 1 _ _ (9 + 3) _ (r.toList ++ [.ref (p + 1), .ref (p)]) ah') ?_)
  refine a_hp (ah' := pre ++ (.inr (3, [.null, .null])) :: ([] ++ hp_E K (p + 1))) (ha0 _ _ _ _) ?_
  refine a_putF (pc := 12) (idx := 12) (ci := 3) (i := p) (f := 0) (fs := [.null, .null]) (v := .ref (p + 1)) (ah' := pre ++ (.inr (3, [.ref (p + 1), .null])) :: ([] ++ hp_E K (p + 1))) hC (by decide +kernel) rfl wrP (by decide) rfl (by decide +kernel) rfl hnm rfl rfl rfl (hg0 hp _ _) (Nat.le_of_ble_eq_true rfl) (hs0 hp _ _ _) ?_
  refine a_aload_n (pc := 15) (q := 0) (i := 0) (x := p) hC (by decide +kernel) rfl 0 rfl ?_
  refine a_new (pc := 16) (idx := 18) (ci := 2) (a := p + 8) (fs := [.null, vl 0]) (ah' := (pre ++ (.inr (3, [.ref (p + 1), .null])) :: ([] ++ hp_E K (p + 1))) ++ [.inr (2, [.null, vl 0])]) hC (by decide +kernel) rfl wrU (by decide +kernel) (by decide +kernel) (by decide +kernel) (by decide +kernel) (fun _ _ => rfl) (by rw [hro]; decide) (by rw [hro]; decide) (hl hp rfl) rfl ?_
  refine a_dup (pc := 19) hC (by decide +kernel) rfl ?_
  refine a_callIN (pc := 20) (idx := 20) (y := y_U_init) (code := c_U_init) (maxL := 1) (na := 0) (rm := (rmn 1 20 1 5)) (av := []) (rest := [.ref (p + 8), .ref (p)]) (host := "PlanValues") (i := p + 8) hC (by decide +kernel) k_U_init (by decide +kernel) rfl (by decide +kernel) (by rw [hty]; exact cn_U_init X.la X.dd K (pre ++ (.inr (3, [.ref (p + 1), .null])) :: ([] ++ hp_E K (p + 1))) (p + 8) (hl hp rfl)) rfl (by rw [hro]; exact ⟨⟨by decide, by decide⟩, by decide, by decide⟩) (by first | decide | simp [Value.category]) (ct_go (v := none) (a := (pre ++ (.inr (3, [.ref (p + 1), .null])) :: ([] ++ hp_E K (p + 1))) ++ hp_U K (p + 8)) (P := fun r ah' => AW X 1 _ _ (20 + 3) _ (r.toList ++ [.ref (p + 8), .ref (p)]) ah') ?_)
  refine a_hp (ah' := pre ++ (.inr (3, [.ref (p + 1), .null])) :: (([] ++ hp_E K (p + 1)) ++ hp_U K (p + 8))) (ha0 _ _ _ _) ?_
  refine a_putF (pc := 23) (idx := 21) (ci := 3) (i := p) (f := 1) (fs := [.ref (p + 1), .null]) (v := .ref (p + 8)) (ah' := pre ++ (.inr (3, [.ref (p + 1), .ref (p + 8)])) :: (([] ++ hp_E K (p + 1)) ++ hp_U K (p + 8))) hC (by decide +kernel) rfl wrP (by decide) rfl (by decide +kernel) rfl hnm rfl rfl rfl (hg0 hp _ _) (Nat.le_of_ble_eq_true rfl) (hs0 hp _ _ _) ?_
  exact a_return (pc := 26) hC hE (by decide +kernel) ⟨rfl, rfl⟩
def hp_L (K : K5) (p : Nat) : Hp := (.inr (1, [.ref (p + 1), .ref (p + 8), .ref (p + 10), .ref (p + 11)])) :: (((([] ++ hp_E K (p + 1)) ++ hp_U K (p + 8)) ++ [aI K.1 5 (fun _ => 0)]) ++ [aI K.1 5 (fun _ => 0)])
set_option maxRecDepth 100000 in
set_option maxHeartbeats 4000000 in
theorem cn_L_init (l : Launch) (D : va_G) (K : K5) (pre : Hp) (p : Nat) (hp : pre.length = p) : Mt l y_L_init c_L_init 1 none (rmn 2 40 11 53) D (tyK K) [.ref p] (pre ++ [.inr (1, [.null, .null, .null, .null])]) (fun r ah' => r = none ∧ ah' = pre ++ hp_L K p) := by
  refine Mt.intro (by decide +kernel) (Nat.le_of_ble_eq_true rfl) ?_
  intro X hla hro hdd hty hnm hC hE
  refine a_aload_n (pc := 0) (q := 0) (i := 0) (x := p) hC (by decide +kernel) rfl 0 rfl ?_
  refine a_objInit (pc := 1) (idx := 3) (i := p) hC (by decide +kernel) (by decide +kernel) objOk.1 objOk.2 (by rw [hro]; decide) (by rw [hro]; decide) (by decide) ?_
  refine a_aload_n (pc := 4) (q := 0) (i := 0) (x := p) hC (by decide +kernel) rfl 0 rfl ?_
  refine a_new (pc := 5) (idx := 9) (ci := 0) (a := p + 1) (fs := [.null]) (ah' := (pre ++ (.inr (1, [.null, .null, .null, .null])) :: []) ++ [.inr (0, [.null])]) hC (by decide +kernel) rfl wrE (by decide +kernel) (by decide +kernel) (by decide +kernel) (by decide +kernel) (fun _ _ => rfl) (by rw [hro]; decide) (by rw [hro]; decide) (hl hp rfl) rfl ?_
  refine a_dup (pc := 8) hC (by decide +kernel) rfl ?_
  refine a_callIN (pc := 9) (idx := 11) (y := y_E_init) (code := c_E_init) (maxL := 1) (na := 0) (rm := (rmn 1 20 6 35)) (av := []) (rest := [.ref (p + 1), .ref (p)]) (host := "PlanValues") (i := p + 1) hC (by decide +kernel) k_E_init (by decide +kernel) rfl (by decide +kernel) (by rw [hty]; exact cn_E_init X.la X.dd K (pre ++ (.inr (1, [.null, .null, .null, .null])) :: []) (p + 1) (hl hp rfl)) rfl (by rw [hro]; exact ⟨⟨by decide, by decide⟩, by decide, by decide⟩) (by first | decide | simp [Value.category]) (ct_go (v := none) (a := (pre ++ (.inr (1, [.null, .null, .null, .null])) :: []) ++ hp_E K (p + 1)) (P := fun r ah' => AW X 1 _ _ (9 + 3) _ (r.toList ++ [.ref (p + 1), .ref (p)]) ah') ?_)
  refine a_hp (ah' := pre ++ (.inr (1, [.null, .null, .null, .null])) :: ([] ++ hp_E K (p + 1))) (ha0 _ _ _ _) ?_
  refine a_putF (pc := 12) (idx := 12) (ci := 1) (i := p) (f := 0) (fs := [.null, .null, .null, .null]) (v := .ref (p + 1)) (ah' := pre ++ (.inr (1, [.ref (p + 1), .null, .null, .null])) :: ([] ++ hp_E K (p + 1))) hC (by decide +kernel) rfl wrL (by decide) rfl (by decide +kernel) rfl hnm rfl rfl rfl (hg0 hp _ _) (Nat.le_of_ble_eq_true rfl) (hs0 hp _ _ _) ?_
  refine a_aload_n (pc := 15) (q := 0) (i := 0) (x := p) hC (by decide +kernel) rfl 0 rfl ?_
  refine a_new (pc := 16) (idx := 18) (ci := 2) (a := p + 8) (fs := [.null, vl 0]) (ah' := (pre ++ (.inr (1, [.ref (p + 1), .null, .null, .null])) :: ([] ++ hp_E K (p + 1))) ++ [.inr (2, [.null, vl 0])]) hC (by decide +kernel) rfl wrU (by decide +kernel) (by decide +kernel) (by decide +kernel) (by decide +kernel) (fun _ _ => rfl) (by rw [hro]; decide) (by rw [hro]; decide) (hl hp rfl) rfl ?_
  refine a_dup (pc := 19) hC (by decide +kernel) rfl ?_
  refine a_callIN (pc := 20) (idx := 20) (y := y_U_init) (code := c_U_init) (maxL := 1) (na := 0) (rm := (rmn 1 20 1 5)) (av := []) (rest := [.ref (p + 8), .ref (p)]) (host := "PlanValues") (i := p + 8) hC (by decide +kernel) k_U_init (by decide +kernel) rfl (by decide +kernel) (by rw [hty]; exact cn_U_init X.la X.dd K (pre ++ (.inr (1, [.ref (p + 1), .null, .null, .null])) :: ([] ++ hp_E K (p + 1))) (p + 8) (hl hp rfl)) rfl (by rw [hro]; exact ⟨⟨by decide, by decide⟩, by decide, by decide⟩) (by first | decide | simp [Value.category]) (ct_go (v := none) (a := (pre ++ (.inr (1, [.ref (p + 1), .null, .null, .null])) :: ([] ++ hp_E K (p + 1))) ++ hp_U K (p + 8)) (P := fun r ah' => AW X 1 _ _ (20 + 3) _ (r.toList ++ [.ref (p + 8), .ref (p)]) ah') ?_)
  refine a_hp (ah' := pre ++ (.inr (1, [.ref (p + 1), .null, .null, .null])) :: (([] ++ hp_E K (p + 1)) ++ hp_U K (p + 8))) (ha0 _ _ _ _) ?_
  refine a_putF (pc := 23) (idx := 21) (ci := 1) (i := p) (f := 1) (fs := [.ref (p + 1), .null, .null, .null]) (v := .ref (p + 8)) (ah' := pre ++ (.inr (1, [.ref (p + 1), .ref (p + 8), .null, .null])) :: (([] ++ hp_E K (p + 1)) ++ hp_U K (p + 8))) hC (by decide +kernel) rfl wrL (by decide) rfl (by decide +kernel) rfl hnm rfl rfl rfl (hg0 hp _ _) (Nat.le_of_ble_eq_true rfl) (hs0 hp _ _ _) ?_
  refine a_aload_n (pc := 26) (q := 0) (i := 0) (x := p) hC (by decide +kernel) rfl 0 rfl ?_
  refine a_iconst (pc := 27) (c := 5) hC (by decide +kernel) ?_
  refine a_newI (pc := 28) (a := p + 10) (N := 5) (cA := K.1) (z := 5) (atype := .int) (ty := .int) (ah' := pre ++ (.inr (1, [.ref (p + 1), .ref (p + 8), .null, .null])) :: ((([] ++ hp_E K (p + 1)) ++ hp_U K (p + 8)) ++ [aI K.1 5 (fun _ => 0)])) hC (by decide +kernel) rfl (by decide) (by rw [hty]; exact tyK_I K) (by decide +kernel) rfl (by decide) (by rw [hro]; decide) (by rw [hro]; decide) (hl hp rfl) (ha0 _ _ _ _) ?_
  refine a_putF (pc := 30) (idx := 25) (ci := 1) (i := p) (f := 2) (fs := [.ref (p + 1), .ref (p + 8), .null, .null]) (v := .ref (p + 10)) (ah' := pre ++ (.inr (1, [.ref (p + 1), .ref (p + 8), .ref (p + 10), .null])) :: ((([] ++ hp_E K (p + 1)) ++ hp_U K (p + 8)) ++ [aI K.1 5 (fun _ => 0)])) hC (by decide +kernel) rfl wrL (by decide) rfl (by decide +kernel) rfl hnm rfl rfl rfl (hg0 hp _ _) (Nat.le_of_ble_eq_true rfl) (hs0 hp _ _ _) ?_
  refine a_aload_n (pc := 33) (q := 0) (i := 0) (x := p) hC (by decide +kernel) rfl 0 rfl ?_
  refine a_iconst (pc := 34) (c := 5) hC (by decide +kernel) ?_
  refine a_newI (pc := 35) (a := p + 11) (N := 5) (cA := K.1) (z := 5) (atype := .int) (ty := .int) (ah' := pre ++ (.inr (1, [.ref (p + 1), .ref (p + 8), .ref (p + 10), .null])) :: (((([] ++ hp_E K (p + 1)) ++ hp_U K (p + 8)) ++ [aI K.1 5 (fun _ => 0)]) ++ [aI K.1 5 (fun _ => 0)])) hC (by decide +kernel) rfl (by decide) (by rw [hty]; exact tyK_I K) (by decide +kernel) rfl (by decide) (by rw [hro]; decide) (by rw [hro]; decide) (hl hp rfl) (ha0 _ _ _ _) ?_
  refine a_putF (pc := 37) (idx := 29) (ci := 1) (i := p) (f := 3) (fs := [.ref (p + 1), .ref (p + 8), .ref (p + 10), .null]) (v := .ref (p + 11)) (ah' := pre ++ (.inr (1, [.ref (p + 1), .ref (p + 8), .ref (p + 10), .ref (p + 11)])) :: (((([] ++ hp_E K (p + 1)) ++ hp_U K (p + 8)) ++ [aI K.1 5 (fun _ => 0)]) ++ [aI K.1 5 (fun _ => 0)])) hC (by decide +kernel) rfl wrL (by decide) rfl (by decide +kernel) rfl hnm rfl rfl rfl (hg0 hp _ _) (Nat.le_of_ble_eq_true rfl) (hs0 hp _ _ _) ?_
  exact a_return (pc := 40) hC hE (by decide +kernel) ⟨rfl, rfl⟩
