/-! THE HEAP OF THE CLAIM: 64 cells of fixed shapes; what they hold is one function G : cell → place → number -/
/-- a cell's shape: ints (0), longs (1), booleans (2), rows of ints (3), rows of longs (4) with their length and where their rows begin; or an object: its class, its fields: .inl none an int, .inl (some ()) a long, .inr r a reference -/
abbrev Sh : Type := (Nat × Nat × Nat) ⊕ (Nat × List (Option Unit ⊕ Nat))
abbrev shI (N : Nat) : Sh := .inl (0, N, 0)
abbrev shL (N : Nat) : Sh := .inl (1, N, 0)
abbrev shZ (N : Nat) : Sh := .inl (2, N, 0)
abbrev shII (N r : Nat) : Sh := .inl (3, N, r)
abbrev shLL (N r : Nat) : Sh := .inl (4, N, r)
abbrev fI : Option Unit ⊕ Nat := .inl none
abbrev fL : Option Unit ⊕ Nat := .inl (some ())
abbrev fR (r : Nat) : Option Unit ⊕ Nat := .inr r
abbrev K5 : Type := ClassId × ClassId × ClassId × ClassId × ClassId
def tyK (K : K5) : List (ClassId × FieldType) := [(K.1, .int), (K.2.1, .long), (K.2.2.1, .boolean), (K.2.2.2.1, .array .int), (K.2.2.2.2, .array .long)]
theorem tyK_I (K : K5) : (K.1, FieldType.int) ∈ tyK K := List.mem_of_getElem? (i := 0) rfl
theorem tyK_L (K : K5) : (K.2.1, FieldType.long) ∈ tyK K := List.mem_of_getElem? (i := 1) rfl
theorem tyK_Z (K : K5) : (K.2.2.1, FieldType.boolean) ∈ tyK K := List.mem_of_getElem? (i := 2) rfl
theorem tyK_II (K : K5) : (K.2.2.2.1, FieldType.array .int) ∈ tyK K := List.mem_of_getElem? (i := 3) rfl
theorem tyK_LL (K : K5) : (K.2.2.2.2, FieldType.array .long) ∈ tyK K := List.mem_of_getElem? (i := 4) rfl
def fv (g : Nat → Int) (k : Nat) (s : Option Unit ⊕ Nat) : Value := match s with
  | .inl none => vi (g k)
  | .inl (some _) => vl (g k)
  | .inr r => .ref r
def cellOf (K : K5) (s : Sh) (g : Nat → Int) : va_E := match s with
  | .inl (0, N, _) => aI K.1 N g
  | .inl (1, N, _) => aL K.2.1 N g
  | .inl (2, N, _) => aI K.2.2.1 N g
  | .inl (3, N, r) => aQ K.2.2.2.1 N (fun k => if k < N then some (r + k) else none)
  | .inl (_, N, r) => aQ K.2.2.2.2 N (fun k => if k < N then some (r + k) else none)
  | .inr (ci, fs) => .inr (ci, fs.mapIdx (fv g))
def shape : List Sh :=
  [.inr (5, [fR 1, fR 22, fR 32, fR 44, fR 46, fR 47, fR 48, fR 49, fL, fL]),
   .inr (4, [fI, fI, fI, fR 2, fR 3, fR 4, fR 5, fR 6]), shZ 5, shI 5, shI 15, shI 15, shII 15 7] ++ List.replicate 15 (shI 5) ++
  [.inr (3, [fR 23, fR 30]), .inr (0, [fR 24]), shLL 5 25] ++ List.replicate 5 (shL 6) ++ [.inr (2, [fR 31, fL]), shL 5] ++
  [.inr (1, [fR 33, fR 40, fR 42, fR 43]), .inr (0, [fR 34]), shLL 5 35] ++ List.replicate 5 (shL 6) ++ [.inr (2, [fR 41, fL]), shL 5, shI 5, shI 5] ++
  [.inr (2, [fR 45, fL]), shL 5, shL 5, shI 5, shI 5, shI 5] ++
  [.inr (6, [fI, fI, fR 51, fR 52, fR 53, fR 54, fR 55, fI, fI, fL, fL, fR 56, fR 57, fR 58, fI, fR 59, fR 60, fR 61, fI, fI, fL, fL, fR 62, fR 63, fL, fL]),
   shZ 5, shI 5, shI 15, shI 75, shI 5, shL 25, shL 5, shL 32, shL 1215, shL 243, shI 5, shL 5, shL 5]
abbrev GT : Type := Nat → Nat → Int
theorem hp_ex : ∃ h : K5 → GT → Hp, ∀ K G, h K G = shape.mapIdx (fun a s => cellOf K s (G a)) := ⟨fun K G => shape.mapIdx (fun a s => cellOf K s (G a)), fun _ _ => rfl⟩
/-- the heap; it is never opened but by hp_eq -/
noncomputable def hp (K : K5) (G : GT) : Hp := Classical.choose hp_ex K G
theorem hp_eq (K : K5) (G : GT) : hp K G = shape.mapIdx (fun a s => cellOf K s (G a)) := Classical.choose_spec hp_ex K G
def uG (G : GT) (a : Nat) (g : Nat → Int) : GT := fun b => if b = a then g else G b
theorem uG_s (G : GT) (a : Nat) (g : Nat → Int) : uG G a g a = g := if_pos rfl
theorem uG_n (G : GT) {a b : Nat} (g : Nat → Int) (h : b ≠ a) : uG G a g b = G b := if_neg h
theorem hp_at (K : K5) (G : GT) {a : Nat} {s : Sh} (h : shape[a]? = some s) : (hp K G)[a]? = some (cellOf K s (G a)) := by
  rw [hp_eq, List.getElem?_mapIdx, h]; rfl
theorem hp_set (K : K5) (G : GT) {a : Nat} {s : Sh} (h : shape[a]? = some s) (g : Nat → Int) : (hp K G).set a (cellOf K s g) = hp K (uG G a g) := by
  apply List.ext_getElem?
  intro i
  have hlt : a < (hp K G).length := by
    have := (List.getElem?_eq_some_iff.mp (hp_at K G h)).1
    exact this
  by_cases hi : a = i
  · subst hi
    rw [List.getElem?_set_self hlt, hp_at K _ h, uG_s]
  · rw [List.getElem?_set_ne hi]
    rw [hp_eq, hp_eq, List.getElem?_mapIdx, List.getElem?_mapIdx, uG_n G g (Ne.symm hi)]
theorem fs_set (K : K5) {ci f : Nat} {fs : List (Option Unit ⊕ Nat)} {q : Option Unit ⊕ Nat} (g : Nat → Int) (x : Int) (hf : fs[f]? = some q) (v : Value) (hv : fv (up g f x) f q = v) : (.inr (ci, (fs.mapIdx (fv g)).set f v) : va_E) = cellOf K (.inr (ci, fs)) (up g f x) := by
  show (Sum.inr (ci, _) : va_E) = Sum.inr (ci, _)
  congr 2
  apply List.ext_getElem?
  intro i
  have hlt : f < (fs.mapIdx (fv g)).length := by rw [List.length_mapIdx]; exact (List.getElem?_eq_some_iff.mp hf).1
  by_cases hi : f = i
  · subst hi
    rw [List.getElem?_set_self hlt, List.getElem?_mapIdx, hf, ← hv]; rfl
  · rw [List.getElem?_set_ne hi, List.getElem?_mapIdx, List.getElem?_mapIdx]
    cases hfi : fs[i]? with
    | none => rfl
    | some q2 =>
      have : fv (up g f x) i q2 = fv g i q2 := by
        unfold fv
        rcases q2 with (_ | _) | r
        · simp only [up_n g x (Ne.symm hi)]
        · simp only [up_n g x (Ne.symm hi)]
        · rfl
      simp [this]
section GROWS
variable {X : Xt} {cc : ByteArray} {nL k n pc : Nat} {own : String} {ret : Option FieldType} {lv : List (Nat × Value)} {st : List Value} {K : K5} {G : GT}
theorem g_top {x y : Int} (h : x = y) (kk : AW X nL k n pc lv (vi y :: st) (hp K G)) : AW X nL k n pc lv (vi x :: st) (hp K G) := by rw [h]; exact kk
theorem g_topl {x y : Int} (h : x = y) (kk : AW X nL k n pc lv (vl y :: st) (hp K G)) : AW X nL k n pc lv (vl x :: st) (hp K G) := by rw [h]; exact kk
theorem g_snd {v : Value} {x y : Int} (h : x = y) (kk : AW X nL k n pc lv (v :: vi y :: st) (hp K G)) : AW X nL k n pc lv (v :: vi x :: st) (hp K G) := by rw [h]; exact kk
theorem g_G {G' : GT} (h : G = G') (kk : AW X nL k n pc lv st (hp K G')) : AW X nL k n pc lv st (hp K G) := by rw [h]; exact kk
theorem fv_at {g : Nat → Int} {fs : List (Option Unit ⊕ Nat)} {f : Nat} {q : Option Unit ⊕ Nat} (h : fs[f]? = some q) : (fs.mapIdx (fv g))[f]? = some (fv g f q) := by rw [List.getElem?_mapIdx, h]; rfl
/-- fields: own class, nest mates; an int, a long, a reference -/
theorem g_get (hC : Cx X cc nL own ret) (a f : Nat) {idx ci N : Nat} {fs : List (Option Unit ⊕ Nat)} {q : Option Unit ⊕ Nat} {C : String} {T : u_T} {ty0 : Nat → FieldType} {v : Value} (hd : decode cc pc = .ok (.getfield idx, 3)) (hs : shape[a]? = some (.inr (ci, fs))) (hf : fs[f]? = some q) (hv : fv (G a) f q = v) (hc : vwCl[ci]? = some (C, T, N)) (hw : Wr C T N ty0) (hN : f < N) (hT : (T f).1 = C) (hlink : Cond.fieldLink own idx C (T f).2.1 (T f).2.2.1 ∈ TT)
    (kk : AW X nL k n (pc + 3) lv (v :: st) (hp K G)) : AW X nL k n pc lv (.ref a :: st) (hp K G) := by
  subst hv
  exact a_get hC hd hc hw.1 hN hT hlink (hp_at K G hs) (fv_at hf) kk
theorem g_getN (hC : Cx X cc nL own ret) (a f : Nat) {idx ci N : Nat} {fs : List (Option Unit ⊕ Nat)} {q : Option Unit ⊕ Nat} {C host : String} {T : u_T} {ty0 : Nat → FieldType} {v : Value} (hd : decode cc pc = .ok (.getfield idx, 3)) (hs : shape[a]? = some (.inr (ci, fs))) (hf : fs[f]? = some q) (hv : fv (G a) f q = v) (hc : vwCl[ci]? = some (C, T, N)) (hw : Wr C T N ty0) (hN : f < N) (hT : (T f).1 = C) (hlink : Cond.fieldLinkNest own idx C (T f).2.1 (T f).2.2.1 host ∈ NN)
    (kk : AW X nL k n (pc + 3) lv (v :: st) (hp K G)) : AW X nL k n pc lv (.ref a :: st) (hp K G) := by
  subst hv
  exact a_getN hC hd hc hw.1 hN hT hlink (hp_at K G hs) (fv_at hf) kk
theorem g_put (hC : Cx X cc nL own ret) (a f : Nat) {idx ci N : Nat} {fs : List (Option Unit ⊕ Nat)} {q : Option Unit ⊕ Nat} {C : String} {T : u_T} {ty0 : Nat → FieldType} {v : Value} {x : Int} (hd : decode cc pc = .ok (.putfield idx, 3)) (hs : shape[a]? = some (.inr (ci, fs))) (hf : fs[f]? = some q) (hv : fv (up (G a) f x) f q = v) (hc : vwCl[ci]? = some (C, T, N)) (hw : Wr C T N ty0) (hN : f < N) (hT : (T f).1 = C) (hlink : Cond.fieldLink own idx C (T f).2.1 (T f).2.2.1 ∈ TT) (hfin : (T f).2.2.2 = false) (hok : narrow (ty0 f) v = v ∧ fits (ty0 f) v = true ∧ ∀ b sb, mv b sb v = v)
    (kk : AW X nL k n (pc + 3) lv st (hp K (uG G a (up (G a) f x)))) : AW X nL k n pc lv (v :: .ref a :: st) (hp K G) := by
  refine a_put hC hd hc hw hN hT hlink hfin (by rw [hok.2.2]; exact hok.1) (by rw [hok.2.2]; exact hok.2.1) (hp_at K G hs) ?_ ?_ kk
  · rw [List.length_mapIdx]; exact (List.getElem?_eq_some_iff.mp hf).1
  · rw [fs_set K (G a) x hf v hv]
    exact hp_set K G hs _
theorem g_putN (hC : Cx X cc nL own ret) (a f : Nat) {idx ci N : Nat} {fs : List (Option Unit ⊕ Nat)} {q : Option Unit ⊕ Nat} {C host : String} {T : u_T} {ty0 : Nat → FieldType} {v : Value} {x : Int} (hd : decode cc pc = .ok (.putfield idx, 3)) (hs : shape[a]? = some (.inr (ci, fs))) (hf : fs[f]? = some q) (hv : fv (up (G a) f x) f q = v) (hc : vwCl[ci]? = some (C, T, N)) (hw : Wr C T N ty0) (hN : f < N) (hT : (T f).1 = C) (hlink : Cond.fieldLinkNest own idx C (T f).2.1 (T f).2.2.1 host ∈ NN) (hfin : (T f).2.2.2 = false) (hok : narrow (ty0 f) v = v ∧ fits (ty0 f) v = true ∧ ∀ b sb, mv b sb v = v)
    (kk : AW X nL k n (pc + 3) lv st (hp K (uG G a (up (G a) f x)))) : AW X nL k n pc lv (v :: .ref a :: st) (hp K G) := by
  refine a_putN hC hd hc hw hN hT hlink hfin (by rw [hok.2.2]; exact hok.1) (by rw [hok.2.2]; exact hok.2.1) (hp_at K G hs) ?_ ?_ kk
  · rw [List.length_mapIdx]; exact (List.getElem?_eq_some_iff.mp hf).1
  · rw [fs_set K (G a) x hf v hv]
    exact hp_set K G hs _
theorem ok_int (x : Int) : narrow .int (vi x) = vi x ∧ fits .int (vi x) = true ∧ ∀ b sb, mv b sb (vi x) = vi x := ⟨rfl, rfl, fun _ _ => rfl⟩
theorem ok_long (x : Int) : narrow .long (vl x) = vl x ∧ fits .long (vl x) = true ∧ ∀ b sb, mv b sb (vl x) = vl x := ⟨rfl, rfl, fun _ _ => rfl⟩
theorem g_iald (hC : Cx X cc nL own ret) (hty : X.ty = tyK K) {a j N : Nat} (hd : decode cc pc = .ok (.iaload, 1)) (hs : shape[a]? = some (shI N)) (hj : j < N) (hN : N < 2147483648) (kk : AW X nL k n (pc + 1) lv (vi (G a j) :: st) (hp K G)) : AW X nL k n pc lv (vi j :: .ref a :: st) (hp K G) :=
  a_iaload hC hd (by rw [hty]; exact tyK_I K) (hp_at K G hs) hj hN kk
theorem g_lald (hC : Cx X cc nL own ret) (hty : X.ty = tyK K) {a j N : Nat} (hd : decode cc pc = .ok (.laload, 1)) (hs : shape[a]? = some (shL N)) (hj : j < N) (hN : N < 2147483648) (kk : AW X nL k n (pc + 1) lv (vl (G a j) :: st) (hp K G)) : AW X nL k n pc lv (vi j :: .ref a :: st) (hp K G) :=
  a_laload hC hd (by rw [hty]; exact tyK_L K) (hp_at K G hs) hj hN kk
theorem g_zald (hC : Cx X cc nL own ret) (hty : X.ty = tyK K) {a j N : Nat} (hd : decode cc pc = .ok (.baload, 1)) (hs : shape[a]? = some (shZ N)) (hj : j < N) (hN : N < 2147483648) (kk : AW X nL k n (pc + 1) lv (vi (G a j) :: st) (hp K G)) : AW X nL k n pc lv (vi j :: .ref a :: st) (hp K G) :=
  a_zaload hC hd (by rw [hty]; exact tyK_Z K) (hp_at K G hs) hj hN kk
theorem g_ast {a j N : Nat} (cA : ClassId) (x : Int) {s : Sh} (hs : shape[a]? = some s) (he : cellOf K s (up (G a) j x) = aI cA N (up (G a) j x)) : (hp K G).set a (aI cA N (up (G a) j x)) = hp K (uG G a (up (G a) j x)) := by rw [← he]; exact hp_set K G hs _
theorem g_iast (hC : Cx X cc nL own ret) (hty : X.ty = tyK K) {a j N : Nat} {x : Int} (hd : decode cc pc = .ok (.iastore, 1)) (hs : shape[a]? = some (shI N)) (hj : j < N) (hN : N < 2147483648) (kk : AW X nL k n (pc + 1) lv st (hp K (uG G a (up (G a) j x)))) : AW X nL k n pc lv (vi x :: vi j :: .ref a :: st) (hp K G) :=
  a_iastore hC hd (by rw [hty]; exact tyK_I K) (hp_at K G hs) hj hN (hp_set K G hs (up (G a) j x)) kk
theorem g_last (hC : Cx X cc nL own ret) (hty : X.ty = tyK K) {a j N : Nat} {x : Int} (hd : decode cc pc = .ok (.lastore, 1)) (hs : shape[a]? = some (shL N)) (hj : j < N) (hN : N < 2147483648) (kk : AW X nL k n (pc + 1) lv st (hp K (uG G a (up (G a) j x)))) : AW X nL k n pc lv (vl x :: vi j :: .ref a :: st) (hp K G) :=
  a_lastore hC hd (by rw [hty]; exact tyK_L K) (hp_at K G hs) hj hN (hp_set K G hs (up (G a) j x)) kk
theorem g_zast (hC : Cx X cc nL own ret) (hty : X.ty = tyK K) {a j N : Nat} {x : Int} (hx : x = 0 ∨ x = 1) (hd : decode cc pc = .ok (.bastore, 1)) (hs : shape[a]? = some (shZ N)) (hj : j < N) (hN : N < 2147483648) (kk : AW X nL k n (pc + 1) lv st (hp K (uG G a (up (G a) j x)))) : AW X nL k n pc lv (vi x :: vi j :: .ref a :: st) (hp K G) :=
  a_zastore hC hd hx (by rw [hty]; exact tyK_Z K) (hp_at K G hs) hj hN (hp_set K G hs (up (G a) j x)) kk
theorem g_aaldI (hC : Cx X cc nL own ret) (hty : X.ty = tyK K) {a j N r : Nat} (hd : decode cc pc = .ok (.aaload, 1)) (hs : shape[a]? = some (shII N r)) (hj : j < N) (hN : N < 2147483648) (kk : AW X nL k n (pc + 1) lv (.ref (r + j) :: st) (hp K G)) : AW X nL k n pc lv (vi j :: .ref a :: st) (hp K G) :=
  a_aaload hC hd rfl (by rw [hty]; exact tyK_II K) (hp_at K G hs) hj hN (if_pos hj) kk
theorem g_aaldL (hC : Cx X cc nL own ret) (hty : X.ty = tyK K) {a j N r : Nat} (hd : decode cc pc = .ok (.aaload, 1)) (hs : shape[a]? = some (shLL N r)) (hj : j < N) (hN : N < 2147483648) (kk : AW X nL k n (pc + 1) lv (.ref (r + j) :: st) (hp K G)) : AW X nL k n pc lv (vi j :: .ref a :: st) (hp K G) :=
  a_aaload hC hd rfl (by rw [hty]; exact tyK_LL K) (hp_at K G hs) hj hN (if_pos hj) kk
/-- a method's room: it makes nothing -/
abbrev rmk (f l : Nat) : Room := { frames := f, cells := 0, slots := 0, locals := l }
/-- a contract over the heap of the claim: the answer v, the numbers g behind it -/
def Ct (l : Launch) (D : va_G) (K : K5) (y : MethodName) (code : ByteArray) (maxL : Nat) (rt : Option FieldType) (fr lo : Nat) (av : List Value) (G : GT) (v : Option Value) (g : GT) : Prop :=
  Mt l y code maxL rt (rmk fr lo) D (tyK K) av (hp K G) (fun r ah' => r = v ∧ ah' = hp K g)
/-- what stands at a method's end -/
def En (X : Xt) (K : K5) (v : Option Value) (g : GT) : Prop := EndOk X (fun r ah' => r = v ∧ ah' = hp K g) 0 0
theorem Ct.intro {l : Launch} {D : va_G} {y : MethodName} {maxL fr lo : Nat} {av : List Value} {v : Option Value} {g : GT} (hy : plainFor y = true) (hlen : (lg_sl av).length ≤ maxL)
    (h : ∀ X : Xt, X.ro = rmk fr lo → X.ty = tyK K → Cx X cc maxL y.cls ret → En X K v g → AW X maxL 0 0 0 (lv_args 0 av) [] (hp K G)) : Ct l D K y cc maxL ret fr lo av G v g :=
  Mt.intro hy hlen (fun X _ h2 _ h4 _ h6 h7 => h X h2 h4 h6 h7)
theorem g_iret {v : Int} {g : GT} {x : Int} (hC : Cx X cc nL own (some .int)) (hE : En X K (some (vi v)) g) (hd : decode cc pc = .ok (.ireturn, 1)) (hv : x = v) (hg : G = g) : AW X nL 0 0 pc lv [vi x] (hp K G) := a_ireturn hC hE hd ⟨by rw [hv], by rw [hg]⟩
theorem g_zret {v : Int} {g : GT} {x : Int} (hC : Cx X cc nL own (some .boolean)) (hE : En X K (some (vi v)) g) (hd : decode cc pc = .ok (.ireturn, 1)) (h01 : x = 0 ∨ x = 1) (hv : x = v) (hg : G = g) : AW X nL 0 0 pc lv [vi x] (hp K G) := a_zreturn hC hE hd (by rcases h01 with rfl | rfl <;> rfl) ⟨by rw [hv], by rw [hg]⟩
theorem g_lret {v : Int} {g : GT} {x : Int} (hC : Cx X cc nL own (some .long)) (hE : En X K (some (vl v)) g) (hd : decode cc pc = .ok (.lreturn, 1)) (hv : x = v) (hg : G = g) : AW X nL 0 0 pc lv [vl x] (hp K G) := a_lreturn hC hE hd ⟨by rw [hv], by rw [hg]⟩
theorem g_vret {g : GT} (hC : Cx X cc nL own none) (hE : En X K none g) (hd : decode cc pc = .ok (.return_, 1)) (hg : G = g) : AW X nL 0 0 pc lv [] (hp K G) := a_return hC hE hd ⟨rfl, by rw [hg]⟩
theorem ct_go {P : Option Value → Hp → Prop} {v : Option Value} {a : Hp} (kk : P v a) : ∀ (r : Option Value) (ah' : Hp), (r = v ∧ ah' = a) → P r ah' := fun r ah' h => by rw [h.1, h.2]; exact kk
section GCALL
variable {y : MethodName} {code : ByteArray} {maxL na idx fr lo F L : Nat} {rt : Option FieldType} {av rest st0 : List Value} {host : String} {g : GT}
theorem g_callS (hC : Cx X cc nL own ret) (hro : X.ro = rmk F L) (hty : X.ty = tyK K) {v : Value} (hd : decode cc pc = .ok (.invokestatic idx, 3)) (hy : Yk y code maxL rt na) (hs : Cond.static y ∈ TT) (hlk : Cond.methodLink own idx y ∈ TT) (hM : Ct X.la X.dd K y code maxL rt fr lo av G (some v) g) (hst : st0 = av.reverse ++ rest) (hna : av.length = na) (hf : fr + 1 ≤ F ∧ 8 + (maxL + 11) + lo ≤ L) (hcat : (rest.map fun v => v.category).sum ≤ 8)
    (kk : AW X nL 0 0 (pc + 3) lv (v :: rest) (hp K g)) : AW X nL 0 0 pc lv st0 (hp K G) := by
  rw [hst]
  exact a_callS (rm := rmk fr lo) hC hd hy hs hlk (by rw [hty]; exact hM) hna (by rw [hro]; exact ⟨hf, Nat.zero_le _, Nat.zero_le _⟩) hcat (ct_go (v := (some v)) (a := hp K g) (P := fun r ah' => AW X nL (0 + (rmk fr lo).cells) (0 + (rmk fr lo).slots) (pc + 3) lv (r.toList ++ rest) ah') kk)
theorem g_callS0 (hC : Cx X cc nL own ret) (hro : X.ro = rmk F L) (hty : X.ty = tyK K) (hd : decode cc pc = .ok (.invokestatic idx, 3)) (hy : Yk y code maxL rt na) (hs : Cond.static y ∈ TT) (hlk : Cond.methodLink own idx y ∈ TT) (hM : Ct X.la X.dd K y code maxL rt fr lo av G none g) (hst : st0 = av.reverse ++ rest) (hna : av.length = na) (hf : fr + 1 ≤ F ∧ 8 + (maxL + 11) + lo ≤ L) (hcat : (rest.map fun v => v.category).sum ≤ 8)
    (kk : AW X nL 0 0 (pc + 3) lv rest (hp K g)) : AW X nL 0 0 pc lv st0 (hp K G) := by
  rw [hst]
  exact a_callS (rm := rmk fr lo) hC hd hy hs hlk (by rw [hty]; exact hM) hna (by rw [hro]; exact ⟨hf, Nat.zero_le _, Nat.zero_le _⟩) hcat (ct_go (v := none) (a := hp K g) (P := fun r ah' => AW X nL (0 + (rmk fr lo).cells) (0 + (rmk fr lo).slots) (pc + 3) lv (r.toList ++ rest) ah') kk)
theorem g_callSN (hC : Cx X cc nL own ret) (hro : X.ro = rmk F L) (hty : X.ty = tyK K) {v : Value} (hd : decode cc pc = .ok (.invokestatic idx, 3)) (hy : Yk y code maxL rt na) (hs : Cond.static y ∈ TT) (hlk : Cond.methodLinkNest own idx y host ∈ NN) (hM : Ct X.la X.dd K y code maxL rt fr lo av G (some v) g) (hst : st0 = av.reverse ++ rest) (hna : av.length = na) (hf : fr + 1 ≤ F ∧ 8 + (maxL + 11) + lo ≤ L) (hcat : (rest.map fun v => v.category).sum ≤ 8)
    (kk : AW X nL 0 0 (pc + 3) lv (v :: rest) (hp K g)) : AW X nL 0 0 pc lv st0 (hp K G) := by
  rw [hst]
  exact a_callSN (rm := rmk fr lo) hC hd hy hs hlk (by rw [hty]; exact hM) hna (by rw [hro]; exact ⟨hf, Nat.zero_le _, Nat.zero_le _⟩) hcat (ct_go (v := (some v)) (a := hp K g) (P := fun r ah' => AW X nL (0 + (rmk fr lo).cells) (0 + (rmk fr lo).slots) (pc + 3) lv (r.toList ++ rest) ah') kk)
theorem g_callSN0 (hC : Cx X cc nL own ret) (hro : X.ro = rmk F L) (hty : X.ty = tyK K) (hd : decode cc pc = .ok (.invokestatic idx, 3)) (hy : Yk y code maxL rt na) (hs : Cond.static y ∈ TT) (hlk : Cond.methodLinkNest own idx y host ∈ NN) (hM : Ct X.la X.dd K y code maxL rt fr lo av G none g) (hst : st0 = av.reverse ++ rest) (hna : av.length = na) (hf : fr + 1 ≤ F ∧ 8 + (maxL + 11) + lo ≤ L) (hcat : (rest.map fun v => v.category).sum ≤ 8)
    (kk : AW X nL 0 0 (pc + 3) lv rest (hp K g)) : AW X nL 0 0 pc lv st0 (hp K G) := by
  rw [hst]
  exact a_callSN (rm := rmk fr lo) hC hd hy hs hlk (by rw [hty]; exact hM) hna (by rw [hro]; exact ⟨hf, Nat.zero_le _, Nat.zero_le _⟩) hcat (ct_go (v := none) (a := hp K g) (P := fun r ah' => AW X nL (0 + (rmk fr lo).cells) (0 + (rmk fr lo).slots) (pc + 3) lv (r.toList ++ rest) ah') kk)
theorem g_callV (hC : Cx X cc nL own ret) (hro : X.ro = rmk F L) (hty : X.ty = tyK K) {v : Value} (hd : decode cc pc = .ok (.invokevirtual idx, 3)) {ci i N : Nat} {T : u_T} {fs : List (Option Unit ⊕ Nat)} (hc : vwCl[ci]? = some (y.cls, T, N)) (hsh : shape[i]? = some (.inr (ci, fs))) (hy : Yk y code maxL rt na) (hi : Cond.instanceMethod y ∈ TT) (hsel : Cond.selects y.cls y y ∈ TT) (hlk : Cond.methodLink own idx y ∈ TT) (hM : Ct X.la X.dd K y code maxL rt fr lo (.ref i :: av) G (some v) g) (hst : st0 = av.reverse ++ .ref i :: rest) (hna : av.length = na) (hf : fr + 1 ≤ F ∧ 8 + (maxL + 11) + lo ≤ L) (hcat : (rest.map fun v => v.category).sum ≤ 8)
    (kk : AW X nL 0 0 (pc + 3) lv (v :: rest) (hp K g)) : AW X nL 0 0 pc lv st0 (hp K G) := by
  rw [hst]
  exact a_callV (rm := rmk fr lo) hC hd hc (hp_at K G hsh) hy hi hsel hlk (by rw [hty]; exact hM) hna (by rw [hro]; exact ⟨hf, Nat.zero_le _, Nat.zero_le _⟩) hcat (ct_go (v := (some v)) (a := hp K g) (P := fun r ah' => AW X nL (0 + (rmk fr lo).cells) (0 + (rmk fr lo).slots) (pc + 3) lv (r.toList ++ rest) ah') kk)
theorem g_callV0 (hC : Cx X cc nL own ret) (hro : X.ro = rmk F L) (hty : X.ty = tyK K) (hd : decode cc pc = .ok (.invokevirtual idx, 3)) {ci i N : Nat} {T : u_T} {fs : List (Option Unit ⊕ Nat)} (hc : vwCl[ci]? = some (y.cls, T, N)) (hsh : shape[i]? = some (.inr (ci, fs))) (hy : Yk y code maxL rt na) (hi : Cond.instanceMethod y ∈ TT) (hsel : Cond.selects y.cls y y ∈ TT) (hlk : Cond.methodLink own idx y ∈ TT) (hM : Ct X.la X.dd K y code maxL rt fr lo (.ref i :: av) G none g) (hst : st0 = av.reverse ++ .ref i :: rest) (hna : av.length = na) (hf : fr + 1 ≤ F ∧ 8 + (maxL + 11) + lo ≤ L) (hcat : (rest.map fun v => v.category).sum ≤ 8)
    (kk : AW X nL 0 0 (pc + 3) lv rest (hp K g)) : AW X nL 0 0 pc lv st0 (hp K G) := by
  rw [hst]
  exact a_callV (rm := rmk fr lo) hC hd hc (hp_at K G hsh) hy hi hsel hlk (by rw [hty]; exact hM) hna (by rw [hro]; exact ⟨hf, Nat.zero_le _, Nat.zero_le _⟩) hcat (ct_go (v := none) (a := hp K g) (P := fun r ah' => AW X nL (0 + (rmk fr lo).cells) (0 + (rmk fr lo).slots) (pc + 3) lv (r.toList ++ rest) ah') kk)
theorem g_callVN (hC : Cx X cc nL own ret) (hro : X.ro = rmk F L) (hty : X.ty = tyK K) {v : Value} (hd : decode cc pc = .ok (.invokevirtual idx, 3)) {ci i N : Nat} {T : u_T} {fs : List (Option Unit ⊕ Nat)} (hc : vwCl[ci]? = some (y.cls, T, N)) (hsh : shape[i]? = some (.inr (ci, fs))) (hy : Yk y code maxL rt na) (hi : Cond.instanceMethod y ∈ TT) (hsel : Cond.selects y.cls y y ∈ TT) (hlk : Cond.methodLinkNest own idx y host ∈ NN) (hM : Ct X.la X.dd K y code maxL rt fr lo (.ref i :: av) G (some v) g) (hst : st0 = av.reverse ++ .ref i :: rest) (hna : av.length = na) (hf : fr + 1 ≤ F ∧ 8 + (maxL + 11) + lo ≤ L) (hcat : (rest.map fun v => v.category).sum ≤ 8)
    (kk : AW X nL 0 0 (pc + 3) lv (v :: rest) (hp K g)) : AW X nL 0 0 pc lv st0 (hp K G) := by
  rw [hst]
  exact a_callVN (rm := rmk fr lo) hC hd hc (hp_at K G hsh) hy hi hsel hlk (by rw [hty]; exact hM) hna (by rw [hro]; exact ⟨hf, Nat.zero_le _, Nat.zero_le _⟩) hcat (ct_go (v := (some v)) (a := hp K g) (P := fun r ah' => AW X nL (0 + (rmk fr lo).cells) (0 + (rmk fr lo).slots) (pc + 3) lv (r.toList ++ rest) ah') kk)
theorem g_callVN0 (hC : Cx X cc nL own ret) (hro : X.ro = rmk F L) (hty : X.ty = tyK K) (hd : decode cc pc = .ok (.invokevirtual idx, 3)) {ci i N : Nat} {T : u_T} {fs : List (Option Unit ⊕ Nat)} (hc : vwCl[ci]? = some (y.cls, T, N)) (hsh : shape[i]? = some (.inr (ci, fs))) (hy : Yk y code maxL rt na) (hi : Cond.instanceMethod y ∈ TT) (hsel : Cond.selects y.cls y y ∈ TT) (hlk : Cond.methodLinkNest own idx y host ∈ NN) (hM : Ct X.la X.dd K y code maxL rt fr lo (.ref i :: av) G none g) (hst : st0 = av.reverse ++ .ref i :: rest) (hna : av.length = na) (hf : fr + 1 ≤ F ∧ 8 + (maxL + 11) + lo ≤ L) (hcat : (rest.map fun v => v.category).sum ≤ 8)
    (kk : AW X nL 0 0 (pc + 3) lv rest (hp K g)) : AW X nL 0 0 pc lv st0 (hp K G) := by
  rw [hst]
  exact a_callVN (rm := rmk fr lo) hC hd hc (hp_at K G hsh) hy hi hsel hlk (by rw [hty]; exact hM) hna (by rw [hro]; exact ⟨hf, Nat.zero_le _, Nat.zero_le _⟩) hcat (ct_go (v := none) (a := hp K g) (P := fun r ah' => AW X nL (0 + (rmk fr lo).cells) (0 + (rmk fr lo).slots) (pc + 3) lv (r.toList ++ rest) ah') kk)
end GCALL
end GROWS
