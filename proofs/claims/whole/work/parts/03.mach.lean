theorem ao_spec {args : Array Value} {s : State} {ty : FieldType} (h : (Cond.arrayOver (.array ty)).before args s = true) :
    ∃ comp c k, s.vm.findClass (FieldType.array ty).toString = some comp ∧ (s.vm.classes.findIdx? fun (x : Class) => match x.kind with | .array component _ => component == comp | _ => false) = some c ∧ s.vm.classes[c]? = some k ∧ k.kind = .array comp (.array ty) ∧
      s.vm.findClass ("[" ++ (FieldType.array ty).toString) = some c := by
  simp only [Cond.before, Cond.holds, Cond.value, beq_iff_eq] at h
  cases hc : s.vm.findClass (FieldType.array ty).toString with
  | none => simp [hc] at h
  | some comp =>
    simp only [hc, Option.bind_some, Option.bind_eq_some_iff, Option.map_eq_some_iff] at h
    obtain ⟨c, hi, k, hk, hb⟩ := h
    obtain ⟨hlt, hp, -⟩ := Array.findIdx?_eq_some_iff_getElem.mp hi
    have hkk : s.vm.classes[c] = k := (Array.getElem?_eq_some_iff.mp hk).2
    rw [hkk] at hp
    cases hkind : k.kind with
    | array component ty =>
      rw [hkind] at hb hp
      simp at hb hp
      exact ⟨comp, c, k, rfl, hi, hk, by rw [hkind, hp, hb.1], hb.2⟩
    | _ => rw [hkind] at hb; simp at hb
theorem ao_moved {ty : FieldType} {u U : State} (hvm : u.vm.Alike U.vm) (h : va_Nw (.arrayOver (.array ty)) u) : va_Nw (.arrayOver (.array ty)) U := by
  obtain ⟨comp, c, k, h1, h2, h3, h4, h5⟩ := ao_spec h
  obtain ⟨k', hk', he⟩ := hvm.2.2 _ _ h3
  have hi : (U.vm.classes.findIdx? fun (x : Class) => match x.kind with | .array component _ => component == comp | _ => false) = some c := by
    have e1 := va_idx_bare U.vm comp
    have e2 := va_idx_bare u.vm comp
    first | rw [hvm.bare_eq] at e2 | rw [← hvm.bare_eq] at e2
    exact (e1.symm.trans e2).trans h2
  have hkind : k'.kind = .array comp (.array ty) := by rw [he]; exact h4
  have f1 : U.vm.findClass (FieldType.array ty).toString = some comp := by rw [hvm.findClass]; exact h1
  have f2 : U.vm.findClass ("[" ++ (FieldType.array ty).toString) = some c := by rw [hvm.findClass]; exact h5
  unfold va_Nw Cond.before Cond.holds
  simp only [Cond.value]
  rw [f1, Option.bind_some]
  refine (congrArg (fun o : Option Nat => (o.bind (fun c => (U.vm.classes[c]?).map fun (k : Class) => match k.kind with | .array _ ty' => decide (ty' = FieldType.array ty) && decide (U.vm.findClass ("[" ++ (FieldType.array ty).toString) = some c) | _ => false) == some true)) hi).trans ?_
  simp [hk', hkind, f2]
theorem NN_same {u U : State} (w : Cond) (h : w ∈ NN) (hv : u.vm = U.vm) (hz : va_Nw w u) : va_Nw w U := by
  have hk := NN_kind w h
  cases w with
  | fieldLinkNest a i b n d h => exact va_Nw.same rfl hv hz
  | methodLinkNest a i x h => exact va_Nw.same rfl hv hz
  | arrayOver ty =>
    cases ty with
    | array t => exact ao_moved (hv ▸ Vm.Alike.refl u.vm) hz
    | _ => simp [nnKind] at hk
  | _ => simp [nnKind] at hk
theorem NN_warm {s U : State} (w : Cond) (h : w ∈ NN) (hW : s.WarmedH U.vm) (hz : va_Nw w s) : va_Nw w U := by
  have hk := NN_kind w h
  cases w with
  | fieldLinkNest a i b n d h => exact va_Nw.warmF hW hz
  | methodLinkNest a i x h => exact va_Nw.warmM hW hz
  | arrayOver ty =>
    cases ty with
    | array t => exact ao_moved hW.alike hz
    | _ => simp [nnKind] at hk
  | _ => simp [nnKind] at hk
/-! THE MACHINE SEEN BY NUMBERS. A heap of the claim's own is a list of cells (a cell's number is its place in the list: its address is b + the place, b the size of the heap where the law began); an int, a long by its number; the law's script is the word '.float 0'. A row an instruction, over the kit's rows. -/
def iZ (z : Int) : Int32 := Int32.ofInt z
def lZ (z : Int) : Int64 := Int64.ofInt z
abbrev vi (z : Int) : Value := .int (iZ z)
abbrev vl (z : Int) : Value := .long (lZ z)
/-- a value as the machine has it -/
def mv (b sb : Nat) (v : Value) : Value := match v with
  | .ref a => .ref (b + a)
  | .float _ => .ref sb
  | w => w
def ma (b : Nat) (x : vp_A) : vp_A := match x with
  | (n, .inr (.inr (.inr (.inr f)))) => (n, .inr (.inr (.inr (.inr (fun k => (f k).map (fun a => b + a))))))
  | y => y
def me (b sb : Nat) (e : va_E) : va_E := match e with
  | .inl (cA, x) => .inl (cA, ma b x)
  | .inr (ci, fs) => .inr (ci, fs.map (mv b sb))
abbrev Hp : Type := List va_E
/-- the heap of the machine holds the cells -/
def Rl (D : va_G) (cl : List vw_C) (b sb : Nat) (ah : Hp) (H : Heap) : Prop := H.size = b + ah.length ∧ ∀ (i : Nat) (e : va_E), ah[i]? = some e → va_at D cl (b + i, me b sb e) H
theorem Rl.one {D : va_G} {cl : List vw_C} {b sb : Nat} {ah : Hp} {H : Heap} (h : Rl D cl b sb ah H) {i : Nat} {e : va_E} (hi : ah[i]? = some e) : va_P D cl [(b + i, me b sb e)] H := by
  intro k q hk
  match k, hk with
  | 0, hk => cases hk; exact h.2 i e hi
theorem Rl.set {D : va_G} {cl : List vw_C} {b sb : Nat} {ah : Hp} {H H1 : Heap} (h : Rl D cl b sb ah H) {i : Nat} {e : va_E} (he : va_at D cl (b + i, me b sb e) H1) (hz : H1.size = H.size) (ho : ∀ q, q ≠ b + i → H1[q]? = H[q]?) : Rl D cl b sb (ah.set i e) H1 := by
  refine ⟨by rw [hz, h.1, List.length_set], fun j e' hj => ?_⟩
  by_cases hij : i = j
  · subst hij
    rw [List.getElem?_set] at hj
    simp only [if_true] at hj
    split at hj
    · cases hj; exact he
    · cases hj
  · rw [List.getElem?_set_ne hij] at hj
    exact (h.2 j e' hj).kept (ho _ (by show b + j ≠ b + i; omega))
theorem Rl.push {D : va_G} {cl : List vw_C} {b sb : Nat} {ah : Hp} {H H1 : Heap} (h : Rl D cl b sb ah H) {e : va_E} (he : va_at D cl (H.size, me b sb e) H1) (hz : H1.size = H.size + 1) (ho : ∀ q, q < H.size → H1[q]? = H[q]?) : Rl D cl b sb (ah ++ [e]) H1 := by
  refine ⟨by rw [hz, h.1, List.length_append]; simp [Nat.add_assoc], fun j e' hj => ?_⟩
  by_cases hlt : j < ah.length
  · rw [List.getElem?_append_left hlt] at hj
    exact (h.2 j e' hj).kept (ho _ (by rw [h.1]; show b + j < b + ah.length; omega))
  · rw [List.getElem?_append_right (by omega)] at hj
    have hz' : j - ah.length < 1 := (List.getElem?_eq_some_iff.mp hj).1
    rw [show j - ah.length = 0 by omega] at hj
    cases hj
    have : b + j = H.size := by rw [h.1]; omega
    rw [this]; exact he
/-- where a method runs: program, launch, environment, room, its first state, itself, its arguments, the frames below, its method and code, what is wanted at the end; the tables' numbers, the classes, the array classes; the base, the script -/
abbrev Xt : Type := Program × Launch × Env × Room × State × MethodId × Array Value × List Frame × Method × Code × (State → Prop) × va_G × List (ClassId × FieldType) × Nat × Nat
abbrev Xt.pg (X : Xt) : Program := X.1
abbrev Xt.la (X : Xt) : Launch := X.2.1
abbrev Xt.en (X : Xt) : Env := X.2.2.1
abbrev Xt.ro (X : Xt) : Room := X.2.2.2.1
abbrev Xt.s0 (X : Xt) : State := X.2.2.2.2.1
abbrev Xt.mi (X : Xt) : MethodId := X.2.2.2.2.2.1
abbrev Xt.ar (X : Xt) : Array Value := X.2.2.2.2.2.2.1
abbrev Xt.be (X : Xt) : List Frame := X.2.2.2.2.2.2.2.1
abbrev Xt.me (X : Xt) : Method := X.2.2.2.2.2.2.2.2.1
abbrev Xt.co (X : Xt) : Code := X.2.2.2.2.2.2.2.2.2.1
abbrev Xt.qq (X : Xt) : State → Prop := X.2.2.2.2.2.2.2.2.2.2.1
abbrev Xt.dd (X : Xt) : va_G := X.2.2.2.2.2.2.2.2.2.2.2.1
abbrev Xt.ty (X : Xt) : List (ClassId × FieldType) := X.2.2.2.2.2.2.2.2.2.2.2.2.1
abbrev Xt.ba (X : Xt) : Nat := X.2.2.2.2.2.2.2.2.2.2.2.2.2.1
abbrev Xt.sb (X : Xt) : Nat := X.2.2.2.2.2.2.2.2.2.2.2.2.2.2
/-- the walk's judgement: k cells of n slots are made so far; at pc, locals lv, operands st, heap ah -/
def AW (X : Xt) (nL k n pc : Nat) (lv : List (Nat × Value)) (st : List Value) (ah : Hp) : Prop :=
  ∀ (H : Heap) (locs : List Loc) (ls : Array Slot), Rl X.dd vwCl X.ba X.sb ah H → va_S (fun q => X.ba ≤ q) X.s0.heap H locs → lv_has ls nL (lv.map fun q => (q.1, mv X.ba X.sb q.2)) →
    W X.pg X.la X.en X.ro X.s0 X.mi X.ar X.be X.me X.co H locs k n X.qq (F0 X.mi pc ls (st.map (mv X.ba X.sb)))
/-- what holds in a method of class 'own' with the bytes cc: TT the tables' words, NN the nest mates' -/
def Cx (X : Xt) (cc : ByteArray) (nL : Nat) (own : String) (ret : Option FieldType) : Prop :=
  X.pg.tables.exec = Jvm.exec ∧ X.co.code = cc ∧ X.co.maxLocals = nL ∧ X.s0.vm.findClass own = some X.mi.cls ∧ (∀ w ∈ TT, w.before X.ar X.s0 = true) ∧ (∀ w ∈ NN, va_Nw w X.s0) ∧ va_K X.dd vwCl X.ty X.s0 ∧ X.me.sig.returnType = ret ∧ X.me.locks = false
theorem iZ_add (x y : Int) : iZ x + iZ y = iZ (x + y) := (Int32.ofInt_add x y).symm
theorem iZ_sub (x y : Int) : iZ x - iZ y = iZ (x - y) := (Int32.ofInt_sub x y).symm
theorem iZ_mul (x y : Int) : iZ x * iZ y = iZ (x * y) := (Int32.ofInt_mul x y).symm
theorem iZ_neg (x : Int) : - iZ x = iZ (-x) := (Int32.ofInt_neg x).symm
theorem lZ_add (x y : Int) : lZ x + lZ y = lZ (x + y) := (Int64.ofInt_add x y).symm
theorem lZ_sub (x y : Int) : lZ x - lZ y = lZ (x - y) := (Int64.ofInt_sub x y).symm
theorem lZ_mul (x y : Int) : lZ x * lZ y = lZ (x * y) := (Int64.ofInt_mul x y).symm
theorem lZ_neg (x : Int) : - lZ x = lZ (-x) := (Int64.ofInt_neg x).symm
def inI (x : Int) : Prop := -2147483648 ≤ x ∧ x ≤ 2147483647
def inL (x : Int) : Prop := -9223372036854775808 ≤ x ∧ x ≤ 9223372036854775807
theorem iZ_toInt {x : Int} (h : inI x) : (iZ x).toInt = x := Int32.toInt_ofInt_of_le (by have := h.1; omega) (by have := h.2; omega)
theorem lZ_toInt {x : Int} (h : inL x) : (lZ x).toInt = x := Int64.toInt_ofInt_of_le (by have := h.1; omega) (by have := h.2; omega)
theorem iZ_eq {x y : Int} (hx : inI x) (hy : inI y) : iZ x = iZ y ↔ x = y := ⟨fun h => by rw [← iZ_toInt hx, ← iZ_toInt hy, h], fun h => by rw [h]⟩
theorem iZ_lt {x y : Int} (hx : inI x) (hy : inI y) : iZ x < iZ y ↔ x < y := by rw [Int32.lt_iff_toInt_lt, iZ_toInt hx, iZ_toInt hy]
theorem iZ_le {x y : Int} (hx : inI x) (hy : inI y) : iZ x ≤ iZ y ↔ x ≤ y := by rw [Int32.le_iff_toInt_le, iZ_toInt hx, iZ_toInt hy]
theorem lZ_eq {x y : Int} (hx : inL x) (hy : inL y) : lZ x = lZ y ↔ x = y := ⟨fun h => by rw [← lZ_toInt hx, ← lZ_toInt hy, h], fun h => by rw [h]⟩
theorem lZ_lt {x y : Int} (hx : inL x) (hy : inL y) : lZ x < lZ y ↔ x < y := by rw [Int64.lt_iff_toInt_lt, lZ_toInt hx, lZ_toInt hy]
theorem lZ_le {x y : Int} (hx : inL x) (hy : inL y) : lZ x ≤ lZ y ↔ x ≤ y := by rw [Int64.le_iff_toInt_le, lZ_toInt hx, lZ_toInt hy]
theorem iZ_0 : iZ 0 = 0 := rfl
theorem lZ_0 : lZ 0 = 0 := rfl
theorem inI_0 : inI 0 := ⟨by decide, by decide⟩
theorem inL_0 : inL 0 := ⟨by decide, by decide⟩
theorem iZ_l {x : Int} (h : inI x) : (iZ x).toInt64 = lZ x := by
  refine Int32.toInt64_ofInt ?_ ?_
  · exact h.1
  · exact h.2
theorem iZ_clamp {x : Int} (h : inI x) : (iZ x).toNatClampNeg = x.toNat := by
  show (iZ x).toInt.toNat = x.toNat
  rw [iZ_toInt h]
theorem iZ_in {x : Int} {N : Nat} (h0 : 0 ≤ x) (h1 : x < N) (hN : N < 2147483648) : vp_in (iZ x) N := by
  have hx : inI x := ⟨by omega, by omega⟩
  rw [vp_in_iff, iZ_toInt hx]
  exact ⟨h0, h1⟩
theorem iZ_div {x y : Int} (hx : inI x) (hy : inI y) : iZ x / iZ y = iZ (x.tdiv y) := (Int32.ofInt_tdiv hx.1 hx.2 hy.1 hy.2).symm
theorem lZ_div {x y : Int} (hx : inL x) (hy : inL y) : lZ x / lZ y = lZ (x.tdiv y) := (Int64.ofInt_tdiv hx.1 hx.2 hy.1 hy.2).symm
theorem lZ_mod {x y : Int} (hx : inL x) (hy : inL y) : lZ x % lZ y = lZ (x.tmod y) := (Int64.ofInt_tmod hx.1 hx.2 hy.1 hy.2).symm
theorem iZ_mod {x y : Int} (hx : inI x) (hy : inI y) : iZ x % iZ y = iZ (x.tmod y) := (Int32.ofInt_tmod hx.1 hx.2 hy.1 hy.2).symm
section ROWS
variable {X : Xt} {cc : ByteArray} {nL k n pc : Nat} {own : String} {ret : Option FieldType} {lv : List (Nat × Value)} {st : List Value} {ah : Hp}
theorem a_iadd (hC : Cx X cc nL own ret) {x y : Int} (hd : decode cc pc = .ok (.iadd, 1))  (kk : AW X nL k n (pc + 1) lv (vi (x + y) :: st) ah) : AW X nL k n pc lv (vi y :: vi x :: st) ah := fun H locs ls hR hS hl => lv_iadd (x := iZ x) (y := iZ y) (rest := st.map (mv X.ba X.sb)) hC.1 hC.2.1 hd (by rw [iZ_add]; exact kk H locs ls hR hS hl)
theorem a_isub (hC : Cx X cc nL own ret) {x y : Int} (hd : decode cc pc = .ok (.isub, 1))  (kk : AW X nL k n (pc + 1) lv (vi (x - y) :: st) ah) : AW X nL k n pc lv (vi y :: vi x :: st) ah := fun H locs ls hR hS hl => lv_isub (x := iZ x) (y := iZ y) (rest := st.map (mv X.ba X.sb)) hC.1 hC.2.1 hd (by rw [iZ_sub]; exact kk H locs ls hR hS hl)
theorem a_imul (hC : Cx X cc nL own ret) {x y : Int} (hd : decode cc pc = .ok (.imul, 1))  (kk : AW X nL k n (pc + 1) lv (vi (x * y) :: st) ah) : AW X nL k n pc lv (vi y :: vi x :: st) ah := fun H locs ls hR hS hl => lv_imul (x := iZ x) (y := iZ y) (rest := st.map (mv X.ba X.sb)) hC.1 hC.2.1 hd (by rw [iZ_mul]; exact kk H locs ls hR hS hl)
theorem a_ladd (hC : Cx X cc nL own ret) {x y : Int} (hd : decode cc pc = .ok (.ladd, 1))  (kk : AW X nL k n (pc + 1) lv (vl (x + y) :: st) ah) : AW X nL k n pc lv (vl y :: vl x :: st) ah := fun H locs ls hR hS hl => lv_ladd (x := lZ x) (y := lZ y) (rest := st.map (mv X.ba X.sb)) hC.1 hC.2.1 hd (by rw [lZ_add]; exact kk H locs ls hR hS hl)
theorem a_lsub (hC : Cx X cc nL own ret) {x y : Int} (hd : decode cc pc = .ok (.lsub, 1))  (kk : AW X nL k n (pc + 1) lv (vl (x - y) :: st) ah) : AW X nL k n pc lv (vl y :: vl x :: st) ah := fun H locs ls hR hS hl => lv_lsub (x := lZ x) (y := lZ y) (rest := st.map (mv X.ba X.sb)) hC.1 hC.2.1 hd (by rw [lZ_sub]; exact kk H locs ls hR hS hl)
theorem a_lmul (hC : Cx X cc nL own ret) {x y : Int} (hd : decode cc pc = .ok (.lmul, 1))  (kk : AW X nL k n (pc + 1) lv (vl (x * y) :: st) ah) : AW X nL k n pc lv (vl y :: vl x :: st) ah := fun H locs ls hR hS hl => lv_lmul (x := lZ x) (y := lZ y) (rest := st.map (mv X.ba X.sb)) hC.1 hC.2.1 hd (by rw [lZ_mul]; exact kk H locs ls hR hS hl)
theorem a_ineg (hC : Cx X cc nL own ret) {x : Int} (hd : decode cc pc = .ok (.ineg, 1))  (kk : AW X nL k n (pc + 1) lv (vi (-x) :: st) ah) : AW X nL k n pc lv (vi x :: st) ah := fun H locs ls hR hS hl => lv_ineg (x := iZ x) (rest := st.map (mv X.ba X.sb)) hC.1 hC.2.1 hd (by rw [iZ_neg]; exact kk H locs ls hR hS hl)
theorem a_lneg (hC : Cx X cc nL own ret) {x : Int} (hd : decode cc pc = .ok (.lneg, 1))  (kk : AW X nL k n (pc + 1) lv (vl (-x) :: st) ah) : AW X nL k n pc lv (vl x :: st) ah := fun H locs ls hR hS hl => lv_lneg (x := lZ x) (rest := st.map (mv X.ba X.sb)) hC.1 hC.2.1 hd (by rw [lZ_neg]; exact kk H locs ls hR hS hl)
theorem a_idiv (hC : Cx X cc nL own ret) {x y : Int} (hd : decode cc pc = .ok (.idiv, 1)) (hx : inI x) (hy : inI y) (h0 : y ≠ 0) (kk : AW X nL k n (pc + 1) lv (vi (x.tdiv y) :: st) ah) : AW X nL k n pc lv (vi y :: vi x :: st) ah := fun H locs ls hR hS hl => lv_idiv (x := iZ x) (y := iZ y) (rest := st.map (mv X.ba X.sb)) hC.1 hC.2.1 hd (fun q => h0 ((iZ_eq hy inI_0).mp q)) (by rw [iZ_div hx hy]; exact kk H locs ls hR hS hl)
theorem a_ldiv (hC : Cx X cc nL own ret) {x y : Int} (hd : decode cc pc = .ok (.ldiv, 1)) (hx : inL x) (hy : inL y) (h0 : y ≠ 0) (kk : AW X nL k n (pc + 1) lv (vl (x.tdiv y) :: st) ah) : AW X nL k n pc lv (vl y :: vl x :: st) ah := fun H locs ls hR hS hl => lv_ldiv (x := lZ x) (y := lZ y) (rest := st.map (mv X.ba X.sb)) hC.1 hC.2.1 hd (fun q => h0 ((lZ_eq hy inL_0).mp q)) (by rw [lZ_div hx hy]; exact kk H locs ls hR hS hl)
theorem a_lrem (hC : Cx X cc nL own ret) {x y : Int} (hd : decode cc pc = .ok (.lrem, 1)) (hx : inL x) (hy : inL y) (h0 : y ≠ 0) (kk : AW X nL k n (pc + 1) lv (vl (x.tmod y) :: st) ah) : AW X nL k n pc lv (vl y :: vl x :: st) ah := fun H locs ls hR hS hl => lv_lrem (x := lZ x) (y := lZ y) (rest := st.map (mv X.ba X.sb)) hC.1 hC.2.1 hd (fun q => h0 ((lZ_eq hy inL_0).mp q)) (by rw [lZ_div hx hy, lZ_mul, lZ_sub, show x - x.tdiv y * y = x.tmod y by rw [Int.tmod_def, Int.mul_comm]]; exact kk H locs ls hR hS hl)
theorem a_irem (hC : Cx X cc nL own ret) {x y : Int} (hd : decode cc pc = .ok (.irem, 1)) (hx : inI x) (hy : inI y) (h0 : y ≠ 0) (kk : AW X nL k n (pc + 1) lv (vi (x.tmod y) :: st) ah) : AW X nL k n pc lv (vi y :: vi x :: st) ah := fun H locs ls hR hS hl => lv_irem (x := iZ x) (y := iZ y) (rest := st.map (mv X.ba X.sb)) hC.1 hC.2.1 hd (fun q => h0 ((iZ_eq hy inI_0).mp q)) (by rw [iZ_div hx hy, iZ_mul, iZ_sub, show x - x.tdiv y * y = x.tmod y by rw [Int.tmod_def, Int.mul_comm]]; exact kk H locs ls hR hS hl)
theorem a_iand (hC : Cx X cc nL own ret) {x y z : Int} (hd : decode cc pc = .ok (.iand, 1)) (hz : iZ x &&& iZ y = iZ z) (kk : AW X nL k n (pc + 1) lv (vi z :: st) ah) : AW X nL k n pc lv (vi y :: vi x :: st) ah := fun H locs ls hR hS hl => lv_iand (x := iZ x) (y := iZ y) (rest := st.map (mv X.ba X.sb)) hC.1 hC.2.1 hd (by rw [hz]; exact kk H locs ls hR hS hl)
theorem a_ior (hC : Cx X cc nL own ret) {x y z : Int} (hd : decode cc pc = .ok (.ior, 1)) (hz : iZ x ||| iZ y = iZ z) (kk : AW X nL k n (pc + 1) lv (vi z :: st) ah) : AW X nL k n pc lv (vi y :: vi x :: st) ah := fun H locs ls hR hS hl => lv_ior (x := iZ x) (y := iZ y) (rest := st.map (mv X.ba X.sb)) hC.1 hC.2.1 hd (by rw [hz]; exact kk H locs ls hR hS hl)
theorem a_ixor (hC : Cx X cc nL own ret) {x y z : Int} (hd : decode cc pc = .ok (.ixor, 1)) (hz : iZ x ^^^ iZ y = iZ z) (kk : AW X nL k n (pc + 1) lv (vi z :: st) ah) : AW X nL k n pc lv (vi y :: vi x :: st) ah := fun H locs ls hR hS hl => lv_ixor (x := iZ x) (y := iZ y) (rest := st.map (mv X.ba X.sb)) hC.1 hC.2.1 hd (by rw [hz]; exact kk H locs ls hR hS hl)
theorem a_ishl (hC : Cx X cc nL own ret) {x y z : Int} (hd : decode cc pc = .ok (.ishl, 1)) (hz : iZ x <<< (iZ y &&& 31) = iZ z) (kk : AW X nL k n (pc + 1) lv (vi z :: st) ah) : AW X nL k n pc lv (vi y :: vi x :: st) ah := fun H locs ls hR hS hl => lv_ishl (x := iZ x) (y := iZ y) (rest := st.map (mv X.ba X.sb)) hC.1 hC.2.1 hd (by rw [hz]; exact kk H locs ls hR hS hl)
theorem a_ishr (hC : Cx X cc nL own ret) {x y z : Int} (hd : decode cc pc = .ok (.ishr, 1)) (hz : iZ x >>> (iZ y &&& 31) = iZ z) (kk : AW X nL k n (pc + 1) lv (vi z :: st) ah) : AW X nL k n pc lv (vi y :: vi x :: st) ah := fun H locs ls hR hS hl => lv_ishr (x := iZ x) (y := iZ y) (rest := st.map (mv X.ba X.sb)) hC.1 hC.2.1 hd (by rw [hz]; exact kk H locs ls hR hS hl)
theorem a_i2l (hC : Cx X cc nL own ret) {x : Int} (hd : decode cc pc = .ok (.i2l, 1)) (hx : inI x) (kk : AW X nL k n (pc + 1) lv (vl x :: st) ah) : AW X nL k n pc lv (vi x :: st) ah := fun H locs ls hR hS hl => lv_i2l (x := iZ x) (v := lZ x) (rest := st.map (mv X.ba X.sb)) hC.1 hC.2.1 hd (iZ_l hx) (kk H locs ls hR hS hl)
theorem a_l2i (hC : Cx X cc nL own ret) {x : Int} (hd : decode cc pc = .ok (.l2i, 1))  (kk : AW X nL k n (pc + 1) lv (vi x :: st) ah) : AW X nL k n pc lv (vl x :: st) ah := fun H locs ls hR hS hl => lv_l2i (x := lZ x) (v := iZ x) (rest := st.map (mv X.ba X.sb)) hC.1 hC.2.1 hd (Int64.toInt32_ofInt) (kk H locs ls hR hS hl)
theorem a_iconst (hC : Cx X cc nL own ret) {c : Int} (hd : decode cc pc = .ok (.iconst c, 1))  (kk : AW X nL k n (pc + 1) lv (vi c :: st) ah) : AW X nL k n pc lv st ah := fun H locs ls hR hS hl => lv_iconst (v := iZ c) (rest := st.map (mv X.ba X.sb)) hC.1 hC.2.1 hd rfl (kk H locs ls hR hS hl)
theorem a_bipush (hC : Cx X cc nL own ret) {c : Int} (hd : decode cc pc = .ok (.bipush c, 2)) (hc : (Int8.ofInt c).toInt32 = iZ c) (kk : AW X nL k n (pc + 2) lv (vi c :: st) ah) : AW X nL k n pc lv st ah := fun H locs ls hR hS hl => lv_bipush (v := iZ c) (rest := st.map (mv X.ba X.sb)) hC.1 hC.2.1 hd hc (kk H locs ls hR hS hl)
theorem a_sipush (hC : Cx X cc nL own ret) {c : Int} (hd : decode cc pc = .ok (.sipush c, 3)) (hc : (Int16.ofInt c).toInt32 = iZ c) (kk : AW X nL k n (pc + 3) lv (vi c :: st) ah) : AW X nL k n pc lv st ah := fun H locs ls hR hS hl => lv_sipush (v := iZ c) (rest := st.map (mv X.ba X.sb)) hC.1 hC.2.1 hd hc (kk H locs ls hR hS hl)
theorem a_lconst (hC : Cx X cc nL own ret) {c : Fin 2} {z : Int} (hd : decode cc pc = .ok (.lconst c, 1)) (hz : Int64.ofNat (c : Nat) = lZ z) (kk : AW X nL k n (pc + 1) lv (vl z :: st) ah) : AW X nL k n pc lv st ah := fun H locs ls hR hS hl => lv_lconst (v := lZ z) (rest := st.map (mv X.ba X.sb)) hC.1 hC.2.1 hd hz (kk H locs ls hR hS hl)
theorem a_null (hC : Cx X cc nL own ret)  (hd : decode cc pc = .ok (.aconst_null, 1))  (kk : AW X nL k n (pc + 1) lv (.null :: st) ah) : AW X nL k n pc lv st ah := fun H locs ls hR hS hl => lv_null (rest := st.map (mv X.ba X.sb)) hC.1 hC.2.1 hd (kk H locs ls hR hS hl)
theorem a_loc {ls : Array Slot} {b sb : Nat} {i j : Nat} {v : Value} (hl : lv_has ls nL (lv.map fun q => (q.1, mv b sb q.2))) (hj : lv[j]? = some (i, v)) : ls[i]? = some (.val (mv b sb v)) := lv_at hl j (by rw [List.getElem?_map, hj]; rfl)
theorem a_iload_n (hC : Cx X cc nL own ret) {q : Fin 4} {i : Nat} {x : Int} (hd : decode cc pc = .ok (.iload_n q, 1)) (hi : (q : Nat) = i) (j : Nat) (hj : lv[j]? = some (i, vi x)) (kk : AW X nL k n (pc + 1) lv (vi x :: st) ah) : AW X nL k n pc lv st ah := fun H locs ls hR hS hl => lv_iload_n (x := iZ x) (rest := st.map (mv X.ba X.sb)) hC.1 hC.2.1 hd hi (a_loc hl hj) (kk H locs ls hR hS hl)
theorem a_iload (hC : Cx X cc nL own ret) {i : Nat} {x : Int} (hd : decode cc pc = .ok (.iload i, 2)) (j : Nat) (hj : lv[j]? = some (i, vi x)) (kk : AW X nL k n (pc + 2) lv (vi x :: st) ah) : AW X nL k n pc lv st ah := fun H locs ls hR hS hl => lv_iload (x := iZ x) (rest := st.map (mv X.ba X.sb)) hC.1 hC.2.1 hd (a_loc hl hj) (kk H locs ls hR hS hl)
theorem a_lload_n (hC : Cx X cc nL own ret) {q : Fin 4} {i : Nat} {x : Int} (hd : decode cc pc = .ok (.lload_n q, 1)) (hi : (q : Nat) = i) (j : Nat) (hj : lv[j]? = some (i, vl x)) (kk : AW X nL k n (pc + 1) lv (vl x :: st) ah) : AW X nL k n pc lv st ah := fun H locs ls hR hS hl => lv_lload_n (x := lZ x) (rest := st.map (mv X.ba X.sb)) hC.1 hC.2.1 hd hi (a_loc hl hj) (kk H locs ls hR hS hl)
theorem a_lload (hC : Cx X cc nL own ret) {i : Nat} {x : Int} (hd : decode cc pc = .ok (.lload i, 2)) (j : Nat) (hj : lv[j]? = some (i, vl x)) (kk : AW X nL k n (pc + 2) lv (vl x :: st) ah) : AW X nL k n pc lv st ah := fun H locs ls hR hS hl => lv_lload (x := lZ x) (rest := st.map (mv X.ba X.sb)) hC.1 hC.2.1 hd (a_loc hl hj) (kk H locs ls hR hS hl)
theorem a_aload_n (hC : Cx X cc nL own ret) {q : Fin 4} {i x : Nat} (hd : decode cc pc = .ok (.aload_n q, 1)) (hi : (q : Nat) = i) (j : Nat) (hj : lv[j]? = some (i, .ref x)) (kk : AW X nL k n (pc + 1) lv (.ref x :: st) ah) : AW X nL k n pc lv st ah := fun H locs ls hR hS hl => lv_aload_n (x := X.ba + x) (rest := st.map (mv X.ba X.sb)) hC.1 hC.2.1 hd hi (a_loc hl hj) (kk H locs ls hR hS hl)
theorem a_aload (hC : Cx X cc nL own ret) {i x : Nat} (hd : decode cc pc = .ok (.aload i, 2)) (j : Nat) (hj : lv[j]? = some (i, .ref x)) (kk : AW X nL k n (pc + 2) lv (.ref x :: st) ah) : AW X nL k n pc lv st ah := fun H locs ls hR hS hl => lv_aload (x := X.ba + x) (rest := st.map (mv X.ba X.sb)) hC.1 hC.2.1 hd (a_loc hl hj) (kk H locs ls hR hS hl)
theorem a_sload_n (hC : Cx X cc nL own ret) {q : Fin 4} {i : Nat} (hd : decode cc pc = .ok (.aload_n q, 1)) (hi : (q : Nat) = i) (j : Nat) (hj : lv[j]? = some (i, .float 0)) (kk : AW X nL k n (pc + 1) lv (.float 0 :: st) ah) : AW X nL k n pc lv st ah := fun H locs ls hR hS hl => lv_aload_n (x := X.sb) (rest := st.map (mv X.ba X.sb)) hC.1 hC.2.1 hd hi (a_loc hl hj) (kk H locs ls hR hS hl)
def f1 (i : Nat) (q : Nat × Value) : Bool := !(q.1 == i) && !(q.1 + 1 == i && q.2.category == 2)
def f2 (i : Nat) (q : Nat × Value) : Bool := !(q.1 == i) && (!(q.1 == i + 1) && !(q.1 + 1 == i && q.2.category == 2))
theorem mv_cat (b sb : Nat) (v : Value) : (mv b sb v).category = v.category := by cases v <;> rfl
theorem f1_map (b sb i : Nat) (lv : List (Nat × Value)) : (lv.map fun q => (q.1, mv b sb q.2)).filter (fun q => !(q.1 == i) && !(q.1 + 1 == i && q.2.category == 2)) = (lv.filter (f1 i)).map fun q => (q.1, mv b sb q.2) := by
  rw [List.filter_map]
  congr 1
  apply List.filter_congr
  intro q _
  simp [f1, mv_cat, Function.comp]
theorem f2_map (b sb i : Nat) (lv : List (Nat × Value)) : (lv.map fun q => (q.1, mv b sb q.2)).filter (fun q => !(q.1 == i) && (!(q.1 == i + 1) && !(q.1 + 1 == i && q.2.category == 2))) = (lv.filter (f2 i)).map fun q => (q.1, mv b sb q.2) := by
  rw [List.filter_map]
  congr 1
  apply List.filter_congr
  intro q _
  simp [f2, mv_cat, Function.comp]
theorem a_istore_n (hC : Cx X cc nL own ret) {q : Fin 4} {i : Nat} {x : Int} (hd : decode cc pc = .ok (.istore_n q, 1)) (hi : (q : Nat) = i) (hn : i < nL) {lv' : List (Nat × Value)} (hl' : (i, vi x) :: lv.filter (f1 i) = lv') (kk : AW X nL k n (pc + 1) lv' st ah) : AW X nL k n pc lv (vi x :: st) ah := by
  intro H locs ls hR hS hl
  refine lv_istore_n (x := iZ x) (rest := st.map (mv X.ba X.sb)) hC.1 hC.2.1 hd hi hl hn rfl (fun ls1 hl1 => ?_)
  refine kk H locs ls1 hR hS ?_
  rw [← hl', List.map_cons, ← f1_map]
  exact hl1
theorem a_istore (hC : Cx X cc nL own ret) {q : Fin 4} {i : Nat} {x : Int} (hd : decode cc pc = .ok (.istore i, 2))  (hn : i < nL) {lv' : List (Nat × Value)} (hl' : (i, vi x) :: lv.filter (f1 i) = lv') (kk : AW X nL k n (pc + 2) lv' st ah) : AW X nL k n pc lv (vi x :: st) ah := by
  intro H locs ls hR hS hl
  refine lv_istore (x := iZ x) (rest := st.map (mv X.ba X.sb)) hC.1 hC.2.1 hd hl hn rfl (fun ls1 hl1 => ?_)
  refine kk H locs ls1 hR hS ?_
  rw [← hl', List.map_cons, ← f1_map]
  exact hl1
theorem a_lstore_n (hC : Cx X cc nL own ret) {q : Fin 4} {i : Nat} {x : Int} (hd : decode cc pc = .ok (.lstore_n q, 1)) (hi : (q : Nat) = i) (hn : i + 1 < nL) {lv' : List (Nat × Value)} (hl' : (i, vl x) :: lv.filter (f2 i) = lv') (kk : AW X nL k n (pc + 1) lv' st ah) : AW X nL k n pc lv (vl x :: st) ah := by
  intro H locs ls hR hS hl
  refine lv_lstore_n (x := lZ x) (rest := st.map (mv X.ba X.sb)) hC.1 hC.2.1 hd hi hl hn rfl (fun ls1 hl1 => ?_)
  refine kk H locs ls1 hR hS ?_
  rw [← hl', List.map_cons, ← f2_map]
  exact hl1
theorem a_lstore (hC : Cx X cc nL own ret) {q : Fin 4} {i : Nat} {x : Int} (hd : decode cc pc = .ok (.lstore i, 2))  (hn : i + 1 < nL) {lv' : List (Nat × Value)} (hl' : (i, vl x) :: lv.filter (f2 i) = lv') (kk : AW X nL k n (pc + 2) lv' st ah) : AW X nL k n pc lv (vl x :: st) ah := by
  intro H locs ls hR hS hl
  refine lv_lstore (x := lZ x) (rest := st.map (mv X.ba X.sb)) hC.1 hC.2.1 hd hl hn rfl (fun ls1 hl1 => ?_)
  refine kk H locs ls1 hR hS ?_
  rw [← hl', List.map_cons, ← f2_map]
  exact hl1
theorem a_astore_n (hC : Cx X cc nL own ret) {q : Fin 4} {i : Nat} {x : Nat} (hd : decode cc pc = .ok (.astore_n q, 1)) (hi : (q : Nat) = i) (hn : i < nL) {lv' : List (Nat × Value)} (hl' : (i, .ref x) :: lv.filter (f1 i) = lv') (kk : AW X nL k n (pc + 1) lv' st ah) : AW X nL k n pc lv (.ref x :: st) ah := by
  intro H locs ls hR hS hl
  refine lv_astore_n (x := X.ba + x) (rest := st.map (mv X.ba X.sb)) hC.1 hC.2.1 hd hi hl hn rfl (fun ls1 hl1 => ?_)
  refine kk H locs ls1 hR hS ?_
  rw [← hl', List.map_cons, ← f1_map]
  exact hl1
theorem a_astore (hC : Cx X cc nL own ret) {q : Fin 4} {i : Nat} {x : Nat} (hd : decode cc pc = .ok (.astore i, 2))  (hn : i < nL) {lv' : List (Nat × Value)} (hl' : (i, .ref x) :: lv.filter (f1 i) = lv') (kk : AW X nL k n (pc + 2) lv' st ah) : AW X nL k n pc lv (.ref x :: st) ah := by
  intro H locs ls hR hS hl
  refine lv_astore (x := X.ba + x) (rest := st.map (mv X.ba X.sb)) hC.1 hC.2.1 hd hl hn rfl (fun ls1 hl1 => ?_)
  refine kk H locs ls1 hR hS ?_
  rw [← hl', List.map_cons, ← f1_map]
  exact hl1
theorem a_iinc (hC : Cx X cc nL own ret) {i : Nat} {c x : Int} (hd : decode cc pc = .ok (.iinc i c, 3)) (j : Nat) (hj : lv[j]? = some (i, vi x)) (hn : i < nL) {lv' : List (Nat × Value)} (hl' : (i, vi (x + c)) :: lv.filter (f1 i) = lv') (kk : AW X nL k n (pc + 3) lv' st ah) : AW X nL k n pc lv st ah := by
  intro H locs ls hR hS hl
  refine lv_iinc (x := iZ x) (v := iZ (x + c)) (k := j) (rest := st.map (mv X.ba X.sb)) hC.1 hC.2.1 hd hl (by rw [List.getElem?_map, hj]; rfl) (iZ_add x c) hn rfl (fun ls1 hl1 => ?_)
  refine kk H locs ls1 hR hS ?_
  rw [← hl', List.map_cons, ← f1_map]
  exact hl1
theorem a_sub {lv' : List (Nat × Value)} (ks : List Nat) (hl' : lv_pick lv ks = lv') (kk : AW X nL k n pc lv' st ah) : AW X nL k n pc lv st ah := by
  intro H locs ls hR hS hl
  refine kk H locs ls hR hS (lv_sub hl ks ?_)
  rw [← hl']
  unfold lv_pick
  rw [List.map_filterMap]
  congr 1
  funext z
  rw [List.getElem?_map]
theorem a_dup (hC : Cx X cc nL own ret) {v : Value} (hd : decode cc pc = .ok (.dup, 1)) (hv : v.category = 1) (kk : AW X nL k n (pc + 1) lv (v :: v :: st) ah) : AW X nL k n pc lv (v :: st) ah := fun H locs ls hR hS hl => lv_dup (va := mv X.ba X.sb v) (rest := st.map (mv X.ba X.sb)) hC.1 hC.2.1 hd (by rw [mv_cat]; exact hv) (kk H locs ls hR hS hl)
theorem a_pop (hC : Cx X cc nL own ret) {v : Value} (hd : decode cc pc = .ok (.pop, 1)) (hv : v.category = 1) (kk : AW X nL k n (pc + 1) lv st ah) : AW X nL k n pc lv (v :: st) ah := fun H locs ls hR hS hl => lv_pop (va := mv X.ba X.sb v) (rest := st.map (mv X.ba X.sb)) hC.1 hC.2.1 hd (by rw [mv_cat]; exact hv) (kk H locs ls hR hS hl)
theorem a_pop2 (hC : Cx X cc nL own ret) {v : Value} (hd : decode cc pc = .ok (.pop2, 1)) (hv : v.category = 2) (kk : AW X nL k n (pc + 1) lv st ah) : AW X nL k n pc lv (v :: st) ah := fun H locs ls hR hS hl => lv_pop2_2 (va := mv X.ba X.sb v) (rest := st.map (mv X.ba X.sb)) hC.1 hC.2.1 hd (by rw [mv_cat]; exact hv) (kk H locs ls hR hS hl)
theorem a_dup_x1 (hC : Cx X cc nL own ret) {v w : Value} (hd : decode cc pc = .ok (.dup_x1, 1)) (hv : v.category = 1) (hw : w.category = 1) (kk : AW X nL k n (pc + 1) lv (v :: w :: v :: st) ah) : AW X nL k n pc lv (v :: w :: st) ah := fun H locs ls hR hS hl => lv_dup_x1 (va := mv X.ba X.sb v) (vb := mv X.ba X.sb w) (rest := st.map (mv X.ba X.sb)) hC.1 hC.2.1 hd (by rw [mv_cat]; exact hv) (by rw [mv_cat]; exact hw) (kk H locs ls hR hS hl)
theorem a_dup_x2 (hC : Cx X cc nL own ret) {v w u : Value} (hd : decode cc pc = .ok (.dup_x2, 1)) (hv : v.category = 1) (hw : w.category = 1) (hu : u.category = 1) (kk : AW X nL k n (pc + 1) lv (v :: w :: u :: v :: st) ah) : AW X nL k n pc lv (v :: w :: u :: st) ah := fun H locs ls hR hS hl => lv_dup_x2 (va := mv X.ba X.sb v) (vb := mv X.ba X.sb w) (vd := mv X.ba X.sb u) (rest := st.map (mv X.ba X.sb)) hC.1 hC.2.1 hd (by rw [mv_cat]; exact hv) (by rw [mv_cat]; exact hw) (by rw [mv_cat]; exact hu) (kk H locs ls hR hS hl)
theorem a_dup2 (hC : Cx X cc nL own ret) {v w : Value} (hd : decode cc pc = .ok (.dup2, 1)) (hv : v.category = 1) (hw : w.category = 1) (kk : AW X nL k n (pc + 1) lv (v :: w :: v :: w :: st) ah) : AW X nL k n pc lv (v :: w :: st) ah := fun H locs ls hR hS hl => lv_dup2_11 (va := mv X.ba X.sb v) (vb := mv X.ba X.sb w) (rest := st.map (mv X.ba X.sb)) hC.1 hC.2.1 hd (by rw [mv_cat]; exact hv) (by rw [mv_cat]; exact hw) (kk H locs ls hR hS hl)
theorem a_dup2L (hC : Cx X cc nL own ret) {v : Value} (hd : decode cc pc = .ok (.dup2, 1)) (hv : v.category = 2) (kk : AW X nL k n (pc + 1) lv (v :: v :: st) ah) : AW X nL k n pc lv (v :: st) ah := fun H locs ls hR hS hl => lv_dup2_2 (va := mv X.ba X.sb v) (rest := st.map (mv X.ba X.sb)) hC.1 hC.2.1 hd (by rw [mv_cat]; exact hv) (kk H locs ls hR hS hl)
theorem a_dup2_x1 (hC : Cx X cc nL own ret) {v w : Value} (hd : decode cc pc = .ok (.dup2_x1, 1)) (hv : v.category = 2) (hw : w.category = 1) (kk : AW X nL k n (pc + 1) lv (v :: w :: v :: st) ah) : AW X nL k n pc lv (v :: w :: st) ah := fun H locs ls hR hS hl => lv_dup2_x1_2 (va := mv X.ba X.sb v) (vb := mv X.ba X.sb w) (rest := st.map (mv X.ba X.sb)) hC.1 hC.2.1 hd (by rw [mv_cat]; exact hv) (by rw [mv_cat]; exact hw) (kk H locs ls hR hS hl)
theorem a_dup2_x2 (hC : Cx X cc nL own ret) {v w u : Value} (hd : decode cc pc = .ok (.dup2_x2, 1)) (hv : v.category = 2) (hw : w.category = 1) (hu : u.category = 1) (kk : AW X nL k n (pc + 1) lv (v :: w :: u :: v :: st) ah) : AW X nL k n pc lv (v :: w :: u :: st) ah := fun H locs ls hR hS hl => lv_dup2_x2_2 (va := mv X.ba X.sb v) (vb := mv X.ba X.sb w) (vd := mv X.ba X.sb u) (rest := st.map (mv X.ba X.sb)) hC.1 hC.2.1 hd (by rw [mv_cat]; exact hv) (by rw [mv_cat]; exact hw) (by rw [mv_cat]; exact hu) (kk H locs ls hR hS hl)
theorem a_icmp_eq (hC : Cx X cc nL own ret) {off : Int} (tgt : Nat) {x y : Int} (hd : decode cc pc = .ok (.if_icmp .eq off, 3)) (ht : (pc : Int) + off = (tgt : Int)) (hx : inI x) (hy : inI y) (kt : x = y → AW X nL k n tgt lv st ah) (kf : ¬ (x = y) → AW X nL k n (pc + 3) lv st ah) : AW X nL k n pc lv (vi y :: vi x :: st) ah := fun H locs ls hR hS hl => lv_icmp_eq (x := iZ x) (y := iZ y) (rest := st.map (mv X.ba X.sb)) hC.1 hC.2.1 hd ht (fun c => kt ((iZ_eq hx hy).mp c) H locs ls hR hS hl) (fun c => kf (fun d => c ((iZ_eq hx hy).mpr d)) H locs ls hR hS hl)
theorem a_if_eq (hC : Cx X cc nL own ret) {off : Int} (tgt : Nat) {x : Int} (hd : decode cc pc = .ok (.ifCond .eq off, 3)) (ht : (pc : Int) + off = (tgt : Int)) (hx : inI x) (kt : x = 0 → AW X nL k n tgt lv st ah) (kf : ¬ (x = 0) → AW X nL k n (pc + 3) lv st ah) : AW X nL k n pc lv (vi x :: st) ah := fun H locs ls hR hS hl => lv_if_eq (x := iZ x) (rest := st.map (mv X.ba X.sb)) hC.1 hC.2.1 hd ht (fun c => kt ((iZ_eq hx inI_0).mp c) H locs ls hR hS hl) (fun c => kf (fun d => c ((iZ_eq hx inI_0).mpr d)) H locs ls hR hS hl)
theorem a_icmp_ne (hC : Cx X cc nL own ret) {off : Int} (tgt : Nat) {x y : Int} (hd : decode cc pc = .ok (.if_icmp .ne off, 3)) (ht : (pc : Int) + off = (tgt : Int)) (hx : inI x) (hy : inI y) (kt : ¬ x = y → AW X nL k n tgt lv st ah) (kf : x = y → AW X nL k n (pc + 3) lv st ah) : AW X nL k n pc lv (vi y :: vi x :: st) ah := fun H locs ls hR hS hl => lv_icmp_ne (x := iZ x) (y := iZ y) (rest := st.map (mv X.ba X.sb)) hC.1 hC.2.1 hd ht (fun c => kt (fun d => c ((iZ_eq hx hy).mpr d)) H locs ls hR hS hl) (fun c => kf ((iZ_eq hx hy).mp c) H locs ls hR hS hl)
theorem a_if_ne (hC : Cx X cc nL own ret) {off : Int} (tgt : Nat) {x : Int} (hd : decode cc pc = .ok (.ifCond .ne off, 3)) (ht : (pc : Int) + off = (tgt : Int)) (hx : inI x) (kt : ¬ x = 0 → AW X nL k n tgt lv st ah) (kf : x = 0 → AW X nL k n (pc + 3) lv st ah) : AW X nL k n pc lv (vi x :: st) ah := fun H locs ls hR hS hl => lv_if_ne (x := iZ x) (rest := st.map (mv X.ba X.sb)) hC.1 hC.2.1 hd ht (fun c => kt (fun d => c ((iZ_eq hx inI_0).mpr d)) H locs ls hR hS hl) (fun c => kf ((iZ_eq hx inI_0).mp c) H locs ls hR hS hl)
theorem a_icmp_lt (hC : Cx X cc nL own ret) {off : Int} (tgt : Nat) {x y : Int} (hd : decode cc pc = .ok (.if_icmp .lt off, 3)) (ht : (pc : Int) + off = (tgt : Int)) (hx : inI x) (hy : inI y) (kt : x < y → AW X nL k n tgt lv st ah) (kf : ¬ (x < y) → AW X nL k n (pc + 3) lv st ah) : AW X nL k n pc lv (vi y :: vi x :: st) ah := fun H locs ls hR hS hl => lv_icmp_lt (x := iZ x) (y := iZ y) (rest := st.map (mv X.ba X.sb)) hC.1 hC.2.1 hd ht (fun c => kt ((iZ_lt hx hy).mp c) H locs ls hR hS hl) (fun c => kf (fun d => c ((iZ_lt hx hy).mpr d)) H locs ls hR hS hl)
theorem a_if_lt (hC : Cx X cc nL own ret) {off : Int} (tgt : Nat) {x : Int} (hd : decode cc pc = .ok (.ifCond .lt off, 3)) (ht : (pc : Int) + off = (tgt : Int)) (hx : inI x) (kt : x < 0 → AW X nL k n tgt lv st ah) (kf : ¬ (x < 0) → AW X nL k n (pc + 3) lv st ah) : AW X nL k n pc lv (vi x :: st) ah := fun H locs ls hR hS hl => lv_if_lt (x := iZ x) (rest := st.map (mv X.ba X.sb)) hC.1 hC.2.1 hd ht (fun c => kt ((iZ_lt hx inI_0).mp c) H locs ls hR hS hl) (fun c => kf (fun d => c ((iZ_lt hx inI_0).mpr d)) H locs ls hR hS hl)
theorem a_icmp_ge (hC : Cx X cc nL own ret) {off : Int} (tgt : Nat) {x y : Int} (hd : decode cc pc = .ok (.if_icmp .ge off, 3)) (ht : (pc : Int) + off = (tgt : Int)) (hx : inI x) (hy : inI y) (kt : y ≤ x → AW X nL k n tgt lv st ah) (kf : ¬ (y ≤ x) → AW X nL k n (pc + 3) lv st ah) : AW X nL k n pc lv (vi y :: vi x :: st) ah := fun H locs ls hR hS hl => lv_icmp_ge (x := iZ x) (y := iZ y) (rest := st.map (mv X.ba X.sb)) hC.1 hC.2.1 hd ht (fun c => kt ((iZ_le hy hx).mp c) H locs ls hR hS hl) (fun c => kf (fun d => c ((iZ_le hy hx).mpr d)) H locs ls hR hS hl)
theorem a_if_ge (hC : Cx X cc nL own ret) {off : Int} (tgt : Nat) {x : Int} (hd : decode cc pc = .ok (.ifCond .ge off, 3)) (ht : (pc : Int) + off = (tgt : Int)) (hx : inI x) (kt : 0 ≤ x → AW X nL k n tgt lv st ah) (kf : ¬ (0 ≤ x) → AW X nL k n (pc + 3) lv st ah) : AW X nL k n pc lv (vi x :: st) ah := fun H locs ls hR hS hl => lv_if_ge (x := iZ x) (rest := st.map (mv X.ba X.sb)) hC.1 hC.2.1 hd ht (fun c => kt ((iZ_le inI_0 hx).mp c) H locs ls hR hS hl) (fun c => kf (fun d => c ((iZ_le inI_0 hx).mpr d)) H locs ls hR hS hl)
theorem a_icmp_gt (hC : Cx X cc nL own ret) {off : Int} (tgt : Nat) {x y : Int} (hd : decode cc pc = .ok (.if_icmp .gt off, 3)) (ht : (pc : Int) + off = (tgt : Int)) (hx : inI x) (hy : inI y) (kt : y < x → AW X nL k n tgt lv st ah) (kf : ¬ (y < x) → AW X nL k n (pc + 3) lv st ah) : AW X nL k n pc lv (vi y :: vi x :: st) ah := fun H locs ls hR hS hl => lv_icmp_gt (x := iZ x) (y := iZ y) (rest := st.map (mv X.ba X.sb)) hC.1 hC.2.1 hd ht (fun c => kt ((iZ_lt hy hx).mp c) H locs ls hR hS hl) (fun c => kf (fun d => c ((iZ_lt hy hx).mpr d)) H locs ls hR hS hl)
theorem a_if_gt (hC : Cx X cc nL own ret) {off : Int} (tgt : Nat) {x : Int} (hd : decode cc pc = .ok (.ifCond .gt off, 3)) (ht : (pc : Int) + off = (tgt : Int)) (hx : inI x) (kt : 0 < x → AW X nL k n tgt lv st ah) (kf : ¬ (0 < x) → AW X nL k n (pc + 3) lv st ah) : AW X nL k n pc lv (vi x :: st) ah := fun H locs ls hR hS hl => lv_if_gt (x := iZ x) (rest := st.map (mv X.ba X.sb)) hC.1 hC.2.1 hd ht (fun c => kt ((iZ_lt inI_0 hx).mp c) H locs ls hR hS hl) (fun c => kf (fun d => c ((iZ_lt inI_0 hx).mpr d)) H locs ls hR hS hl)
theorem a_icmp_le (hC : Cx X cc nL own ret) {off : Int} (tgt : Nat) {x y : Int} (hd : decode cc pc = .ok (.if_icmp .le off, 3)) (ht : (pc : Int) + off = (tgt : Int)) (hx : inI x) (hy : inI y) (kt : x ≤ y → AW X nL k n tgt lv st ah) (kf : ¬ (x ≤ y) → AW X nL k n (pc + 3) lv st ah) : AW X nL k n pc lv (vi y :: vi x :: st) ah := fun H locs ls hR hS hl => lv_icmp_le (x := iZ x) (y := iZ y) (rest := st.map (mv X.ba X.sb)) hC.1 hC.2.1 hd ht (fun c => kt ((iZ_le hx hy).mp c) H locs ls hR hS hl) (fun c => kf (fun d => c ((iZ_le hx hy).mpr d)) H locs ls hR hS hl)
theorem a_if_le (hC : Cx X cc nL own ret) {off : Int} (tgt : Nat) {x : Int} (hd : decode cc pc = .ok (.ifCond .le off, 3)) (ht : (pc : Int) + off = (tgt : Int)) (hx : inI x) (kt : x ≤ 0 → AW X nL k n tgt lv st ah) (kf : ¬ (x ≤ 0) → AW X nL k n (pc + 3) lv st ah) : AW X nL k n pc lv (vi x :: st) ah := fun H locs ls hR hS hl => lv_if_le (x := iZ x) (rest := st.map (mv X.ba X.sb)) hC.1 hC.2.1 hd ht (fun c => kt ((iZ_le hx inI_0).mp c) H locs ls hR hS hl) (fun c => kf (fun d => c ((iZ_le hx inI_0).mpr d)) H locs ls hR hS hl)
theorem a_goto (hC : Cx X cc nL own ret) {off : Int} (tgt : Nat) (hd : decode cc pc = .ok (.goto off, 3)) (ht : (pc : Int) + off = (tgt : Int)) (kk : AW X nL k n tgt lv st ah) : AW X nL k n pc lv st ah := fun H locs ls hR hS hl => lv_goto (rest := st.map (mv X.ba X.sb)) hC.1 hC.2.1 hd ht (kk H locs ls hR hS hl)
def cmpZ (x y : Int) : Int := if y < x then 1 else if x = y then 0 else -1
theorem lg_cmpZ {x y : Int} (hx : inL x) (hy : inL y) : lg_cmp (lZ x) (lZ y) = iZ (cmpZ x y) := by
  unfold lg_cmp cmpZ
  by_cases h : y < x
  · rw [if_pos h, if_pos ((lZ_lt hy hx).mpr h)]; rfl
  · rw [if_neg h, if_neg (fun q => h ((lZ_lt hy hx).mp q))]
    by_cases h2 : x = y
    · rw [if_pos h2, if_pos ((lZ_eq hx hy).mpr h2)]; rfl
    · rw [if_neg h2, if_neg (fun q => h2 ((lZ_eq hx hy).mp q))]; rfl
theorem a_lcmp (hC : Cx X cc nL own ret) {x y : Int} (hd : decode cc pc = .ok (.lcmp, 1)) (hx : inL x) (hy : inL y) (kk : AW X nL k n (pc + 1) lv (vi (cmpZ x y) :: st) ah) : AW X nL k n pc lv (vl y :: vl x :: st) ah := fun H locs ls hR hS hl => W.lcmp (x := lZ x) (y := lZ y) (rest := st.map (mv X.ba X.sb)) hC.1 hC.2.1 hd (by rw [lg_cmpZ hx hy]; exact kk H locs ls hR hS hl)
theorem cmpZ_in (x y : Int) : inI (cmpZ x y) := by
  unfold cmpZ inI
  split
  · omega
  · split <;> omega
theorem cmpZ_lt (x y : Int) : cmpZ x y < 0 ↔ x < y := by unfold cmpZ; split <;> (try split) <;> omega
theorem cmpZ_le (x y : Int) : cmpZ x y ≤ 0 ↔ x ≤ y := by unfold cmpZ; split <;> (try split) <;> omega
theorem cmpZ_gt (x y : Int) : 0 < cmpZ x y ↔ y < x := by unfold cmpZ; split <;> (try split) <;> omega
theorem cmpZ_ge (x y : Int) : 0 ≤ cmpZ x y ↔ y ≤ x := by unfold cmpZ; split <;> (try split) <;> omega
theorem cmpZ_eq (x y : Int) : cmpZ x y = 0 ↔ x = y := by unfold cmpZ; split <;> (try split) <;> omega

theorem Rl.at {D : va_G} {cl : List vw_C} {b sb : Nat} {ah : Hp} {H : Heap} (h : Rl D cl b sb ah H) {i : Nat} {e : va_E} (hi : ah[i]? = some e) : va_at D cl (b + i, me b sb e) H := h.2 i e hi
/-- a field of a class of the tables is read -/
theorem a_get (hC : Cx X cc nL own ret) {idx ci i f : Nat} {fs : List Value} {v : Value} {C : String} {T : u_T} {N : Nat} (hd : decode cc pc = .ok (.getfield idx, 3)) (hc : vwCl[ci]? = some (C, T, N)) (hin : ∀ w ∈ u_ws C T N, w ∈ TT) (hf : f < N) (hT : (T f).1 = C) (hlink : Cond.fieldLink own idx C (T f).2.1 (T f).2.2.1 ∈ TT) (he : ah[i]? = some (.inr (ci, fs))) (hv : fs[f]? = some v)
    (kk : AW X nL k n (pc + 3) lv (v :: st) ah) : AW X nL k n pc lv (.ref i :: st) ah := by
  intro H locs ls hR hS hl
  obtain ⟨hx, hb, hml, hown, hts, hNw, hK, -⟩ := hC
  exact va_get (a := X.ba + i) (v := mv X.ba X.sb v) (C := C) (T := T) (N := N) (ci := ci) (ref := C) hx hb hts hin hown hK (hR.one he) 0 (fs := fs.map (mv X.ba X.sb)) rfl hc f hf (hts _ hlink) (by rw [hT]; exact fun _ h => h) (by rw [List.getElem?_map, hv]; rfl) hd (kk H locs ls hR hS hl)
/-- a nest mate's field is read -/
theorem a_getN (hC : Cx X cc nL own ret) {idx ci i f : Nat} {fs : List Value} {v : Value} {C host : String} {T : u_T} {N : Nat} (hd : decode cc pc = .ok (.getfield idx, 3)) (hc : vwCl[ci]? = some (C, T, N)) (hin : ∀ w ∈ u_ws C T N, w ∈ TT) (hf : f < N) (hT : (T f).1 = C) (hlink : Cond.fieldLinkNest own idx C (T f).2.1 (T f).2.2.1 host ∈ NN) (he : ah[i]? = some (.inr (ci, fs))) (hv : fs[f]? = some v)
    (kk : AW X nL k n (pc + 3) lv (v :: st) ah) : AW X nL k n pc lv (.ref i :: st) ah := by
  intro H locs ls hR hS hl
  obtain ⟨hx, hb, hml, hown, hts, hNw, hK, -⟩ := hC
  exact va_getN (a := X.ba + i) (v := mv X.ba X.sb v) (C := C) (T := T) (N := N) (ci := ci) (ref := C) (host := host) hx hb hts hin hown hK (hR.one he) 0 (fs := fs.map (mv X.ba X.sb)) rfl hc f hf (va_Nw.use rfl (hNw _ hlink)) (by rw [hT]; exact fun _ h => h) (by rw [List.getElem?_map, hv]; rfl) hd (kk H locs ls hR hS hl)
theorem me_set (b sb ci f : Nat) (fs : List Value) (v : Value) : me b sb (.inr (ci, fs.set f v)) = .inr (ci, (fs.map (mv b sb)).set f (mv b sb v)) := by
  show (Sum.inr (ci, (fs.set f v).map (mv b sb)) : va_E) = _
  rw [List.map_set]
/-- a field is written -/
theorem a_put (hC : Cx X cc nL own ret) {idx ci i f : Nat} {fs : List Value} {v : Value} {C : String} {T : u_T} {N : Nat} {ty0 : Nat → FieldType} (hd : decode cc pc = .ok (.putfield idx, 3)) (hc : vwCl[ci]? = some (C, T, N)) (hw : Wr C T N ty0) (hf : f < N) (hT : (T f).1 = C) (hlink : Cond.fieldLink own idx C (T f).2.1 (T f).2.2.1 ∈ TT) (hfin : (T f).2.2.2 = false) (hn : narrow (ty0 f) (mv X.ba X.sb v) = mv X.ba X.sb v) (hfit : fits (ty0 f) (mv X.ba X.sb v) = true) (he : ah[i]? = some (.inr (ci, fs))) (hlen : f < fs.length) {ah' : Hp} (hah : ah.set i (.inr (ci, fs.set f v)) = ah')
    (kk : AW X nL k n (pc + 3) lv st ah') : AW X nL k n pc lv (v :: .ref i :: st) ah := by
  intro H locs ls hR hS hl
  obtain ⟨hx, hb, hml, hown, hts, hNw, hK, -⟩ := hC
  obtain ⟨hin, hty, hnm⟩ := hw
  have hap := va_apart (own := own) hts hin ty0 hty hnm hK hc
  obtain ⟨r, h1, cell, q1, q2, q3, q4⟩ := hR.at he
  have hr : r = (C, T, N) := Option.some.inj (h1.symm.trans hc)
  subst hr
  obtain ⟨hSl, hfc, kC, hkC, hkind⟩ := hK.1 ci _ hc
  obtain ⟨cf, kf, fi, fd, hi, hsl⟩ := hSl f hf
  have hlay := hts _ (hin _ (u_in_lay hf))
  unfold u_lay at hlay
  rw [if_neg (by rw [hfin]; decide)] at hlay
  have hst := (u_facts hfc hkC (u_lays hts hin hf) hi).1
  have h6 := u_store hfc hkC hkind hlay hi (hty f hf) hn hfit
  have hi2 : X.s0.fieldFound? C (T f).2.1 (T f).2.2.1 = some (cf, kf, fi, fd) := by rw [← hT]; exact hi
  refine W.putK (a := X.ba + i) hx hb (f := fd) (ref := C) ⟨hown, hts _ hlink, ⟨_, _, _, hi2⟩, hst⟩ (by rw [q2]; exact h6) q1 q3 (by rw [hsl]; exact k2_hasslot (q4 f hf)) rfl rfl hd fun H' e1 e2 e3 => ?_
  rw [hsl] at e1 ⊢
  refine kk H' _ ls ?_ (hS.put e2 e3 (Nat.le_add_right _ _)) hl
  rw [← hah]
  refine hR.set ?_ e2 e3
  rw [me_set]
  exact ⟨_, hc, t_OB.to (V := updV (vp_V (fs.map (mv X.ba X.sb))) f (mv X.ba X.sb v)) ⟨_, e1, q2, q3, t_set q4 hap hf _⟩ (fun j _ => vp_updV_set (by rw [List.length_map]; exact hlen) _ j)⟩
/-- a nest mate's field is written -/
theorem a_putN (hC : Cx X cc nL own ret) {idx ci i f : Nat} {fs : List Value} {v : Value} {C host : String} {T : u_T} {N : Nat} {ty0 : Nat → FieldType} (hd : decode cc pc = .ok (.putfield idx, 3)) (hc : vwCl[ci]? = some (C, T, N)) (hw : Wr C T N ty0) (hf : f < N) (hT : (T f).1 = C) (hlink : Cond.fieldLinkNest own idx C (T f).2.1 (T f).2.2.1 host ∈ NN) (hfin : (T f).2.2.2 = false) (hn : narrow (ty0 f) (mv X.ba X.sb v) = mv X.ba X.sb v) (hfit : fits (ty0 f) (mv X.ba X.sb v) = true) (he : ah[i]? = some (.inr (ci, fs))) (hlen : f < fs.length) {ah' : Hp} (hah : ah.set i (.inr (ci, fs.set f v)) = ah')
    (kk : AW X nL k n (pc + 3) lv st ah') : AW X nL k n pc lv (v :: .ref i :: st) ah := by
  intro H locs ls hR hS hl
  obtain ⟨hx, hb, hml, hown, hts, hNw, hK, -⟩ := hC
  obtain ⟨hin, hty, hnm⟩ := hw
  have hap := va_apart (own := own) hts hin ty0 hty hnm hK hc
  obtain ⟨r, h1, cell, q1, q2, q3, q4⟩ := hR.at he
  have hr : r = (C, T, N) := Option.some.inj (h1.symm.trans hc)
  subst hr
  obtain ⟨hSl, hfc, kC, hkC, hkind⟩ := hK.1 ci _ hc
  obtain ⟨cf, kf, fi, fd, hi, hsl⟩ := hSl f hf
  have hlay := hts _ (hin _ (u_in_lay hf))
  unfold u_lay at hlay
  rw [if_neg (by rw [hfin]; decide)] at hlay
  have hst := (u_facts hfc hkC (u_lays hts hin hf) hi).1
  have h6 := u_store hfc hkC hkind hlay hi (hty f hf) hn hfit
  have hi2 : X.s0.fieldFound? C (T f).2.1 (T f).2.2.1 = some (cf, kf, fi, fd) := by rw [← hT]; exact hi
  refine va_WputK (a := X.ba + i) hx hb (f := fd) (ref := C) (host := host) hown (va_Nw.use rfl (hNw _ hlink)) hi2 hst (by rw [q2]; exact h6) q1 q3 (by rw [hsl]; exact k2_hasslot (q4 f hf)) rfl rfl hd fun H' e1 e2 e3 => ?_
  rw [hsl] at e1 ⊢
  refine kk H' _ ls ?_ (hS.put e2 e3 (Nat.le_add_right _ _)) hl
  rw [← hah]
  refine hR.set ?_ e2 e3
  rw [me_set]
  exact ⟨_, hc, t_OB.to (V := updV (vp_V (fs.map (mv X.ba X.sb))) f (mv X.ba X.sb v)) ⟨_, e1, q2, q3, t_set q4 hap hf _⟩ (fun j _ => vp_updV_set (by rw [List.length_map]; exact hlen) _ j)⟩
/-- a final field is written in its constructor -/
theorem a_putF (hC : Cx X cc nL own ret) {idx ci i f : Nat} {fs : List Value} {v : Value} {C : String} {T : u_T} {N : Nat} {ty0 : Nat → FieldType} (hd : decode cc pc = .ok (.putfield idx, 3)) (hc : vwCl[ci]? = some (C, T, N)) (hw : Wr C T N ty0) (hf : f < N) (hT : (T f).1 = C) (hlink : Cond.fieldLink own idx C (T f).2.1 (T f).2.2.1 ∈ TT) (hfin : (T f).2.2.2 = true) (hin2 : X.me.name = "<init>") (hdecl : C = own) (hn : narrow (ty0 f) (mv X.ba X.sb v) = mv X.ba X.sb v) (hfit : fits (ty0 f) (mv X.ba X.sb v) = true) (he : ah[i]? = some (.inr (ci, fs))) (hlen : f < fs.length) {ah' : Hp} (hah : ah.set i (.inr (ci, fs.set f v)) = ah')
    (kk : AW X nL k n (pc + 3) lv st ah') : AW X nL k n pc lv (v :: .ref i :: st) ah := by
  intro H locs ls hR hS hl
  obtain ⟨hx, hb, hml, hown, hts, hNw, hK, -⟩ := hC
  obtain ⟨hin, hty, hnm⟩ := hw
  have hap := va_apart (own := own) hts hin ty0 hty hnm hK hc
  obtain ⟨r, h1, cell, q1, q2, q3, q4⟩ := hR.at he
  have hr : r = (C, T, N) := Option.some.inj (h1.symm.trans hc)
  subst hr
  obtain ⟨hSl, hfc, kC, hkC, hkind⟩ := hK.1 ci _ hc
  obtain ⟨cf, kf, fi, fd, hi, hsl⟩ := hSl f hf
  have hlay := hts _ (hin _ (u_in_lay hf))
  unfold u_lay at hlay
  rw [if_pos hfin] at hlay
  have hst := (u_facts hfc hkC (u_lays hts hin hf) hi).1
  have hcf : X.mi.cls = cf := by
    obtain ⟨_, _, c', _, _, _, -, -, hf', -, -, -, hown2, -⟩ := Cond.laysFinal_spec hlay
    have e1 : c' = cf := by have := hi.symm.trans hf'; simp at this; exact this.1.symm
    rw [hT, hdecl] at hown2
    rw [← e1]; exact Option.some.inj (hown.symm.trans hown2)
  have h6 := u_fits hfc hkC hkind (Or.inr hlay) hi (hty f hf) hn hfit
  have hi2 : X.s0.fieldFound? C (T f).2.1 (T f).2.2.1 = some (cf, kf, fi, fd) := by rw [← hT]; exact hi
  refine W.putFinK (a := X.ba + i) hx hb (ref := C) hown (hts _ hlink) hi2 hst hcf hin2 (by rw [q2]; exact h6) q1 q3 (by rw [hsl]; exact k2_hasslot (q4 f hf)) rfl rfl hd fun H' e1 e2 e3 => ?_
  rw [hsl] at e1 ⊢
  refine kk H' _ ls ?_ (hS.put e2 e3 (Nat.le_add_right _ _)) hl
  rw [← hah]
  refine hR.set ?_ e2 e3
  rw [me_set]
  exact ⟨_, hc, t_OB.to (V := updV (vp_V (fs.map (mv X.ba X.sb))) f (mv X.ba X.sb v)) ⟨_, e1, q2, q3, t_set q4 hap hf _⟩ (fun j _ => vp_updV_set (by rw [List.length_map]; exact hlen) _ j)⟩
abbrev aI (cA : ClassId) (N : Nat) (f : Nat → Int) : va_E := .inl (cA, N, .inl (fun j => iZ (f j)))
abbrev aL (cA : ClassId) (N : Nat) (f : Nat → Int) : va_E := .inl (cA, N, .inr (.inl (fun j => lZ (f j))))
abbrev aQ (cA : ClassId) (N : Nat) (f : Nat → Option Nat) : va_E := .inl (cA, N, .inr (.inr (.inr (.inr f))))
def up (f : Nat → Int) (i : Nat) (x : Int) : Nat → Int := fun j => if j = i then x else f j
theorem up_s (f : Nat → Int) (i : Nat) (x : Int) : up f i x i = x := if_pos rfl
theorem up_n (f : Nat → Int) {i j : Nat} (x : Int) (h : j ≠ i) : up f i x j = f j := if_neg h
theorem iZ_inN {j N : Nat} (h : j < N) (hN : N < 2147483648) : vp_in (iZ (j : Int)) N := iZ_in (by omega) (by omega) hN
theorem iZ_clN {j : Nat} (h : j < 2147483648) : (iZ (j : Int)).toNatClampNeg = j := by
  rw [iZ_clamp ⟨by omega, by omega⟩]; exact Int.toNat_natCast j
theorem a_iaload (hC : Cx X cc nL own ret) (hd : decode cc pc = .ok (.iaload, 1)) {a j N : Nat} {cA : ClassId} {f : Nat → Int} (ht : (cA, FieldType.int) ∈ X.ty) (he : ah[a]? = some (aI cA N f)) (hj : j < N) (hN : N < 2147483648) (kk : AW X nL k n (pc + 1) lv (vi (f j) :: st) ah) : AW X nL k n pc lv (vi j :: .ref a :: st) ah := by
  intro H locs ls hR hS hl
  obtain ⟨t0, ht0⟩ := List.getElem?_of_mem ht
  refine va_iald (a := X.ba + a) (cA := cA) (n := N) (f := fun j => iZ (f j)) hC.1 hC.2.1 hC.2.2.2.2.2.2.1 (hR.one he) 0 t0 rfl ht0 (iZ_inN hj hN) hd ?_
  rw [iZ_clN (by omega)]
  exact kk H locs ls hR hS hl
theorem a_zaload (hC : Cx X cc nL own ret) (hd : decode cc pc = .ok (.baload, 1)) {a j N : Nat} {cA : ClassId} {f : Nat → Int} (ht : (cA, FieldType.boolean) ∈ X.ty) (he : ah[a]? = some (aI cA N f)) (hj : j < N) (hN : N < 2147483648) (kk : AW X nL k n (pc + 1) lv (vi (f j) :: st) ah) : AW X nL k n pc lv (vi j :: .ref a :: st) ah := by
  intro H locs ls hR hS hl
  obtain ⟨t0, ht0⟩ := List.getElem?_of_mem ht
  refine va_zald (a := X.ba + a) (cA := cA) (n := N) (f := fun j => iZ (f j)) hC.1 hC.2.1 hC.2.2.2.2.2.2.1 (hR.one he) 0 t0 rfl ht0 (iZ_inN hj hN) hd ?_
  rw [iZ_clN (by omega)]
  exact kk H locs ls hR hS hl
theorem a_laload (hC : Cx X cc nL own ret) (hd : decode cc pc = .ok (.laload, 1)) {a j N : Nat} {cA : ClassId} {f : Nat → Int} (ht : (cA, FieldType.long) ∈ X.ty) (he : ah[a]? = some (aL cA N f)) (hj : j < N) (hN : N < 2147483648) (kk : AW X nL k n (pc + 1) lv (vl (f j) :: st) ah) : AW X nL k n pc lv (vi j :: .ref a :: st) ah := by
  intro H locs ls hR hS hl
  obtain ⟨t0, ht0⟩ := List.getElem?_of_mem ht
  refine va_lald (a := X.ba + a) (cA := cA) (n := N) (f := fun j => lZ (f j)) hC.1 hC.2.1 hC.2.2.2.2.2.2.1 (hR.one he) 0 t0 rfl ht0 (iZ_inN hj hN) hd ?_
  rw [iZ_clN (by omega)]
  exact kk H locs ls hR hS hl
theorem a_aaload (hC : Cx X cc nL own ret) (hd : decode cc pc = .ok (.aaload, 1)) {a j N q : Nat} {cA : ClassId} {f : Nat → Option Nat} {ty : FieldType} (hty : ty.isReference = true) (ht : (cA, ty) ∈ X.ty) (he : ah[a]? = some (aQ cA N f)) (hj : j < N) (hN : N < 2147483648) (hq : f j = some q) (kk : AW X nL k n (pc + 1) lv (.ref q :: st) ah) : AW X nL k n pc lv (vi j :: .ref a :: st) ah := by
  intro H locs ls hR hS hl
  obtain ⟨t0, ht0⟩ := List.getElem?_of_mem ht
  have h1 := (hC.2.2.2.2.2.2.1.2 t0 _ ht0).1 N (fun j => va_rf ((f j).map (fun a => X.ba + a)))
  have h2 : H[X.ba + a]? = some (arrV cA N (fun j => va_rf ((f j).map (fun a => X.ba + a)))) := hR.at he
  refine W.aald (a := X.ba + a) (v := .ref (X.ba + q)) (ty := ty) hC.1 hC.2.1 h2 h1 hty (fun q => by cases q) (by rw [arrV_size]; exact iZ_inN hj hN) (by rw [iZ_clN (by omega), arrV_read _ _ hj, hq]; rfl) rfl rfl hd ?_
  exact kk H locs ls hR hS hl
theorem up_iZ (f : Nat → Int) (i : Nat) (x : Int) : (fun j => iZ (up f i x j)) = upd (fun j => iZ (f j)) i (iZ x) := by
  funext j
  by_cases h : j = i
  · subst h; simp [up, upd]
  · simp [up, upd, h]
theorem up_lZ (f : Nat → Int) (i : Nat) (x : Int) : (fun j => lZ (up f i x j)) = vp_updL (fun j => lZ (f j)) i (lZ x) := by
  funext j
  by_cases h : j = i
  · subst h; simp [up, vp_updL]
  · simp [up, vp_updL, h]
theorem a_iastore (hC : Cx X cc nL own ret) (hd : decode cc pc = .ok (.iastore, 1)) {a j N : Nat} {cA : ClassId} {f : Nat → Int} {x : Int} (ht : (cA, FieldType.int) ∈ X.ty) (he : ah[a]? = some (aI cA N f)) (hj : j < N) (hN : N < 2147483648) {ah' : Hp} (hah : ah.set a (aI cA N (up f j x)) = ah') (kk : AW X nL k n (pc + 1) lv st ah') : AW X nL k n pc lv (vi x :: vi j :: .ref a :: st) ah := by
  intro H locs ls hR hS hl
  obtain ⟨t0, ht0⟩ := List.getElem?_of_mem ht
  refine W.iast (a := X.ba + a) hC.1 hC.2.1 (hR.at he) ((hC.2.2.2.2.2.2.1.2 t0 _ ht0).1 N (fun j => .int (iZ (f j)))) (fun q => by cases q) (by show ¬ (iZ (j : Int) < 0 ∨ (arrV _ _ _).slots.size ≤ _); rw [arrV_size]; exact iZ_inN hj hN) rfl rfl hd fun H1 e z oq => ?_
  refine kk H1 _ ls ?_ (hS.put z oq (Nat.le_add_right _ _)) hl
  rw [← hah]
  refine hR.set ?_ z oq
  show H1[X.ba + a]? = some (vp_cell cA (N, .inl (fun j' => iZ (up f j x j'))))
  rw [e, up_iZ]
  show some ((vp_cell cA (N, .inl (fun j => iZ (f j)))).setSlot _ _) = _
  rw [vp_cell_i, vp_cell_i, arrV_store, iZ_clN (by omega)]
  congr 2
  funext q
  by_cases hq : q = j
  · subst hq
    simp [updV, upd]
  · simp [updV, upd, hq]
theorem a_lastore (hC : Cx X cc nL own ret) (hd : decode cc pc = .ok (.lastore, 1)) {a j N : Nat} {cA : ClassId} {f : Nat → Int} {x : Int} (ht : (cA, FieldType.long) ∈ X.ty) (he : ah[a]? = some (aL cA N f)) (hj : j < N) (hN : N < 2147483648) {ah' : Hp} (hah : ah.set a (aL cA N (up f j x)) = ah') (kk : AW X nL k n (pc + 1) lv st ah') : AW X nL k n pc lv (vl x :: vi j :: .ref a :: st) ah := by
  intro H locs ls hR hS hl
  obtain ⟨t0, ht0⟩ := List.getElem?_of_mem ht
  refine W.last (a := X.ba + a) hC.1 hC.2.1 (hR.at he) ((hC.2.2.2.2.2.2.1.2 t0 _ ht0).1 N (fun j => .long (lZ (f j)))) (fun q => by cases q) (by show ¬ (iZ (j : Int) < 0 ∨ (arrV _ _ _).slots.size ≤ _); rw [arrV_size]; exact iZ_inN hj hN) rfl rfl hd fun H1 e z oq => ?_
  refine kk H1 _ ls ?_ (hS.put z oq (Nat.le_add_right _ _)) hl
  rw [← hah]
  refine hR.set ?_ z oq
  show H1[X.ba + a]? = some (vp_cell cA (N, .inr (.inl (fun j' => lZ (up f j x j')))))
  rw [e, up_lZ]
  show some ((vp_cell cA (N, .inr (.inl (fun j => lZ (f j))))).setSlot _ _) = _
  rw [vp_cell_l, vp_cell_l, arrV_store, iZ_clN (by omega)]
  congr 2
  funext q
  by_cases hq : q = j
  · subst hq
    simp [updV, vp_updL]
  · simp [updV, vp_updL, hq]
theorem a_zastore (hC : Cx X cc nL own ret) (hd : decode cc pc = .ok (.bastore, 1)) {a j N : Nat} {cA : ClassId} {f : Nat → Int} {x : Int} (hx : x = 0 ∨ x = 1) (ht : (cA, FieldType.boolean) ∈ X.ty) (he : ah[a]? = some (aI cA N f)) (hj : j < N) (hN : N < 2147483648) {ah' : Hp} (hah : ah.set a (aI cA N (up f j x)) = ah') (kk : AW X nL k n (pc + 1) lv st ah') : AW X nL k n pc lv (vi x :: vi j :: .ref a :: st) ah := by
  intro H locs ls hR hS hl
  obtain ⟨t0, ht0⟩ := List.getElem?_of_mem ht
  refine W.zast (a := X.ba + a) hC.1 hC.2.1 (hR.at he) ((hC.2.2.2.2.2.2.1.2 t0 _ ht0).1 N (fun j => .int (iZ (f j)))) (fun q => by cases q) (by show ¬ (iZ (j : Int) < 0 ∨ (arrV _ _ _).slots.size ≤ _); rw [arrV_size]; exact iZ_inN hj hN) rfl rfl hd fun H1 e z oq => ?_
  refine kk H1 _ ls ?_ (hS.put z oq (Nat.le_add_right _ _)) hl
  rw [← hah]
  refine hR.set ?_ z oq
  show H1[X.ba + a]? = some (vp_cell cA (N, .inl (fun j' => iZ (up f j x j'))))
  rw [e, up_iZ]
  show some ((vp_cell cA (N, .inl (fun j => iZ (f j)))).setSlot _ _) = _
  rw [vp_cell_i, vp_cell_i, arrV_store, iZ_clN (by omega)]
  congr 2
  funext q
  by_cases hq : q = j
  · subst hq
    rcases hx with rfl | rfl <;> simp [updV, upd] <;> rfl
  · simp [updV, upd, hq]
theorem a_widen {k' n' : Nat} (h1 : k ≤ k') (h2 : n ≤ n') (kk : AW X nL k' n' pc lv st ah) : AW X nL k n pc lv st ah := fun H locs ls hR hS hl => W.widen h1 h2 (kk H locs ls hR hS hl)
/-- what a method leaves: its answer and the heap -/
def qc (D : va_G) (b sb : Nat) (post : Option Value → Hp → Prop) : Array Value → State → Outcome → State → Prop := fun _ s0 oc t =>
  (∃ (r : Option Value) (ah' : Hp), oc = .returned (r.map (mv b sb)) ∧ post r ah' ∧ Rl D vwCl b sb ah' t.heap) ∧ va_F (fun q => b ≤ q) s0 t
def pcx (D : va_G) (tys : List (ClassId × FieldType)) (b sb : Nat) (av : List Value) (ah : Hp) : Array Value → State → Prop := fun v U =>
  v = (av.map (mv b sb)).toArray ∧ Rl D vwCl b sb ah U.heap ∧ va_K D vwCl tys U ∧ ∀ w ∈ NN, va_Nw w U
/-- a method's contract at its arguments and its heap -/
def Mt (l : Launch) (y : MethodName) (cc : ByteArray) (maxL : Nat) (ret : Option FieldType) (rm : Room) (D : va_G) (tys : List (ClassId × FieldType)) (av : List Value) (ah : Hp) (post : Option Value → Hp → Prop) : Prop :=
  ∀ b sb : Nat, Met l y (Cond.code y cc maxL ret :: TT) rm (pcx D tys b sb av ah) (qc D b sb post) rm.cells rm.slots (fun q => b ≤ q)
def EndOk (X : Xt) (post : Option Value → Hp → Prop) (mc ms : Nat) : Prop := X.qq = MQ X.be (qc X.dd X.ba X.sb post) X.ar X.s0 mc ms (fun q => X.ba ≤ q)
theorem args_map (b sb : Nat) : ∀ (vs : List Value) (i : Nat), lv_args i (vs.map (mv b sb)) = (lv_args i vs).map fun q => (q.1, mv b sb q.2)
  | [], _ => rfl
  | v :: vs, i => by
    show lv_args i (mv b sb v :: vs.map (mv b sb)) = (lv_args i (v :: vs)).map _
    simp only [lv_args, List.map_cons, mv_cat, args_map b sb vs]
theorem sl_len (b sb : Nat) : ∀ (vs : List Value), (lg_sl (vs.map (mv b sb))).length = (lg_sl vs).length
  | [] => rfl
  | v :: vs => by
    have h := sl_len b sb vs
    cases v <;> simp_all [lg_sl, mv, Value.category]
theorem Mt.intro {l : Launch} {y : MethodName} {maxL : Nat} {rm : Room} {D : va_G} {tys : List (ClassId × FieldType)} {av : List Value} {post : Option Value → Hp → Prop} (hy : plainFor y = true) (hlen : (lg_sl av).length ≤ maxL)
    (h : ∀ X : Xt, X.la = l → X.ro = rm → X.dd = D → X.ty = tys → X.me.name = y.name → Cx X cc maxL y.cls ret → EndOk X post rm.cells rm.slots → AW X maxL 0 0 0 (lv_args 0 av) [] ah) : Mt l y cc maxL ret rm D tys av ah post := by
  intro b sb
  refine va_MetF (cc := cc) (maxL := maxL) (ret := ret) hy rfl ?_
  intro p e s m args below meth c s₁ B hml hv
  obtain ⟨rfl, hR, hK, hN⟩ := hv
  have hts := atoms_spec (ws := Cond.code y cc maxL ret :: TT) B.pre
  have hnm : meth.name = y.name := (name_of_methodNamed B.named B.method).1
  have key := h (p, l, e, rm, s, m, (av.map (mv b sb)).toArray, below, meth, c, MQ below (qc D b sb post) (av.map (mv b sb)).toArray s rm.cells rm.slots (fun q => b ≤ q), D, tys, b, sb) rfl rfl rfl rfl hnm
    ⟨B.exec, B.bytes, hml, findClass_of_methodNamed B.named, fun w hw => hts w (List.mem_cons_of_mem _ hw), hN, hK, B.returns, B.notSynchronized⟩ rfl
  have hl := lv_entry (av.map (mv b sb)) (n := maxL) (by rw [sl_len]; exact hlen)
  rw [lg_entry_eq]
  rw [args_map] at hl
  exact key s.heap [] _ hR va_S.rf hl
theorem fr_end {X : Xt} {post : Option Value → Hp → Prop} {H : Heap} {locs : List Loc} {ah : Hp} {r : Option Value} (hR : Rl X.dd vwCl X.ba X.sb ah H) (hS : va_S (fun q => X.ba ≤ q) X.s0.heap H locs) (hp : post r ah) : ∀ t : State, t.heap = H → X.s0.WarmedH t.vm → qc X.dd X.ba X.sb post X.ar X.s0 (.returned (r.map (mv X.ba X.sb))) t :=
  fun t ht _ => ⟨⟨r, ah, rfl, hp, by rw [ht]; exact hR⟩, hS.F ht⟩
theorem a_ireturn {post : Option Value → Hp → Prop} (hC : Cx X cc nL own (some .int)) (hE : EndOk X post k n) (hd : decode cc pc = .ok (.ireturn, 1)) {x : Int} (hp : post (some (vi x)) ah) : AW X nL k n pc lv [vi x] ah := by
  intro H locs ls hR hS hl
  have := W.iret (v := iZ x) (Qc := qc X.dd X.ba X.sb post) (free := fun q => X.ba ≤ q) (pc := pc) (ls := ls) hC.1 hC.2.1 hC.2.2.2.2.2.2.2.1 (fr_end (r := some (vi x)) hR hS hp) hS.2.2 hd hC.2.2.2.2.2.2.2.2 (p := X.pg) (l := X.la) (e := X.en) (R := X.ro) (m := X.mi) (below := X.be) (c := X.co) (cells := k) (slots := n)
  rw [show X.qq = _ from hE]
  exact this
theorem a_zreturn {post : Option Value → Hp → Prop} {ty : FieldType} (hC : Cx X cc nL own (some ty)) (hE : EndOk X post k n) (hd : decode cc pc = .ok (.ireturn, 1)) {x : Int} (hn : narrow ty (vi x) = vi x) (hp : post (some (vi x)) ah) : AW X nL k n pc lv [vi x] ah := by
  intro H locs ls hR hS hl
  have := W.zret (v := iZ x) (ty := ty) (Qc := qc X.dd X.ba X.sb post) (free := fun q => X.ba ≤ q) (pc := pc) (ls := ls) hC.1 hC.2.1 hC.2.2.2.2.2.2.2.1 hn (fr_end (r := some (vi x)) hR hS hp) hS.2.2 hd hC.2.2.2.2.2.2.2.2 (p := X.pg) (l := X.la) (e := X.en) (R := X.ro) (m := X.mi) (below := X.be) (c := X.co) (cells := k) (slots := n)
  rw [show X.qq = _ from hE]
  exact this
theorem a_lreturn {post : Option Value → Hp → Prop} (hC : Cx X cc nL own (some .long)) (hE : EndOk X post k n) (hd : decode cc pc = .ok (.lreturn, 1)) {x : Int} (hp : post (some (vl x)) ah) : AW X nL k n pc lv [vl x] ah := by
  intro H locs ls hR hS hl
  have := W.lret (v := lZ x) (Qc := qc X.dd X.ba X.sb post) (free := fun q => X.ba ≤ q) (pc := pc) (ls := ls) hC.1 hC.2.1 hC.2.2.2.2.2.2.2.1 (fr_end (r := some (vl x)) hR hS hp) hS.2.2 hd hC.2.2.2.2.2.2.2.2 (p := X.pg) (l := X.la) (e := X.en) (R := X.ro) (m := X.mi) (below := X.be) (c := X.co) (cells := k) (slots := n)
  rw [show X.qq = _ from hE]
  exact this
theorem a_return {post : Option Value → Hp → Prop} (hC : Cx X cc nL own none) (hE : EndOk X post k n) (hd : decode cc pc = .ok (.return_, 1)) (hp : post none ah) : AW X nL k n pc lv [] ah := by
  intro H locs ls hR hS hl
  have := W.vret (Qc := qc X.dd X.ba X.sb post) (free := fun q => X.ba ≤ q) (pc := pc) (ls := ls) hC.1 hC.2.1 hC.2.2.2.2.2.2.2.1 (fr_end (r := none) hR hS hp) hS.2.2 hd hC.2.2.2.2.2.2.2.2 (p := X.pg) (l := X.la) (e := X.en) (R := X.ro) (m := X.mi) (below := X.be) (c := X.co) (cells := k) (slots := n)
  rw [show X.qq = _ from hE]
  exact this
/-- behind a call -/
theorem a_run {post : Option Value → Hp → Prop} {mc ms : Nat} {st0 rest : List Value} {a : Array Value}
    (hr : ∀ (H : Heap) (locs : List Loc) (ls : Array Slot), Rl X.dd vwCl X.ba X.sb ah H → lv_has ls nL (lv.map fun q => (q.1, mv X.ba X.sb q.2)) → va_Run X.pg X.la X.en X.ro X.s0 X.mi X.ar X.be X.me X.co H locs k n mc ms (F0 X.mi pc ls (st0.map (mv X.ba X.sb))) (rest.map (mv X.ba X.sb)) (qc X.dd X.ba X.sb post a) (fun q => X.ba ≤ q))
    (kk : ∀ (r : Option Value) (ah' : Hp), post r ah' → AW X nL (k + mc) (n + ms) (pc + 3) lv (r.toList ++ rest) ah') : AW X nL k n pc lv st0 ah := by
  intro H locs ls hR hS hl T hT Xs
  obtain ⟨v, st₀, t, T', L, h0, X', hL, e1, e2, ⟨⟨r, ah', hv, hp, hR'⟩, hz, hk⟩, st⟩ := hr H locs ls hR hl T hT Xs
  cases hv
  rw [h0] at hz hk
  have hS' : va_S (fun q => X.ba ≤ q) X.s0.heap T'.heap (locs ++ L) := ⟨Nat.le_trans hS.1 (by rw [e1]; exact hz), fun q h1 h2 => by rw [e1, hk q (Nat.lt_of_lt_of_le h1 hS.1) h2]; exact hS.2.1 q h1 h2, fun q hq => by
      rcases List.mem_append.mp hq with h | h
      · exact hS.2.2 q h
      · exact hL q h⟩
  obtain ⟨t2, a1, b1⟩ := kk r ah' hp T'.heap (locs ++ L) ls (by rw [e1]; exact hR') hS' hl T' rfl X'
  refine ⟨t2, st t2 ?_, b1⟩
  have e3 : (r.map (mv X.ba X.sb)).toList ++ rest.map (mv X.ba X.sb) = (r.toList ++ rest).map (mv X.ba X.sb) := by cases r <;> simp
  rw [show ({ F0 X.mi pc ls (st0.map (mv X.ba X.sb)) with pc := pc + 3, stack := (r.map (mv X.ba X.sb)).toList ++ rest.map (mv X.ba X.sb) } : JFrame) = F0 X.mi (pc + 3) ls ((r.toList ++ rest).map (mv X.ba X.sb)) by rw [← e3]]
  exact a1
theorem blind {D : va_G} {tys : List (ClassId × FieldType)} {b sb : Nat} {av : List Value} : FrameBlind (pcx D tys b sb av ah) := by
  intro a U g mk q
  obtain ⟨q0, q1, q2, q3⟩ := q
  exact ⟨q0, q1, va_K.moved (u := U) (U := U.calling g mk a) (Vm.Alike.refl U.vm) q2, fun w hw => NN_same (u := U) w hw rfl (q3 w hw)⟩
theorem pcx_of (hC : Cx X cc nL own ret) {av : List Value} {H : Heap} (hR : Rl X.dd vwCl X.ba X.sb ah H) : ∀ U : State, U.heap = H → X.s0.WarmedH U.vm → pcx X.dd X.ty X.ba X.sb av ah (av.map (mv X.ba X.sb)).toArray U := by
  intro U hU hW
  exact ⟨rfl, by rw [hU]; exact hR, va_K.moved hW.alike hC.2.2.2.2.2.2.1, fun w hw => NN_warm w hw hW (hC.2.2.2.2.2.1 w hw)⟩
/-- its room within the caller's -/
def Fits (rm R : Room) (maxL k n : Nat) : Prop := (rm.frames + 1 ≤ R.frames ∧ 8 + (maxL + 11) + rm.locals ≤ R.locals) ∧ k + rm.cells ≤ R.cells ∧ n + rm.slots ≤ R.slots
theorem good_cons {w : Cond} (h : w ∈ TT) : GoodIn TT (w :: TT) := fun v hv => by
  rcases List.mem_cons.mp hv with rfl | h2
  · exact TT_good _ h
  · exact TT_good _ h2
theorem cat_sum (b sb : Nat) (st : List Value) : ((st.map (mv b sb)).map fun v => v.category).sum = (st.map fun v => v.category).sum := by
  rw [List.map_map]; congr 1; apply List.map_congr_left; intro v _; exact mv_cat b sb v
theorem room_ok {m : MethodId} {ls : Array Slot} {b sb : Nat} {rest st1 : List Value} (h : (rest.map fun v => v.category).sum ≤ 8) : 2 * (F0 m pc ls st1).monitorRoom + ((rest.map (mv b sb)).map fun v => v.category).sum ≤ 8 := lv_room (by rw [cat_sum]; exact h)
section CALL
variable {y : MethodName} {code : ByteArray} {maxL na idx : Nat} {rt : Option FieldType} {rm : Room} {av rest : List Value} {post : Option Value → Hp → Prop} {host : String}
/-- a static method of the same class -/
theorem a_callS (hC : Cx X cc nL own ret) (hd : decode cc pc = .ok (.invokestatic idx, 3)) (hy : Yk y code maxL rt na) (hs : Cond.static y ∈ TT) (hlk : Cond.methodLink own idx y ∈ TT) (hM : Mt X.la y code maxL rt rm X.dd X.ty av ah post) (hna : av.length = na) (hf : Fits rm X.ro maxL k n) (hcat : (rest.map fun v => v.category).sum ≤ 8)
    (kk : ∀ (r : Option Value) (ah' : Hp), post r ah' → AW X nL (k + rm.cells) (n + rm.slots) (pc + 3) lv (r.toList ++ rest) ah') : AW X nL k n pc lv (av.reverse ++ rest) ah := by
  refine a_run (rest := rest) (a := (av.map (mv X.ba X.sb)).toArray) (fun H locs ls hR hl => ?_) kk
  obtain ⟨h1, h2, h3, h4, h5⟩ := hy
  have hts := hC.2.2.2.2.1
  exact va_runS (As := av.map (mv X.ba X.sb)) (cc := cc) (nL := nL) (Ts := TT) (own := own) (index := idx) (n := na) ⟨hC.1, hC.2.1, hC.2.2.1, hC.2.2.2.1, hts⟩ (hM X.ba X.sb)
    ⟨callB_of na hts (good_cons h1) rfl rfl rfl (hts _ h2) (hts _ hlk) ⟨h3, h4, h5⟩ hf.1, hts _ hs⟩ ⟨blind, pcx_of hC hR⟩ rfl (by rw [List.length_map]; exact hna) hl.1 (by simp [List.map_reverse]) (room_ok hcat) hd hf.2
/-- a nest mate's static method -/
theorem a_callSN (hC : Cx X cc nL own ret) (hd : decode cc pc = .ok (.invokestatic idx, 3)) (hy : Yk y code maxL rt na) (hs : Cond.static y ∈ TT) (hlk : Cond.methodLinkNest own idx y host ∈ NN) (hM : Mt X.la y code maxL rt rm X.dd X.ty av ah post) (hna : av.length = na) (hf : Fits rm X.ro maxL k n) (hcat : (rest.map fun v => v.category).sum ≤ 8)
    (kk : ∀ (r : Option Value) (ah' : Hp), post r ah' → AW X nL (k + rm.cells) (n + rm.slots) (pc + 3) lv (r.toList ++ rest) ah') : AW X nL k n pc lv (av.reverse ++ rest) ah := by
  refine a_run (rest := rest) (a := (av.map (mv X.ba X.sb)).toArray) (fun H locs ls hR hl => ?_) kk
  obtain ⟨h1, h2, h3, h4, h5⟩ := hy
  have hts := hC.2.2.2.2.1
  exact va_runSN (As := av.map (mv X.ba X.sb)) (cc := cc) (nL := nL) (Ts := TT) (own := own) (index := idx) (n := na) (host := host) ⟨hC.1, hC.2.1, hC.2.2.1, hC.2.2.2.1, hts⟩ (hM X.ba X.sb)
    ⟨va_cnB na hts (good_cons h1) rfl rfl rfl (hC.2.2.2.2.2.1 _ hlk) (hts _ h2) ⟨h3, h4, h5⟩ hf.1, hts _ hs, trivial⟩ ⟨blind, pcx_of hC hR⟩ rfl (by rw [List.length_map]; exact hna) hl.1 (by simp [List.map_reverse]) (room_ok hcat) hd hf.2
theorem rv_of (hC : Cx X cc nL own ret) {ci i : Nat} {q : vw_C} {fs : List Value} {H : Heap} (hR : Rl X.dd vwCl X.ba X.sb ah H) (hc : vwCl[ci]? = some q) (he : ah[i]? = some (.inr (ci, fs))) : ∃ cell : Cell, H[X.ba + i]? = some cell ∧ cell.vm.isStatics = false ∧ X.s0.vm.findClass q.1 = some cell.cls :=
  va_recv hC.2.2.2.2.2.2.1 (hR.one he) hc (q0 := 0) rfl
/-- a method of an object -/
theorem a_callV (hC : Cx X cc nL own ret) (hd : decode cc pc = .ok (.invokevirtual idx, 3)) {ci i : Nat} {T : u_T} {N : Nat} {fs : List Value} (hc : vwCl[ci]? = some (y.cls, T, N)) (he : ah[i]? = some (.inr (ci, fs))) (hy : Yk y code maxL rt na) (hi : Cond.instanceMethod y ∈ TT) (hsel : Cond.selects y.cls y y ∈ TT) (hlk : Cond.methodLink own idx y ∈ TT) (hM : Mt X.la y code maxL rt rm X.dd X.ty (.ref i :: av) ah post) (hna : av.length = na) (hf : Fits rm X.ro maxL k n) (hcat : (rest.map fun v => v.category).sum ≤ 8)
    (kk : ∀ (r : Option Value) (ah' : Hp), post r ah' → AW X nL (k + rm.cells) (n + rm.slots) (pc + 3) lv (r.toList ++ rest) ah') : AW X nL k n pc lv (av.reverse ++ .ref i :: rest) ah := by
  refine a_run (rest := rest) (a := (Value.ref (X.ba + i) :: av.map (mv X.ba X.sb)).toArray) (fun H locs ls hR hl => ?_) kk
  obtain ⟨h1, h2, h3, h4, h5⟩ := hy
  have hts := hC.2.2.2.2.1
  exact va_runV (As := av.map (mv X.ba X.sb)) (C := y.cls) (b := X.ba + i) (cc := cc) (nL := nL) (Ts := TT) (own := own) (index := idx) (n := na) ⟨hC.1, hC.2.1, hC.2.2.1, hC.2.2.2.1, hts⟩ (hM X.ba X.sb)
    ⟨callB_of na hts (good_cons h1) rfl rfl rfl (hts _ h2) (hts _ hlk) ⟨h3, h4, h5⟩ hf.1, hts _ hi, hts _ hsel⟩ ⟨blind, rv_of hC hR hc he, pcx_of (av := .ref i :: av) hC hR⟩ rfl (by rw [List.length_map]; exact hna) hl.1 (by simp [List.map_reverse, mv]) (room_ok hcat) hd hf.2
/-- a nest mate's method -/
theorem a_callVN (hC : Cx X cc nL own ret) (hd : decode cc pc = .ok (.invokevirtual idx, 3)) {ci i : Nat} {T : u_T} {N : Nat} {fs : List Value} (hc : vwCl[ci]? = some (y.cls, T, N)) (he : ah[i]? = some (.inr (ci, fs))) (hy : Yk y code maxL rt na) (hi : Cond.instanceMethod y ∈ TT) (hsel : Cond.selects y.cls y y ∈ TT) (hlk : Cond.methodLinkNest own idx y host ∈ NN) (hM : Mt X.la y code maxL rt rm X.dd X.ty (.ref i :: av) ah post) (hna : av.length = na) (hf : Fits rm X.ro maxL k n) (hcat : (rest.map fun v => v.category).sum ≤ 8)
    (kk : ∀ (r : Option Value) (ah' : Hp), post r ah' → AW X nL (k + rm.cells) (n + rm.slots) (pc + 3) lv (r.toList ++ rest) ah') : AW X nL k n pc lv (av.reverse ++ .ref i :: rest) ah := by
  refine a_run (rest := rest) (a := (Value.ref (X.ba + i) :: av.map (mv X.ba X.sb)).toArray) (fun H locs ls hR hl => ?_) kk
  obtain ⟨h1, h2, h3, h4, h5⟩ := hy
  have hts := hC.2.2.2.2.1
  exact va_runVN (As := av.map (mv X.ba X.sb)) (C := y.cls) (b := X.ba + i) (cc := cc) (nL := nL) (Ts := TT) (own := own) (index := idx) (n := na) (host := host) ⟨hC.1, hC.2.1, hC.2.2.1, hC.2.2.2.1, hts⟩ (hM X.ba X.sb)
    ⟨va_cnB na hts (good_cons h1) rfl rfl rfl (hC.2.2.2.2.2.1 _ hlk) (hts _ h2) ⟨h3, h4, h5⟩ hf.1, hts _ hi, hts _ hsel⟩ ⟨blind, rv_of hC hR hc he, pcx_of (av := .ref i :: av) hC hR⟩ rfl (by rw [List.length_map]; exact hna) hl.1 (by simp [List.map_reverse, mv]) (room_ok hcat) hd hf.2
/-- a constructor -/
theorem a_callI (hC : Cx X cc nL own ret) (hd : decode cc pc = .ok (.invokespecial idx, 3)) {i : Nat} (hy : Yk y code maxL none na) (hi : Cond.instanceMethod y ∈ TT) (hnm : y.name = "<init>") (hlk : Cond.methodLink own idx y ∈ TT) (hM : Mt X.la y code maxL none rm X.dd X.ty (.ref i :: av) ah post) (hna : av.length = na) (hf : Fits rm X.ro maxL k n) (hcat : (rest.map fun v => v.category).sum ≤ 8)
    (kk : ∀ (r : Option Value) (ah' : Hp), post r ah' → AW X nL (k + rm.cells) (n + rm.slots) (pc + 3) lv (r.toList ++ rest) ah') : AW X nL k n pc lv (av.reverse ++ .ref i :: rest) ah := by
  refine a_run (rest := rest) (a := (Value.ref (X.ba + i) :: av.map (mv X.ba X.sb)).toArray) (fun H locs ls hR hl => ?_) kk
  obtain ⟨h1, h2, h3, h4, h5⟩ := hy
  have hts := hC.2.2.2.2.1
  exact va_runI (As := av.map (mv X.ba X.sb)) (b := X.ba + i) (cc := cc) (nL := nL) (Ts := TT) (own := own) (index := idx) (n := na) ⟨hC.1, hC.2.1, hC.2.2.1, hC.2.2.2.1, hts⟩ (hM X.ba X.sb)
    ⟨callB_of na hts (good_cons h1) rfl rfl rfl (hts _ h2) (hts _ hlk) ⟨h3, h4, h5⟩ hf.1, hnm, hts _ hi⟩ ⟨blind, pcx_of (av := .ref i :: av) hC hR⟩ rfl (by rw [List.length_map]; exact hna) hl.1 (by simp [List.map_reverse, mv]) (room_ok hcat) hd hf.2
/-- a nest mate's constructor -/
theorem a_callIN (hC : Cx X cc nL own ret) (hd : decode cc pc = .ok (.invokespecial idx, 3)) {i : Nat} (hy : Yk y code maxL none na) (hi : Cond.instanceMethod y ∈ TT) (hnm : y.name = "<init>") (hlk : Cond.methodLinkNest own idx y host ∈ NN) (hM : Mt X.la y code maxL none rm X.dd X.ty (.ref i :: av) ah post) (hna : av.length = na) (hf : Fits rm X.ro maxL k n) (hcat : (rest.map fun v => v.category).sum ≤ 8)
    (kk : ∀ (r : Option Value) (ah' : Hp), post r ah' → AW X nL (k + rm.cells) (n + rm.slots) (pc + 3) lv (r.toList ++ rest) ah') : AW X nL k n pc lv (av.reverse ++ .ref i :: rest) ah := by
  refine a_run (rest := rest) (a := (Value.ref (X.ba + i) :: av.map (mv X.ba X.sb)).toArray) (fun H locs ls hR hl => ?_) kk
  obtain ⟨h1, h2, h3, h4, h5⟩ := hy
  have hts := hC.2.2.2.2.1
  exact va_runIN (As := av.map (mv X.ba X.sb)) (b := X.ba + i) (cc := cc) (nL := nL) (Ts := TT) (own := own) (index := idx) (n := na) (host := host) ⟨hC.1, hC.2.1, hC.2.2.1, hC.2.2.2.1, hts⟩ (hM X.ba X.sb)
    ⟨va_cnB na hts (good_cons h1) rfl rfl rfl (hC.2.2.2.2.2.1 _ hlk) (hts _ h2) ⟨h3, h4, h5⟩ hf.1, hnm, hts _ hi⟩ ⟨blind, pcx_of (av := .ref i :: av) hC hR⟩ rfl (by rw [List.length_map]; exact hna) hl.1 (by simp [List.map_reverse, mv]) (room_ok hcat) hd hf.2
end CALL
end ROWS
