/-! arrays of arrays are made: the outer one, then its rows one behind another -/
def rwC (r : ClassId) (M : Nat) (z : Value) : Cell := { cls := r, slots := Array.replicate M z, vm := .none }
/-- the outer array, i rows hung in -/
def ouC (o : ClassId) (N h i : Nat) : Cell := { cls := o, slots := (Array.range N).map (fun j => if j < i then Value.ref (h + 1 + j) else Value.null), vm := .none }
theorem ouC_0 (o : ClassId) (N h : Nat) : ({ cls := o, slots := Array.replicate N .null, vm := .none } : Cell) = ouC o N h 0 := by
  unfold ouC
  congr 1
  refine Array.ext (by simp) (fun j h1 h2 => by simp)
theorem ouC_size (o : ClassId) (N h i : Nat) : (ouC o N h i).slots.size = N := by simp [ouC]
theorem ouC_s (o : ClassId) (N h i : Nat) : (ouC o N h i).setSlot i (.ref (h + 1 + i)) = ouC o N h (i + 1) := by
  unfold ouC Cell.setSlot
  congr 1
  refine Array.ext_getElem? (fun j => ?_)
  rw [Array.getElem?_setIfInBounds]
  by_cases e : i = j
  · subst e
    by_cases q : i < N <;> simp [q]
  · rw [if_neg e]
    by_cases q : j < N
    · simp only [Array.getElem?_map, Array.getElem?_range, q, if_true, Option.map_some]
      by_cases l : j < i
      · rw [if_pos l, if_pos (by omega)]
      · rw [if_neg l, if_neg (by omega)]
    · simp [q]
/-- the state behind i rows -/
def mkR (s : State) (o r : ClassId) (N M : Nat) (z : Value) : Nat → State
  | 0 => s.pushCell (ouC o N s.heap.size 0)
  | i + 1 => ((mkR s o r N M z i).pushCell (rwC r M z)).setCell s.heap.size (ouC o N s.heap.size (i + 1))
theorem mkR_in (s : State) (o r : ClassId) (N M : Nat) (z : Value) : ∀ i, (mkR s o r N M z i).heap.size = s.heap.size + 1 + i ∧ (mkR s o r N M z i).heap[s.heap.size]? = some (ouC o N s.heap.size i) ∧ (mkR s o r N M z i).vm = s.vm ∧ (mkR s o r N M z i).slotsUsed = s.slotsUsed + N + i * M ∧ (∀ q, q < s.heap.size → (mkR s o r N M z i).heap[q]? = s.heap[q]?) ∧ ∀ j, j < i → (mkR s o r N M z i).heap[s.heap.size + 1 + j]? = some (rwC r M z)
  | 0 => by
    refine ⟨by simp [mkR], by simp [mkR], rfl, by simp [mkR, ouC_size], fun q hq => State.heap_pushCell_of_lt _ _ hq, fun j hj => by omega⟩
  | i + 1 => by
    obtain ⟨a1, a2, a3, a4, a5, a6⟩ := mkR_in s o r N M z i
    have l1 : s.heap.size < (mkR s o r N M z i).heap.size := by omega
    have hb : ((mkR s o r N M z i).pushCell (rwC r M z)).heap[s.heap.size]? = some (ouC o N s.heap.size i) := by rw [State.heap_pushCell_of_lt (h := l1)]; exact a2
    refine ⟨by simp [mkR, State.setCell, a1]; omega, State.heap_setCell_self hb, by simp [mkR, a3], ?_, fun q hq => ?_, fun j hj => ?_⟩
    · simp [mkR, a4, rwC, Nat.succ_mul]; omega
    · show (((mkR s o r N M z i).pushCell (rwC r M z)).setCell s.heap.size _).heap[q]? = _
      rw [State.heap_setCell_other (Nat.ne_of_gt hq), State.heap_pushCell_of_lt (h := show q < (mkR s o r N M z i).heap.size by omega)]
      exact a5 q hq
    · show (((mkR s o r N M z i).pushCell (rwC r M z)).setCell s.heap.size _).heap[s.heap.size + 1 + j]? = _
      rw [State.heap_setCell_other (show s.heap.size ≠ s.heap.size + 1 + j by omega)]
      by_cases e : j = i
      · rw [e, ← a1]; exact State.heap_pushCell_size _ _
      · rw [State.heap_pushCell_of_lt (h := show s.heap.size + 1 + j < (mkR s o r N M z i).heap.size by omega)]; exact a6 j (by omega)
theorem mkR_top (s : State) (f : JFrame) (o r : ClassId) (N M : Nat) (z : Value) : ∀ i, mkR (s.setTop f) o r N M z i = (mkR s o r N M z i).setTop f
  | 0 => by simp only [mkR, State.heap_setTop, State.pushCell_setTop]
  | i + 1 => by simp only [mkR, mkR_top s f o r N M z i, State.heap_setTop, State.pushCell_setTop, State.setCell_setTop]
section MANA
variable {E : CtlPost} {e : Env} {d : Bool} {acts : List Action} {s : State}
/-- one array with its default values -/
theorem wp_one {c comp : ClassId} {k : Class} {ty : FieldType} {len : Nat} {z : Value} (hk : s.vm.classes[c]? = some k) (hkind : k.kind = .array comp ty) (hl : ¬ len > e.platform.arrayLengthLimit) (hh : ¬ len * componentBytes ty > e.platform.maxHeapBytes) (hfit : fits ty z = true) (hdef : z.isDefault = true) (h1 : s.heap.size < e.platform.maxCells) (h2 : s.slotsUsed + len ≤ e.platform.maxSlots) {Q : Addr → Pre} (hq : Q s.heap.size d acts (s.pushCell { cls := c, slots := Array.replicate len z, vm := .none })) : wp (Jvm.newArray c len z) Q E e d acts s := by
  have hacts : allocActs (Array.replicate len z) s.heap.size acts = acts := by
    unfold allocActs
    rw [if_pos (by rw [Array.all_replicate]; split <;> simp [hdef])]
  have hfits : ∀ i v, (Array.replicate len z)[i]? = some v → s.fitsSlot c .none i v = true := fun i v hv => by
    rw [Array.getElem?_replicate] at hv
    split at hv
    · cases hv; simp [State.fitsSlot, State.slotType?, hk, hkind, hfit]
    · cases hv
  simp only [Jvm.newArray, Jvm.arrayFits, wp_bind', W.ask, W.ite, hl, if_false, wp_pure', W.theClass, hk, hkind, Option.some.injEq, exists_eq_left', hh, W.alloc, W.stop, Array.size_replicate, hacts]
  rw [if_neg (by omega)]
  exact ⟨h1, h2, hfits, hq⟩
/-- the model's 'make' of two dimensions -/
theorem wp_rows {o r cc : ClassId} {k kr : Class} {ty : FieldType} {n m : Int32} (hk : s.vm.classes[o]? = some k) (hkind : k.kind = .array r (.array ty)) (hkr : s.vm.classes[r]? = some kr) (hkindr : kr.kind = .array cc ty) (hn : ¬ n < 0) (hm : ¬ m < 0)
    (hl1 : ¬ n.toNatClampNeg > e.platform.arrayLengthLimit) (hh1 : ¬ n.toNatClampNeg * componentBytes (.array ty) > e.platform.maxHeapBytes) (hl2 : ¬ m.toNatClampNeg > e.platform.arrayLengthLimit) (hh2 : ¬ m.toNatClampNeg * componentBytes ty > e.platform.maxHeapBytes)
    (hdf : fits ty (defaultValue ty) = true) (hdd : (defaultValue ty).isDefault = true) (hc : s.heap.size + 1 + n.toNatClampNeg ≤ e.platform.maxCells) (hs : s.slotsUsed + n.toNatClampNeg + n.toNatClampNeg * m.toNatClampNeg ≤ e.platform.maxSlots)
    {Q : Addr → Pre} (hq : ∀ d' acts', Q s.heap.size d' acts' (mkR s o r n.toNatClampNeg m.toNatClampNeg (defaultValue ty) n.toNatClampNeg)) : wp (multianewarray.make o [n, m]) Q E e d acts s := by
  have hfind : ([m].find? (· < 0)) = none := by simp [hm]
  rw [multianewarray.make]
  simp only [wp_bind', W.ite, hn, if_false, wp_pure', W.theClass, hk, hkind, Option.some.injEq, exists_eq_left']
  refine wp_one hk hkind hl1 hh1 rfl rfl (by omega) (by have := Nat.zero_le (n.toNatClampNeg * m.toNatClampNeg); omega) ?_
  rw [ouC_0 o n.toNatClampNeg s.heap.size]
  simp only [hfind]
  rw [ite_self, wp_bind', Std.Legacy.Range.forIn_eq_forIn_range']
  have hsz : ([:n.toNatClampNeg] : Std.Legacy.Range).size = n.toNatClampNeg := by simp [Std.Legacy.Range.size]
  rw [hsz]
  show wp (forIn (List.range' 0 n.toNatClampNeg 1) PUnit.unit _) _ E e d acts _
  refine wp_forIn_inv (fun left u => ∃ i, i ≤ n.toNatClampNeg ∧ left = List.range' i (n.toNatClampNeg - i) ∧ u = mkR s o r n.toNatClampNeg m.toNatClampNeg (defaultValue ty) i) _ _ ⟨0, Nat.zero_le _, rfl, rfl⟩ (fun x left u d' acts' Q' hI hnext => ?_) (fun u d' acts' hI => ?_)
  · obtain ⟨i, hi, hl, rfl⟩ := hI
    have hlt : i < n.toNatClampNeg := by
      by_cases q : i < n.toNatClampNeg
      · exact q
      · rw [show n.toNatClampNeg - i = 0 by omega] at hl; cases hl
    rw [show n.toNatClampNeg - i = (n.toNatClampNeg - (i + 1)) + 1 by omega, List.range'_succ] at hl
    injection hl with ex eleft
    subst ex
    obtain ⟨a1, a2, a3, a4, a5, a6⟩ := mkR_in s o r n.toNatClampNeg m.toNatClampNeg (defaultValue ty) x
    have hmul : x * m.toNatClampNeg + m.toNatClampNeg ≤ n.toNatClampNeg * m.toNatClampNeg := by
      have := Nat.mul_le_mul_right m.toNatClampNeg (show x + 1 ≤ n.toNatClampNeg from hlt)
      rw [Nat.succ_mul] at this; exact this
    have hkr2 : (mkR s o r n.toNatClampNeg m.toNatClampNeg (defaultValue ty) x).vm.classes[r]? = some kr := by rw [a3]; exact hkr
    simp only [wp_bind']
    rw [multianewarray.make]
    simp only [wp_bind', W.ite, hm, if_false, wp_pure', W.theClass, hkr2, hkindr, Option.some.injEq, exists_eq_left']
    refine wp_one hkr2 hkindr hl2 hh2 hdf hdd (by rw [a1]; omega) (by rw [a4]; omega) ?_
    simp only [wp_bind', W.writeLoc, wp_pure']
    refine ⟨ouC o n.toNatClampNeg s.heap.size x, by rw [State.heap_pushCell_of_lt (h := show s.heap.size < (mkR s o r n.toNatClampNeg m.toNatClampNeg (defaultValue ty) x).heap.size by rw [a1]; omega)]; exact a2, by simp [ouC], by rw [ouC_size]; exact hlt, ?_, hnext _ _ _ ⟨x + 1, hlt, eleft, ?_⟩⟩
    · simp [ouC, State.fitsSlot, State.slotType?, a3, hk, hkind]; rfl
    · rw [a1, ouC_s]; rfl
  · obtain ⟨i, hi, hl, rfl⟩ := hI
    have hiN : i = n.toNatClampNeg := by
      by_cases q : i < n.toNatClampNeg
      · rw [show n.toNatClampNeg - i = (n.toNatClampNeg - (i + 1)) + 1 by omega, List.range'_succ] at hl; cases hl
      · omega
    rw [hiN]
    simp only [wp_pure']
    exact hq _ _
end MANA
section MANB
variable {p : Program} {l : Launch} {e : Env} {R : Room} {s : State} {m : MethodId} {args : Array Value} {below : List Frame} {meth : Method} {c : Code} {T : State} {locs : List Loc} {cells slots : Nat}
theorem st_rows (X : Stand p l e R s m args below meth c T locs cells slots) (o r : ClassId) (N M : Nat) (z : Value) : ∀ i, Stand p l e R s m args below meth c (mkR T o r N M z i) (locs ++ (List.range i).map fun j => ⟨T.heap.size, j⟩) (cells + 1 + i) (slots + N + i * M)
  | 0 => by
    have h := X.pushed (ouC o N T.heap.size 0)
    rw [ouC_size] at h
    simpa [mkR] using h
  | i + 1 => by
    have Xi := st_rows X o r N M z i
    obtain ⟨a1, a2, a3, a4, a5, a6⟩ := mkR_in T o r N M z i
    have h := (Xi.pushed (rwC r M z)).stored (a := T.heap.size) (cell := ouC o N T.heap.size i) (by rw [State.heap_pushCell_of_lt (h := show T.heap.size < (mkR T o r N M z i).heap.size by omega)]; exact a2) i (.ref (T.heap.size + 1 + i))
    rw [ouC_s, show (rwC r M z).slots.size = M by simp [rwC]] at h
    rw [List.range_succ, List.map_append, ← List.append_assoc, show slots + N + (i + 1) * M = slots + N + i * M + M by rw [Nat.succ_mul]; omega]
    exact h
theorem w_rows {H : Heap} {Q : State → Prop} {cc : ByteArray} (hexec : p.tables.exec = Jvm.exec) (hb : c.code = cc) {own : String} {index : Nat} {ty : FieldType} (hown : s.vm.findClass own = some m.cls) (hclink : (Cond.classLink own index ("[" ++ (FieldType.array ty).toString)).before args s = true) (hover : va_Nw (.arrayOver (.array ty)) s) (harr : (Cond.arrayClass ty).before args s = true)
    {g : JFrame} (hg : g.method = m) (hdg : decode cc g.pc = .ok (.multianewarray index 2, 4)) {n k : Int32} {N M : Nat} {rest : List Value} (hstack : g.stack = .int k :: .int n :: rest) (hn : ¬ n < 0) (hk : ¬ k < 0) (hN : n.toNatClampNeg = N) (hM : k.toNatClampNeg = M) (hN2 : N ≤ 1000) (hM2 : M ≤ 1000) (hcb : componentBytes ty ≤ 8) (hdf : fits ty (defaultValue ty) = true) (hdd : (defaultValue ty).isDefault = true) (hcells : cells + (1 + N) ≤ R.cells) (hslots : slots + (N + N * M) ≤ R.slots)
    (kk : ∀ (H' : Heap) (o r : ClassId), s.vm.findClass ("[" ++ (FieldType.array ty).toString) = some o → s.vm.findClass (FieldType.array ty).toString = some r → H'.size = H.size + 1 + N → H'[H.size]? = some (ouC o N H.size N) → (∀ j, j < N → H'[H.size + 1 + j]? = some (rwC r M (defaultValue ty))) → (∀ q, q < H.size → H'[q]? = H[q]?) →
      W p l e R s m args below meth c H' (locs ++ (List.range N).map fun j => ⟨H.size, j⟩) (cells + 1 + N) (slots + N + N * M) Q { g with pc := g.pc + 4, stack := .ref H.size :: rest }) : W p l e R s m args below meth c H locs cells slots Q g := by
  intro T hT X
  subst hT
  subst hb
  subst hg
  subst hN
  subst hM
  have hpl : e.platform.magicAccessors = ({} : Platform).magicAccessors := by rw [X.admits.platform]
  obtain ⟨r, o, kA, hr, -, hkA, hkindA, hnameA⟩ := ao_spec (args := args) hover
  obtain ⟨r', kC, cc, hr', hkC, hkindC⟩ := Cond.arrayClass_spec harr
  cases hr'.symm.trans hr
  obtain ⟨c0, hfc0, hcl⟩ := Cond.classLink_spec hown hclink e.platform hpl
  cases hnameA.symm.trans hfc0
  obtain ⟨hg₁, hwarm₁, hready₁⟩ := State.classEntry (e := e) X.warmed hcl
  generalize T.vm.noted g.method.cls index (.cls o) = vm₁ at hg₁ hwarm₁ hready₁
  have hal : s.vm.Alike vm₁ := hwarm₁.alike
  obtain ⟨kA₁, hkA₁, heA⟩ := hal.2.2 _ _ hkA
  obtain ⟨kC₁, hkC₁, heC⟩ := hal.2.2 _ _ hkC
  have hkindA₁ : kA₁.kind = .array r (.array ty) := by rw [heA]; exact hkindA
  have hkindC₁ : kC₁.kind = .array cc ty := by rw [heC]; exact hkindC
  have X₁ := X.noted hwarm₁
  have XF := st_rows X₁ o r n.toNatClampNeg k.toNatClampNeg (defaultValue ty) n.toNatClampNeg
  obtain ⟨hr1, hr2⟩ := X.roomAbove hcells hslots
  obtain ⟨a1, a2, a3, a4, a5, a6⟩ := mkR_in (T.setVm vm₁) o r n.toNatClampNeg k.toNatClampNeg (defaultValue ty) n.toNatClampNeg
  obtain ⟨t, t1, t2⟩ := kk (mkR (T.setVm vm₁) o r n.toNatClampNeg k.toNatClampNeg (defaultValue ty) n.toNatClampNeg).heap o r hnameA hr a1 a2 a6 a5 (mkR (T.setVm vm₁) o r n.toNatClampNeg k.toNatClampNeg (defaultValue ty) n.toNatClampNeg) rfl XF
  refine ⟨t, ?_, t2⟩
  have hl1 : ¬ n.toNatClampNeg > e.platform.arrayLengthLimit := by rw [Launch.admits_arrayLengthLimit X.admits]; omega
  have hh1 : ¬ n.toNatClampNeg * componentBytes (.array ty) > e.platform.maxHeapBytes := by
    rw [Launch.admits_maxHeapBytes X.admits]; show ¬ n.toNatClampNeg * 4 > 536870912; omega
  have hl2 : ¬ k.toNatClampNeg > e.platform.arrayLengthLimit := by rw [Launch.admits_arrayLengthLimit X.admits]; omega
  have hh2 : ¬ k.toNatClampNeg * componentBytes ty > e.platform.maxHeapBytes := by
    rw [Launch.admits_maxHeapBytes X.admits]
    have := Nat.mul_le_mul hM2 hcb
    omega
  jvm_step X.here [hexec, hdg]
  simp only [multianewarray.sem, wp_bind', W.resolveClassAt_links (State.method?_setTop g X.here.top) hg₁]
  rw [W.popN, if_neg (by decide)]
  refine ⟨g, State.topJava?_setTop' (s := T.setVm vm₁) g X.here.top, [.int n, .int k], rest, rfl, hstack, ?_⟩
  simp only [List.mapM_cons, List.mapM_nil, wp_bind', wp_pure']
  refine wp_rows (k := kA₁) (kr := kC₁) (r := r) (cc := cc) (ty := ty) hkA₁ hkindA₁ hkC₁ hkindC₁ hn hk hl1 hh1 hl2 hh2 hdf hdd (by show T.heap.size + 1 + _ ≤ _; omega) (by show T.slotsUsed + _ + _ ≤ _; omega) (fun d' acts' => ?_)
  have eS : ((T.setTop g).setVm vm₁).setTop { g with stack := rest } = (T.setVm vm₁).setTop { g with stack := rest } := by
    show ((T.setVm vm₁).setTop g).setTop _ = _
    rw [State.setTop_setTop]
  rw [eS, mkR_top]
  simp only [wp_bind', W.mark, W.pushRef, State.topJava?_setTop' _ XF.here.top, Option.some.injEq, exists_eq_left', State.setTop_setTop, State.heap_setTop]
  intro acts
  simp [jvm, XF.here.top]
  exact t1
end MANB
