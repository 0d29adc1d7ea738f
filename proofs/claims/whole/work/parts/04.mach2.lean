section ROWS2
variable {X : Xt} {cc : ByteArray} {nL k n pc : Nat} {own : String} {ret : Option FieldType} {lv : List (Nat × Value)} {st : List Value} {ah : Hp}
/-- a new object: its number is the length of the heap -/
theorem a_new (hC : Cx X cc nL own ret) {idx ci a N : Nat} {C : String} {T : u_T} {ty0 : Nat → FieldType} {fs : List Value} (hd : decode cc pc = .ok (.new idx, 3)) (hc : vwCl[ci]? = some (C, T, N)) (hw : Wr C T N ty0) (hcl : Cond.classLink own idx C ∈ TT) (hinst : Cond.instantiable C N ∈ TT) (hini : Cond.initialized C ∈ TT) (hfs : ∀ j, j < N → defaultValue (ty0 j) = vp_V fs j) (hmv : ∀ b sb, fs.map (mv b sb) = fs) (hcells : k + 1 ≤ X.ro.cells) (hslots : n + N ≤ X.ro.slots) (ha : ah.length = a) {ah' : Hp} (hah : ah ++ [.inr (ci, fs)] = ah')
    (kk : AW X nL (k + 1) (n + N) (pc + 3) lv (.ref a :: st) ah') : AW X nL k n pc lv st ah := by
  intro H locs ls hR hS hl
  obtain ⟨hx, hb, hml, hown, hts, hNw, hK, -⟩ := hC
  have hKn := hK.1 ci _ hc
  refine W.newcK (h := H.size) hx hb hown (hts _ hcl) (hts _ hinst) (hts _ hini) rfl hd hcells hslots hKn.2.1 rfl fun H1 kC hkC e1 z1 o1 => ?_
  have key := kk H1 locs ls (by
    rw [← hah]
    refine hR.push ?_ z1 o1
    show va_at X.dd vwCl (H.size, .inr (ci, fs.map (mv X.ba X.sb))) H1
    rw [hmv]
    exact ⟨_, hc, (u_born ty0 hts hw.1 hKn hkC e1 hw.2.1).to hfs⟩) ⟨Nat.le_trans hS.1 (by omega), fun x h1 h2 => (o1 x (Nat.lt_of_lt_of_le h1 hS.1)).trans (hS.2.1 x h1 h2), hS.2.2⟩ hl
  have e : X.ba + a = H.size := by rw [hR.1, ha]
  have key2 : W X.pg X.la X.en X.ro X.s0 X.mi X.ar X.be X.me X.co H1 locs (k + 1) (n + N) X.qq (F0 X.mi (pc + 3) ls (.ref (X.ba + a) :: st.map (mv X.ba X.sb))) := key
  rw [e] at key2
  exact key2
theorem ty_cls (hC : Cx X cc nL own ret) {cA : ClassId} {ty : FieldType} (ht : (cA, ty) ∈ X.ty) : ArrOfT X.s0 cA ty ∧ va_RA X.s0 cA ty := by
  obtain ⟨t0, ht0⟩ := List.getElem?_of_mem ht
  exact hC.2.2.2.2.2.2.1.2 t0 _ ht0
/-- a new array of ints or of booleans -/
theorem a_newI (hC : Cx X cc nL own ret) {a N : Nat} {cA : ClassId} {z : Int} {atype : ArrayType} {ty : FieldType} (hd : decode cc pc = .ok (.newarray atype, 2)) (hty : newarray.typeOf atype = ty) (hint : ty = .int ∨ ty = .boolean) (ht : (cA, ty) ∈ X.ty) (hA : Cond.arrayClass ty ∈ TT) (hz : z = N) (hN : N < 1000000) (hcells : k + 1 ≤ X.ro.cells) (hslots : n + N ≤ X.ro.slots) (ha : ah.length = a) {ah' : Hp} (hah : ah ++ [aI cA N (fun _ => 0)] = ah')
    (kk : AW X nL (k + 1) (n + N) (pc + 2) lv (.ref a :: st) ah') : AW X nL k n pc lv (vi z :: st) ah := by
  intro H locs ls hR hS hl
  subst hz
  subst hty
  have hx := hC.1
  have hb := hC.2.1
  have hts := hC.2.2.2.2.1
  refine va_newaK (n := iZ (N : Int)) (N := N) (h := H.size) (rest := st.map (mv X.ba X.sb)) hx hb (hts _ hA) rfl hd rfl (fun q => by have := (iZ_lt (x := (N : Int)) (y := 0) ⟨by omega, by omega⟩ inI_0).mp q; omega) (iZ_clN (by omega)) (by rcases hint with h | h <;> rw [h] <;> simp [componentBytes] <;> omega) hcells hslots rfl fun H1 cB e1 z1 o1 hAr hNm => ?_
  have hcA : cB = cA := by
    have h2 := (ty_cls hC ht).2
    have h3 : X.s0.vm.findClass ("[" ++ (newarray.typeOf atype).toString) = some cA := by rcases hint with h | h <;> rw [h] at h2 ⊢ <;> exact h2
    exact Option.some.inj (hNm.symm.trans h3)
  subst hcA
  have key := kk H1 locs ls (by
    rw [← hah]
    refine hR.push ?_ z1 o1
    show H1[H.size]? = some (vp_cell cB (N, .inl (fun _ => iZ 0)))
    rw [e1, vp_cell_i]
    rcases hint with h | h <;> rw [h] <;> rfl) ⟨Nat.le_trans hS.1 (by omega), fun x h1 h2 => (o1 x (Nat.lt_of_lt_of_le h1 hS.1)).trans (hS.2.1 x h1 h2), hS.2.2⟩ hl
  have e : X.ba + a = H.size := by rw [hR.1, ha]
  have key2 : W X.pg X.la X.en X.ro X.s0 X.mi X.ar X.be X.me X.co H1 locs (k + 1) (n + N) X.qq (F0 X.mi (pc + 2) ls (.ref (X.ba + a) :: st.map (mv X.ba X.sb))) := key
  rw [e] at key2
  exact key2
/-- a new array of longs -/
theorem a_newL (hC : Cx X cc nL own ret) {a N : Nat} {cA : ClassId} {z : Int} {atype : ArrayType} (hd : decode cc pc = .ok (.newarray atype, 2)) (hty : newarray.typeOf atype = .long) (ht : (cA, FieldType.long) ∈ X.ty) (hA : Cond.arrayClass .long ∈ TT) (hz : z = N) (hN : N < 1000000) (hcells : k + 1 ≤ X.ro.cells) (hslots : n + N ≤ X.ro.slots) (ha : ah.length = a) {ah' : Hp} (hah : ah ++ [aL cA N (fun _ => 0)] = ah')
    (kk : AW X nL (k + 1) (n + N) (pc + 2) lv (.ref a :: st) ah') : AW X nL k n pc lv (vi z :: st) ah := by
  intro H locs ls hR hS hl
  subst hz
  have hx := hC.1
  have hb := hC.2.1
  have hts := hC.2.2.2.2.1
  refine va_newaK (n := iZ (N : Int)) (N := N) (h := H.size) (rest := st.map (mv X.ba X.sb)) hx hb (by rw [hty]; exact hts _ hA) rfl hd rfl (fun q => by have := (iZ_lt (x := (N : Int)) (y := 0) ⟨by omega, by omega⟩ inI_0).mp q; omega) (iZ_clN (by omega)) (by rw [hty]; simp [componentBytes]; omega) hcells hslots rfl fun H1 cB e1 z1 o1 hAr hNm => ?_
  have hcA : cB = cA := by
    have h2 : X.s0.vm.findClass ("[" ++ (FieldType.long).toString) = some cA := (ty_cls hC ht).2
    rw [hty] at hNm
    exact Option.some.inj (hNm.symm.trans h2)
  subst hcA
  have key := kk H1 locs ls (by
    rw [← hah]
    refine hR.push ?_ z1 o1
    show H1[H.size]? = some (vp_cell cB (N, .inr (.inl (fun _ => lZ 0))))
    rw [e1, vp_cell_l, hty]
    rfl) ⟨Nat.le_trans hS.1 (by omega), fun x h1 h2 => (o1 x (Nat.lt_of_lt_of_le h1 hS.1)).trans (hS.2.1 x h1 h2), hS.2.2⟩ hl
  have e : X.ba + a = H.size := by rw [hR.1, ha]
  have key2 : W X.pg X.la X.en X.ro X.s0 X.mi X.ar X.be X.me X.co H1 locs (k + 1) (n + N) X.qq (F0 X.mi (pc + 2) ls (.ref (X.ba + a) :: st.map (mv X.ba X.sb))) := key
  rw [e] at key2
  exact key2
/-- Object's constructor -/
theorem a_objInit (hC : Cx X cc nL own ret) {idx i : Nat} (hd : decode cc pc = .ok (.invokespecial idx, 3)) (hlk : Cond.methodLink own idx Lib.objectInit ∈ TT) (hi : Cond.instanceMethod Lib.objectInit ∈ TT) (hcode : Cond.code Lib.objectInit ⟨#[0xb1]⟩ 1 none ∈ TT) (hf : 1 ≤ X.ro.frames) (hlo : 20 ≤ X.ro.locals) (hcat : (st.map fun v => v.category).sum ≤ 8)
    (kk : AW X nL k n (pc + 3) lv st ah) : AW X nL k n pc lv (.ref i :: st) ah := by
  intro H locs ls hR hS hl
  have hts := hC.2.2.2.2.1
  exact W.objInit (a := X.ba + i) (rest := st.map (mv X.ba X.sb)) hC.1 hC.2.1 hC.2.2.2.1 (hts _ hlk) (hts _ hi) (hts _ hcode) rfl (by show ls.size = _; rw [hl.1, hC.2.2.1]) rfl hd hf (by have := room_ok (m := X.mi) (pc := pc) (ls := ls) (b := X.ba) (sb := X.sb) (st1 := ((Value.ref i :: st).map (mv X.ba X.sb))) hcat; omega) (kk H locs ls hR hS hl)
theorem a_alenI (hC : Cx X cc nL own ret) (hd : decode cc pc = .ok (.arraylength, 1)) {a N : Nat} {cA : ClassId} {ty : FieldType} {f : Nat → Int} (ht : (cA, ty) ∈ X.ty) (he : ah[a]? = some (aI cA N f)) (kk : AW X nL k n (pc + 1) lv (vi (N : Int) :: st) ah) : AW X nL k n pc lv (.ref a :: st) ah := by
  intro H locs ls hR hS hl
  obtain ⟨t0, ht0⟩ := List.getElem?_of_mem ht
  exact va_alen (a := X.ba + a) (cA := cA) (x := (N, .inl (fun j => iZ (f j)))) hC.1 hC.2.1 hC.2.2.2.2.2.2.1 (hR.one he) 0 t0 rfl ht0 (v := iZ (N : Int)) (by show Int32.ofNat N = Int32.ofInt (N : Int); exact (Int32.ofInt_eq_ofNat).symm) hd (kk H locs ls hR hS hl)
theorem a_alenL (hC : Cx X cc nL own ret) (hd : decode cc pc = .ok (.arraylength, 1)) {a N : Nat} {cA : ClassId} {ty : FieldType} {f : Nat → Int} (ht : (cA, ty) ∈ X.ty) (he : ah[a]? = some (aL cA N f)) (kk : AW X nL k n (pc + 1) lv (vi (N : Int) :: st) ah) : AW X nL k n pc lv (.ref a :: st) ah := by
  intro H locs ls hR hS hl
  obtain ⟨t0, ht0⟩ := List.getElem?_of_mem ht
  exact va_alen (a := X.ba + a) (cA := cA) (x := (N, .inr (.inl (fun j => lZ (f j))))) hC.1 hC.2.1 hC.2.2.2.2.2.2.1 (hR.one he) 0 t0 rfl ht0 (v := iZ (N : Int)) (by show Int32.ofNat N = Int32.ofInt (N : Int); exact (Int32.ofInt_eq_ofNat).symm) hd (kk H locs ls hR hS hl)
theorem a_ldc2 (hC : Cx X cc nL own ret) {idx : Nat} {z : Int} {v : Int64} (hd : decode cc pc = .ok (.ldc2_w idx, 3)) (hc : Cond.constantLong own idx v ∈ TT) (hv : v = lZ z) (kk : AW X nL k n (pc + 3) lv (vl z :: st) ah) : AW X nL k n pc lv st ah := by
  intro H locs ls hR hS hl
  subst hv
  exact lv_ldc2 (rest := st.map (mv X.ba X.sb)) hC.1 hC.2.1 hC.2.2.2.1 (hC.2.2.2.2.1 _ hc) hd (kk H locs ls hR hS hl)
theorem a_ldcw (hC : Cx X cc nL own ret) {idx : Nat} {z : Int} {v : Int32} (hd : decode cc pc = .ok (.ldc_w idx, 3)) (hc : Cond.constant own idx v ∈ TT) (hv : v = iZ z) (kk : AW X nL k n (pc + 3) lv (vi z :: st) ah) : AW X nL k n pc lv st ah := by
  intro H locs ls hR hS hl
  subst hv
  exact lv_ldcw (rest := st.map (mv X.ba X.sb)) hC.1 hC.2.1 hC.2.2.2.1 (hC.2.2.2.2.1 _ hc) hd (kk H locs ls hR hS hl)
theorem a_iushr (hC : Cx X cc nL own ret) {x y z : Int} (hd : decode cc pc = .ok (.iushr, 1)) (hz : ((iZ x).toUInt32 >>> ((iZ y).toUInt32 &&& Int32.toUInt32 31)).toInt32 = iZ z) (kk : AW X nL k n (pc + 1) lv (vi z :: st) ah) : AW X nL k n pc lv (vi y :: vi x :: st) ah := fun H locs ls hR hS hl => lv_iushr (x := iZ x) (y := iZ y) (v := iZ z) (rest := st.map (mv X.ba X.sb)) hC.1 hC.2.1 hd hz (kk H locs ls hR hS hl)
theorem a_tabOut (hC : Cx X cc nL own ret) {dflt lo hi : Int} {offs : Array Int} {len : Nat} (tgt : Nat) {x : Int} (hx : inI x) (hd : decode cc pc = .ok (.tableswitch dflt lo hi offs, len)) (h : x < lo ∨ hi < x) (ht : (pc : Int) + dflt = (tgt : Int)) (kk : AW X nL k n tgt lv st ah) : AW X nL k n pc lv (vi x :: st) ah := fun H locs ls hR hS hl => lv_tableOut (x := iZ x) (rest := st.map (mv X.ba X.sb)) hC.1 hC.2.1 hd (by rw [iZ_toInt hx]; exact h) ht (kk H locs ls hR hS hl)
theorem a_tabIn (hC : Cx X cc nL own ret) {dflt lo hi : Int} {offs : Array Int} {len : Nat} {off : Int} (tgt : Nat) {x : Int} (hx : inI x) (hd : decode cc pc = .ok (.tableswitch dflt lo hi offs, len)) (h1 : ¬ x < lo) (h2 : ¬ hi < x) (ho : offs[(x - lo).toNat]? = some off) (ht : (pc : Int) + off = (tgt : Int)) (kk : AW X nL k n tgt lv st ah) : AW X nL k n pc lv (vi x :: st) ah := fun H locs ls hR hS hl => lv_tableIn (x := iZ x) (rest := st.map (mv X.ba X.sb)) hC.1 hC.2.1 hd (by rw [iZ_toInt hx]; exact h1) (by rw [iZ_toInt hx]; exact h2) (by rw [iZ_toInt hx]; exact ho) ht (kk H locs ls hR hS hl)
/-- the law's script -/
theorem a_sald (hC : Cx X cc nL own ret) {L j : Nat} {xs : Nat → Int32} (hX : va_X X.sb L xs X.s0 X.s0.heap) (hb : X.sb < X.ba) (hb0 : X.ba ≤ X.s0.heap.size) (hd : decode cc pc = .ok (.iaload, 1)) (hj : j < L) (hL : L < 2147483648) (kk : AW X nL k n (pc + 1) lv (vi (xs j).toInt :: st) ah) : AW X nL k n pc lv (vi j :: .float 0 :: st) ah := by
  intro H locs ls hR hS hl
  refine va_sld (b := X.sb) (A := fun q => X.ba ≤ q) hC.1 hC.2.1 hX (Nat.lt_of_lt_of_le hb hb0) (Nat.not_le.mpr hb) hS (iZ_inN hj hL) hd ?_
  have key := kk H locs ls hR hS hl
  rw [iZ_clN (by omega)]
  have e : iZ (xs j).toInt = xs j := Int32.ofInt_toInt _
  have key2 : W X.pg X.la X.en X.ro X.s0 X.mi X.ar X.be X.me X.co H locs k n X.qq (F0 X.mi (pc + 1) ls (.int (iZ (xs j).toInt) :: st.map (mv X.ba X.sb))) := key
  rw [e] at key2
  exact key2
theorem a_slen (hC : Cx X cc nL own ret) {L : Nat} {xs : Nat → Int32} (hX : va_X X.sb L xs X.s0 X.s0.heap) (hb : X.sb < X.ba) (hb0 : X.ba ≤ X.s0.heap.size) (hd : decode cc pc = .ok (.arraylength, 1)) (kk : AW X nL k n (pc + 1) lv (vi (L : Int) :: st) ah) : AW X nL k n pc lv (.float 0 :: st) ah := by
  intro H locs ls hR hS hl
  refine va_slen (b := X.sb) (A := fun q => X.ba ≤ q) hC.1 hC.2.1 hX (Nat.lt_of_lt_of_le hb hb0) (Nat.not_le.mpr hb) hS hd ?_
  have key : W X.pg X.la X.en X.ro X.s0 X.mi X.ar X.be X.me X.co H locs k n X.qq (F0 X.mi (pc + 1) ls (.int (Int32.ofInt (L : Int)) :: st.map (mv X.ba X.sb))) := kk H locs ls hR hS hl
  rw [Int32.ofInt_eq_ofNat] at key
  exact key
end ROWS2
