/-! System.arraycopy from the beginning of one array to that of another; Integer.bitCount -/
section COPY
variable {X : Xt} {cc : ByteArray} {nL k n pc : Nat} {own : String} {ret : Option FieldType} {lv : List (Nat × Value)} {st : List Value} {ah : Hp}
def cpy (f g : Nat → Int) (M : Nat) : Nat → Int := fun j => if j < M then f j else g j
theorem cpy_i (f g : Nat → Int) (M : Nat) : (fun j => iZ (cpy f g M j)) = va_cpy (fun j => iZ (f j)) (fun j => iZ (g j)) 0 0 M := by
  funext j; unfold cpy va_cpy
  by_cases h : j < M
  · rw [if_pos h, if_pos ⟨Nat.zero_le _, by omega⟩]; simp
  · rw [if_neg h, if_neg (by omega)]
theorem cpy_l (f g : Nat → Int) (M : Nat) : (fun j => lZ (cpy f g M j)) = va_cpy (fun j => lZ (f j)) (fun j => lZ (g j)) 0 0 M := by
  funext j; unfold cpy va_cpy
  by_cases h : j < M
  · rw [if_pos h, if_pos ⟨Nat.zero_le _, by omega⟩]; simp
  · rw [if_neg h, if_neg (by omega)]
theorem iZ_nn {M : Nat} (h : M < 2147483648) : ¬ iZ (M : Int) < 0 := fun q => by
  have := (iZ_lt (x := (M : Int)) (y := 0) ⟨by omega, by omega⟩ inI_0).mp q; omega
/-- what a copy needs of the two arrays, whatever they hold -/
theorem a_copy (hC : Cx X cc nL own ret) {idx a0 a1 N0 N1 M : Nat} {cA : ClassId} {ty : FieldType} (x0 x1 x2 : vp_A) (hx0 : x0.1 = N0) (hx1 : x1.1 = N1) (mk : Nat → Value) (hd : decode cc pc = .ok (.invokestatic idx, 3)) (hlk : Cond.methodLink own idx arraycopyName ∈ TT) (hnat : Cond.native arraycopyName ∈ TT) (hstat : Cond.static arraycopyName ∈ TT) (hini : Cond.initialized "java/lang/System" ∈ TT) (ht : (cA, ty) ∈ X.ty) (hprim : refKind ty = false) (hm0 : ∀ b, ma b x0 = x0) (hm1 : ∀ b, ma b x1 = x1) (hm2 : ∀ b, ma b x2 = x2)
    (hc0 : ∀ c, (vp_cell c x0).cls = c ∧ (vp_cell c x0).vm = .none ∧ (vp_cell c x0).slots.size = N0) (hc1 : ∀ c, (vp_cell c x1).cls = c ∧ (vp_cell c x1).vm = .none ∧ (vp_cell c x1).slots.size = N1)
    (hval : ∀ c i, i < M → (vp_cell c x0).slots.getD (0 + i) .null = mk i) (hfit : ∀ i, i < M → fits ty (mk i) = true) (href : ∀ i, i < M → ∀ a, mk i ≠ .ref a)
    (hcopy : ∀ c, copied (vp_cell c x0) (vp_cell c x1) 0 0 (iZ (M : Int)) = vp_cell c x2)
    (he0 : ah[a0]? = some (.inl (cA, x0))) (he1 : ah[a1]? = some (.inl (cA, x1))) (hM0 : M ≤ N0) (hM1 : M ≤ N1) (hM : M < 2147483648) (hfr : 1 ≤ X.ro.frames) (hlo : 60 ≤ X.ro.locals) (hcat : (st.map fun v => v.category).sum ≤ 8) {ah' : Hp} (hah : ah.set a1 (.inl (cA, x2)) = ah') {z : Int} (hz : z = (M : Int))
    (kk : AW X nL k n (pc + 3) lv st ah') : AW X nL k n pc lv (vi z :: vi 0 :: .ref a1 :: vi 0 :: .ref a0 :: st) ah := by
  subst hz
  intro H locs ls hR hS hl T hT Xs
  have hts := hC.2.2.2.2.1
  have g0 : H[X.ba + a0]? = some (vp_cell cA x0) := by have := hR.at he0; rw [show me X.ba X.sb (.inl (cA, x0)) = .inl (cA, ma X.ba x0) from rfl, hm0] at this; exact this
  have g1 : H[X.ba + a1]? = some (vp_cell cA x1) := by have := hR.at he1; rw [show me X.ba X.sb (.inl (cA, x1)) = .inl (cA, ma X.ba x1) from rfl, hm1] at this; exact this
  obtain ⟨-, k0, hk0, cm0, hkk0⟩ := (ty_cls hC ht).1 0 (fun _ => .null)
  obtain ⟨vm', X', step⟩ := Xs.arraycopy hC.1 hC.2.2.2.1 (hts _ hlk) (hts _ hnat) (hts _ hstat) (hts _ hini) (src := X.ba + a0) (dst := X.ba + a1) (cs := vp_cell cA x0) (cd := vp_cell cA x1) (srcPos := 0) (destPos := 0) (n := iZ (M : Int)) (by rw [hT]; exact g0) (by rw [hT]; exact g1)
    (fun _ h => by rw [(hc0 cA).2.1] at h; cases h) (fun _ h => by rw [(hc1 cA).2.1] at h; cases h) (fun h => by rw [(hc0 cA).2.1] at h; cases h) (fun h => by rw [(hc1 cA).2.1] at h; cases h) (by rw [(hc0 cA).1]; exact hk0) (by rw [(hc1 cA).1]; exact hk0) hkk0 hkk0 (by simp [hprim]) (by decide) (by decide) (iZ_nn hM)
    (by rw [iZ_toInt ⟨by omega, by omega⟩, (hc0 cA).2.2]; show ¬ (0 : Int) + _ > _; omega)
    (by rw [iZ_toInt ⟨by omega, by omega⟩, (hc1 cA).2.2]; show ¬ (0 : Int) + _ > _; omega)
    (fun vm₁ _ i hi => by
      rw [iZ_clN hM] at hi
      have e := hval cA i hi
      refine ⟨?_, ?_⟩
      · rw [show (0 : Int32).toNatClampNeg + i = 0 + i from rfl, e]; exact hfit i hi
      · rw [show (0 : Int32).toNatClampNeg + i = 0 + i from rfl, e]
        have := href i hi
        cases hv : mk i with
        | ref a => exact absurd hv (this a)
        | _ => exact trivial)
    (g := F0 X.mi pc ls ((vi (M : Int) :: vi 0 :: .ref a1 :: vi 0 :: .ref a0 :: st).map (mv X.ba X.sb))) rfl (by show ls.size = _; rw [hl.1, hC.2.2.1]) (rest := st.map (mv X.ba X.sb)) rfl (by rw [hC.2.1]; exact hd) hfr (by
      have := room_ok (m := X.mi) (pc := pc) (ls := ls) (b := X.ba) (sb := X.sb) (st1 := ((vi (M : Int) :: vi 0 :: .ref a1 :: vi 0 :: .ref a0 :: st).map (mv X.ba X.sb))) hcat
      have h2 : nativeFrameWords "java/lang/System" "arraycopy" 5 + 11 ≤ 52 := by decide +kernel
      omega)
  rw [hcopy] at X' step
  have hlt : X.ba + a1 < H.size := (Array.getElem?_eq_some_iff.mp g1).1
  have hheap : ((T.setVm vm').setCell (X.ba + a1) (vp_cell cA x2)).heap = H.setIfInBounds (X.ba + a1) (vp_cell cA x2) := by rw [← hT]; rfl
  have oq : ∀ q : Nat, q ≠ X.ba + a1 → (H.setIfInBounds (X.ba + a1) (vp_cell cA x2))[q]? = H[q]? := fun q hq => by simp [Array.getElem?_setIfInBounds, Ne.symm hq]
  have hR' : Rl X.dd vwCl X.ba X.sb ah' (H.setIfInBounds (X.ba + a1) (vp_cell cA x2)) := by
    rw [← hah]
    refine hR.set ?_ (by simp) oq
    show (H.setIfInBounds (X.ba + a1) (vp_cell cA x2))[X.ba + a1]? = some (vp_cell cA (ma X.ba x2))
    rw [hm2]
    simp [Array.getElem?_setIfInBounds, hlt]
  obtain ⟨t, b1, b2⟩ := kk _ _ ls hR' ⟨by simp; exact hS.1, fun q h1 h2 => by
      rw [oq q (fun e => h2 (by show X.ba ≤ q; omega))]
      exact hS.2.1 q h1 h2, fun q hq => by
      rcases List.mem_append.mp hq with h | h
      · exact hS.2.2 q h
      · obtain ⟨z, -, hz⟩ := List.mem_map.mp h
        rw [← hz]
        exact Nat.le_add_right _ _⟩ hl _ hheap X'
  exact ⟨t, step t b1, b2⟩
end COPY
