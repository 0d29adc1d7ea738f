/-! arrays of arrays, seen by numbers -/
theorem ouC_cell (o : ClassId) (N b a : Nat) : ouC o N (b + a) N = vp_cell o (N, .inr (.inr (.inr (.inr (fun j => (if j < N then some (a + 1 + j) else none : Option Nat).map (fun x => b + x)))))) := by
  rw [vp_cell_q]
  unfold ouC arrV
  congr 1
  refine Array.ext_getElem? (fun j => ?_)
  by_cases q : j < N
  · simp [q, va_rf, Nat.add_assoc]
  · simp [q]
section MANC
variable {X : Xt} {cc : ByteArray} {nL k n pc : Nat} {own : String} {ret : Option FieldType} {lv : List (Nat × Value)} {st : List Value} {ah : Hp}
theorem a_mana (hC : Cx X cc nL own ret) {idx a N M : Nat} {cO cR : ClassId} {ty : FieldType} {z w : Int} {row : va_E} (hd : decode cc pc = .ok (.multianewarray idx 2, 4)) (hcl : Cond.classLink own idx ("[" ++ (FieldType.array ty).toString) ∈ TT) (hov : Cond.arrayOver (.array ty) ∈ NN) (hA : Cond.arrayClass ty ∈ TT) (htO : (cO, FieldType.array ty) ∈ X.ty) (htR : (cR, ty) ∈ X.ty) (hrow : (ty = .int ∧ row = aI cR M (fun _ => 0)) ∨ (ty = .long ∧ row = aL cR M (fun _ => 0))) (hz : z = N) (hw : w = M) (hN : N ≤ 1000) (hM : M ≤ 1000) (hcells : k + (1 + N) ≤ X.ro.cells) (hslots : n + (N + N * M) ≤ X.ro.slots) (ha : ah.length = a) {ah' : Hp} (hah : ah ++ (aQ cO N (fun j => if j < N then some (a + 1 + j) else none) :: List.replicate N row) = ah')
    (kk : AW X nL (k + 1 + N) (n + N + N * M) (pc + 4) lv (.ref a :: st) ah') : AW X nL k n pc lv (vi w :: vi z :: st) ah := by
  intro H locs ls hR hS hl
  subst hz
  subst hw
  have hts := hC.2.2.2.2.1
  have eH : H.size = X.ba + a := by rw [hR.1, ha]
  have hcb : componentBytes ty ≤ 8 ∧ fits ty (defaultValue ty) = true ∧ (defaultValue ty).isDefault = true := by
    rcases hrow with h | h <;> rw [h.1] <;> exact ⟨by decide, rfl, rfl⟩
  refine w_rows (H := H) (n := iZ (N : Int)) (k := iZ (M : Int)) (N := N) (M := M) (rest := st.map (mv X.ba X.sb)) hC.1 hC.2.1 hC.2.2.2.1 (hts _ hcl) (hC.2.2.2.2.2.1 _ hov) (hts _ hA) rfl hd rfl (fun q => by have := (iZ_lt (x := (N : Int)) (y := 0) ⟨by omega, by omega⟩ inI_0).mp q; omega) (fun q => by have := (iZ_lt (x := (M : Int)) (y := 0) ⟨by omega, by omega⟩ inI_0).mp q; omega) (iZ_clN (by omega)) (iZ_clN (by omega)) hN hM hcb.1 hcb.2.1 hcb.2.2 hcells hslots fun H' o r ho hr hsz h0 hj hq => ?_
  have eo : o = cO := by
    have h2 : X.s0.vm.findClass ("[" ++ (FieldType.array ty).toString) = some cO := (ty_cls hC htO).2
    exact Option.some.inj (ho.symm.trans h2)
  have er : r = cR := by
    have h2 := (ty_cls hC htR).2
    rcases hrow with h | h
    · rw [h.1] at hr h2
      have h3 : X.s0.vm.findClass "[I" = some cR := h2
      have h4 : X.s0.vm.findClass "[I" = some r := hr
      exact Option.some.inj (h4.symm.trans h3)
    · rw [h.1] at hr h2
      have h3 : X.s0.vm.findClass "[J" = some cR := h2
      have h4 : X.s0.vm.findClass "[J" = some r := hr
      exact Option.some.inj (h4.symm.trans h3)
  subst eo
  subst er
  have key := kk H' (locs ++ (List.range N).map fun j => ⟨H.size, j⟩) ls (by
    rw [← hah]
    refine ⟨?_, fun i e hi => ?_⟩
    · rw [hsz, eH, List.length_append, List.length_cons, List.length_replicate, ha]; omega
    · by_cases l1 : i < ah.length
      · rw [List.getElem?_append_left l1] at hi
        exact (hR.2 i e hi).kept (hq _ (by rw [eH]; show X.ba + i < X.ba + a; omega))
      · rw [List.getElem?_append_right (by omega)] at hi
        by_cases l2 : i = a
        · rw [l2, ha, Nat.sub_self] at hi
          cases hi
          show H'[X.ba + i]? = some (vp_cell o (N, .inr (.inr (.inr (.inr (fun j => (if j < N then some (a + 1 + j) else none : Option Nat).map (fun x => X.ba + x)))))))
          rw [← ouC_cell, l2, ← eH]; exact h0
        · obtain ⟨j, rfl⟩ : ∃ j, i = a + 1 + j := ⟨i - (a + 1), by omega⟩
          rw [show a + 1 + j - ah.length = j + 1 by omega, List.getElem?_cons_succ, List.getElem?_replicate] at hi
          split at hi
          · next hjN =>
            cases hi
            have h1 := hj j hjN
            rw [eH, Nat.add_assoc, Nat.add_assoc, ← Nat.add_assoc a] at h1
            rcases hrow with h | h
            · rw [h.2]
              show H'[X.ba + (a + 1 + j)]? = some (vp_cell r (M, .inl (fun _ => iZ 0)))
              rw [h1, vp_cell_i, h.1]
              unfold rwC
              rw [arrV_new]; rfl
            · rw [h.2]
              show H'[X.ba + (a + 1 + j)]? = some (vp_cell r (M, .inr (.inl (fun _ => lZ 0))))
              rw [h1, vp_cell_l, h.1]
              unfold rwC
              rw [arrV_new]; rfl
          · cases hi) ⟨Nat.le_trans hS.1 (by omega), fun x h1 h2 => (hq x (Nat.lt_of_lt_of_le h1 hS.1)).trans (hS.2.1 x h1 h2), fun q hq2 => by
      rcases List.mem_append.mp hq2 with h | h
      · exact hS.2.2 q h
      · obtain ⟨j, _, rfl⟩ := List.mem_map.mp h
        show X.ba ≤ H.size
        omega⟩ hl
  have key2 : W X.pg X.la X.en X.ro X.s0 X.mi X.ar X.be X.me X.co H' (locs ++ (List.range N).map fun j => ⟨H.size, j⟩) (k + 1 + N) (n + N + N * M) X.qq (F0 X.mi (pc + 4) ls (.ref (X.ba + a) :: st.map (mv X.ba X.sb))) := key
  rw [← eH] at key2
  exact key2
end MANC
