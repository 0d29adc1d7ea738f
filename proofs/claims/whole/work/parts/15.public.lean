/-! PlanValues: its public methods -/
def bpS (G : GT) (N : Nat) : Nat → Int
  | 0 => 1
  | s + 1 => bpS G N s * maxZ 1 (bcZ (bbS G N s (G 3 s).toNat).toNat)
theorem bcZ_in (x : Nat) : 0 ≤ bcZ x ∧ bcZ x ≤ 3 := by unfold bcZ; omega
/-- the class's own state: N states, the told and the value plan -/
def VV (G : GT) (N : Nat) : Prop := WW G N ∧ PlOk G 47 N ∧ PlOk G 48 N
theorem abs_in {x A : Int} (h : -A ≤ x ∧ x ≤ A) (hA : A ≤ 9223372036854775807) : inL x ∧ inL (absZ x) := by
  unfold inL absZ
  constructor
  · omega
  · split <;> omega
def stZ (G : GT) (N : Nat) (_ : Int) : Int := if (5 : Int) ≤ N then -4 else (N : Int)

set_option maxRecDepth 100000 in
set_option maxHeartbeats 4000000 in
theorem ct_V_countBestPlans (l : Launch) (D : va_G) (K : K5) (G : GT) (N : Nat) (hm0 : MathOk) (hv : VV G N) : Ct l D K y_V_countBestPlans c_V_countBestPlans 3 (some .int) 6 150 [.ref 0] G (some (vi (bpS (fvG G 48 N) N N))) (fvG G 48 N) := by
  refine Ct.intro (by decide +kernel) (Nat.le_of_ble_eq_true rfl) ?_
  intro X hro hty hC hE
  obtain ⟨hw, hp47, hp48⟩ := id hv
  obtain ⟨hn, hN5, hsh, hac, hpa, hwe, hth⟩ := id hw
  have hf := FolSt.fvG hm0 hw hp48
  have hbo := BstOk.of hf.1 hf.2.2.1 hf.2.2.2
  refine a_aload_n (pc := 0) (q := 0) (i := 0) (x := 0) hC (by decide +kernel) rfl 0 rfl ?_
  refine g_get (pc := 1) (idx := 19) (ci := 5) (v := .ref 22) hC 0 1 (by decide +kernel) rfl rfl rfl rfl wrV (by decide) rfl (by decide +kernel) ?_
  refine a_aload_n (pc := 4) (q := 0) (i := 0) (x := 0) hC (by decide +kernel) rfl 0 rfl ?_
  refine g_get (pc := 5) (idx := 10) (ci := 5) (v := .ref 1) hC 0 0 (by decide +kernel) rfl rfl rfl rfl wrV (by decide) rfl (by decide +kernel) ?_
  refine a_aload_n (pc := 8) (q := 0) (i := 0) (x := 0) hC (by decide +kernel) rfl 0 rfl ?_
  refine g_get (pc := 9) (idx := 45) (ci := 5) (v := .ref 48) hC 0 6 (by decide +kernel) rfl rfl rfl rfl wrV (by decide) rfl (by decide +kernel) ?_
  refine g_callVN0 (pc := 12) (idx := 112) (i := 22) (av := [.ref 1, .ref 48]) (rest := []) (g := fvG G 48 N) (host := "PlanValues") hC hro hty (by decide +kernel) rfl rfl k_P_findValues (by decide +kernel) (by decide +kernel) (by decide +kernel) (ct_P_findValues X.la X.dd K G 48 N hm0 hw hp48) rfl rfl (by decide) (by first | decide | simp [Value.category]) ?_
  refine a_iconst (pc := 15) (c := 1) hC (by decide +kernel) ?_
  refine a_istore_n (pc := 16) (q := 1) (i := 1) (lv' := [(1, vi 1), (0, .ref 0)]) hC (by decide +kernel) rfl (by decide) rfl ?_
  refine a_iconst (pc := 17) (c := 0) hC (by decide +kernel) ?_
  refine a_istore_n (pc := 18) (q := 2) (i := 2) (lv' := [(2, vi 0), (1, vi 1), (0, .ref 0)]) hC (by decide +kernel) rfl (by decide) rfl ?_
  have L19 : ∀ (fuel : Nat) (s : Nat), N - s < fuel → s ≤ N → AW X 3 0 0 19 [(2, vi ((s : Int))), (1, vi (bpS (fvG G 48 N) N s)), (0, .ref 0)] [] (hp K (fvG G 48 N)) := by
    intro fuel
    induction fuel with
    | zero => intro s h; exact absurd h (Nat.not_lt_zero _)
    | succ fuel ih19 =>
      intro s hm hs
      have hfn := hf.1.1
      refine a_iload_n (pc := 19) (q := 2) (i := 2) (x := (s : Int)) hC (by decide +kernel) rfl 0 rfl ?_
      refine a_aload_n (pc := 20) (q := 0) (i := 0) (x := 0) hC (by decide +kernel) rfl 2 rfl ?_
      refine g_get (pc := 21) (idx := 10) (ci := 5) (v := .ref 1) hC 0 0 (by decide +kernel) rfl rfl rfl rfl wrV (by decide) rfl (by decide +kernel) ?_
      refine g_getN (pc := 24) (idx := 67) (ci := 4) (v := vi ((fvG G 48 N) 1 0)) (host := "PlanValues") hC 1 0 (by decide +kernel) rfl rfl rfl rfl wrW (by decide) rfl (by decide +kernel) ?_
      refine a_icmp_ge (pc := 27) (off := 24) hC 51 (by decide +kernel) (by decide) (by unfold inI; omega) (by unfold inI; omega) (fun c27 => ?_) (fun c27 => ?_)
      · skip
        refine a_iload_n (pc := 51) (q := 1) (i := 1) (x := bpS (fvG G 48 N) N s) hC (by decide +kernel) rfl 1 rfl ?_
        exact g_iret (pc := 52) hC hE (by decide +kernel) (by rw [show s = N by omega]) rfl
      · skip
        obtain ⟨A, hA⟩ : ∃ A : Nat, fvG G 48 N 3 s = (A : Int) := ⟨(fvG G 48 N 3 s).toNat, by have := hf.1.2.2.2.1 s (by omega); omega⟩
        have hA3 := hf.1.2.2.2.1 s (by omega)
        have hbi := bbS_in (fvG G 48 N) N s A (by omega)
        obtain ⟨z, hz, hz8⟩ : ∃ z : Nat, bbS (fvG G 48 N) N s A = (z : Int) ∧ z < 8 := ⟨(bbS (fvG G 48 N) N s A).toNat, by omega, by
          have h8 : (2 : Nat) ^ A ≤ 2 ^ 3 := Nat.pow_le_pow_right (by decide) (by omega)
          have : (2 : Nat) ^ 3 = 8 := rfl
          omega⟩
        have hbc := bcZ_in z
        have hst : bpS (fvG G 48 N) N s * maxZ 1 (bcZ z) = bpS (fvG G 48 N) N (s + 1) := by
          show _ = bpS _ _ _ * _; rw [hA, Int.toNat_natCast, hz, Int.toNat_natCast]
        refine a_iload_n (pc := 30) (q := 1) (i := 1) (x := bpS (fvG G 48 N) N s) hC (by decide +kernel) rfl 1 rfl ?_
        refine a_iconst (pc := 31) (c := 1) hC (by decide +kernel) ?_
        refine a_aload_n (pc := 32) (q := 0) (i := 0) (x := 0) hC (by decide +kernel) rfl 2 rfl ?_
        refine a_iload_n (pc := 33) (q := 2) (i := 2) (x := (s : Int)) hC (by decide +kernel) rfl 0 rfl ?_
        refine g_callV (pc := 34) (idx := 137) (i := 0) (av := [vi ((s : Int))]) (rest := [vi 1, vi (bpS (fvG G 48 N) N s)]) (g := fvG G 48 N) (v := vi (bbS (fvG G 48 N) N s A)) hC hro hty (by decide +kernel) rfl rfl k_V_bestBits (by decide +kernel) (by decide +kernel) (by decide +kernel) (ct_V_bestBits X.la X.dd K (fvG G 48 N) N s A (by omega) hA hf.1 hbo) rfl rfl (by decide) (by first | decide | simp [Value.category]) ?_
        refine g_top (y := (z : Int)) hz ?_
        refine g_callS (pc := 37) (idx := 207) (av := [vi ((z : Int))]) (rest := [vi 1, vi (bpS (fvG G 48 N) N s)]) (g := fvG G 48 N) (v := vi (bcZ z)) hC hro hty (by decide +kernel) k_JI_bitCount (by decide +kernel) (by decide +kernel) (ct_JI_bitCount X.la X.dd K (fvG G 48 N) z (by omega)) rfl rfl (by decide) (by first | decide | simp [Value.category]) ?_
        refine g_callS (pc := 40) (idx := 205) (av := [vi 1, vi (bcZ z)]) (rest := [vi (bpS (fvG G 48 N) N s)]) (g := fvG G 48 N) (v := vi (maxZ 1 (bcZ z))) hC hro hty (by decide +kernel) k_JM_max_II (by decide +kernel) (by decide +kernel) (ct_JM_max_II X.la X.dd K (fvG G 48 N) 1 (bcZ z) (by unfold inI; omega) (by unfold inI; omega)) rfl rfl (by decide) (by first | decide | simp [Value.category]) ?_
        refine a_imul (pc := 43) hC (by decide +kernel) ?_
        refine a_istore_n (pc := 44) (q := 1) (i := 1) (lv' := [(1, vi ((bpS (fvG G 48 N) N s) * (maxZ 1 (bcZ z)))), (2, vi ((s : Int))), (0, .ref 0)]) hC (by decide +kernel) rfl (by decide) rfl ?_
        refine a_iinc (pc := 45) (i := 2) (c := 1) (x := (s : Int)) (lv' := [(2, vi (((s : Int)) + 1)), (1, vi ((bpS (fvG G 48 N) N s) * (maxZ 1 (bcZ z)))), (0, .ref 0)]) hC (by decide +kernel) 1 rfl (by decide) rfl ?_
        refine a_goto (pc := 48) (off := -29) hC 19 (by decide +kernel) (by decide) ?_
        refine a_sub (lv' := [(2, vi (((s + 1) : Int))), (1, vi (bpS (fvG G 48 N) N (s + 1))), (0, .ref 0)]) [0, 1, 2] (by rw [← hst]; rfl) ?_
        exact ih19 (s + 1) (by omega) (by omega)
  refine a_sub (lv' := [(2, vi ((0 : Int))), (1, vi (bpS (fvG G 48 N) N 0)), (0, .ref 0)]) [0, 1, 2] rfl ?_
  exact L19 _ 0 (Nat.lt_succ_self _) (by omega)
