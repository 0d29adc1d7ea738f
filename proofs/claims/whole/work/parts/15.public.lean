/-! PlanValues: its public methods -/
def bpS (G : GT) (N : Nat) : Nat → Int
  | 0 => 1
  | s + 1 => bpS G N s * maxZ 1 (bcZ (bbS G N s (G 3 s).toNat).toNat)
theorem bcZ_in (x : Nat) : 0 ≤ bcZ x ∧ bcZ x ≤ 3 := by unfold bcZ; omega
/-- the class's own state: N states, the told and the value plan -/
def VV (G : GT) (N : Nat) : Prop := WW G N ∧ PlOk G 47 N ∧ PlOk G 48 N
theorem abs_in {x A : Int} (h : -A ≤ x ∧ x ≤ A) (hA : A ≤ 9223372036854775807) : inL x ∧ inL (absZ x) := by
  unfold inL absZ
  constructor
  · omega
  · split <;> omega
def stZ (G : GT) (N : Nat) (_ : Int) : Int := if (5 : Int) ≤ N then -4 else (N : Int)

set_option maxRecDepth 100000 in
set_option maxHeartbeats 4000000 in
theorem ct_V_countBestPlans (l : Launch) (D : va_G) (K : K5) (G : GT) (N : Nat) (hm0 : MathOk) (hv : VV G N) : Ct l D K y_V_countBestPlans c_V_countBestPlans 3 (some .int) 6 150 [.ref 0] G (some (vi (bpS (fvG G 48 N) N N))) (fvG G 48 N) := by
  refine Ct.intro (by decide +kernel) (Nat.le_of_ble_eq_true rfl) ?_
  intro X hro hty hC hE
  obtain ⟨hw, hp47, hp48⟩ := id hv
  obtain ⟨hn, hN5, hsh, hac, hpa, hwe, hth⟩ := id hw
  have hf := FolSt.fvG hm0 hw hp48
  have hbo := BstOk.of hf.1 hf.2.2.1 hf.2.2.2
  refine a_aload_n (pc := 0) (q := 0) (i := 0) (x := 0) hC (by decide +kernel) rfl 0 rfl ?_
  refine g_get (pc := 1) (idx := 19) (ci := 5) (v := .ref 22) hC 0 1 (by decide +kernel) rfl rfl rfl rfl wrV (by decide) rfl (by decide +kernel) ?_
  refine a_aload_n (pc := 4) (q := 0) (i := 0) (x := 0) hC (by decide +kernel) rfl 0 rfl ?_
  refine g_get (pc := 5) (idx := 10) (ci := 5) (v := .ref 1) hC 0 0 (by decide +kernel) rfl rfl rfl rfl wrV (by decide) rfl (by decide +kernel) ?_
  refine a_aload_n (pc := 8) (q := 0) (i := 0) (x := 0) hC (by decide +kernel) rfl 0 rfl ?_
  refine g_get (pc := 9) (idx := 45) (ci := 5) (v := .ref 48) hC 0 6 (by decide +kernel) rfl rfl rfl rfl wrV (by decide) rfl (by decide +kernel) ?_
  refine g_callVN0 (pc := 12) (idx := 112) (i := 22) (av := [.ref 1, .ref 48]) (rest := []) (g := fvG G 48 N) (host := "PlanValues") hC hro hty (by decide +kernel) rfl rfl k_P_findValues (by decide +kernel) (by decide +kernel) (by decide +kernel) (ct_P_findValues X.la X.dd K G 48 N hm0 hw hp48) rfl rfl (by decide) (by first | decide | simp [Value.category]) ?_
  refine a_iconst (pc := 15) (c := 1) hC (by decide +kernel) ?_
  refine a_istore_n (pc := 16) (q := 1) (i := 1) (lv' := [(1, vi 1), (0, .ref 0)]) hC (by decide +kernel) rfl (by decide) rfl ?_
  refine a_iconst (pc := 17) (c := 0) hC (by decide +kernel) ?_
  refine a_istore_n (pc := 18) (q := 2) (i := 2) (lv' := [(2, vi 0), (1, vi 1), (0, .ref 0)]) hC (by decide +kernel) rfl (by decide) rfl ?_
  have L19 : ∀ (fuel : Nat) (s : Nat), N - s < fuel → s ≤ N → AW X 3 0 0 19 [(2, vi ((s : Int))), (1, vi (bpS (fvG G 48 N) N s)), (0, .ref 0)] [] (hp K (fvG G 48 N)) := by
    intro fuel
    induction fuel with
    | zero => intro s h; exact absurd h (Nat.not_lt_zero _)
    | succ fuel ih19 =>
      intro s hm hs
      have hfn := hf.1.1
      refine a_iload_n (pc := 19) (q := 2) (i := 2) (x := (s : Int)) hC (by decide +kernel) rfl 0 rfl ?_
      refine a_aload_n (pc := 20) (q := 0) (i := 0) (x := 0) hC (by decide +kernel) rfl 2 rfl ?_
      refine g_get (pc := 21) (idx := 10) (ci := 5) (v := .ref 1) hC 0 0 (by decide +kernel) rfl rfl rfl rfl wrV (by decide) rfl (by decide +kernel) ?_
      refine g_getN (pc := 24) (idx := 67) (ci := 4) (v := vi ((fvG G 48 N) 1 0)) (host := "PlanValues") hC 1 0 (by decide +kernel) rfl rfl rfl rfl wrW (by decide) rfl (by decide +kernel) ?_
      refine a_icmp_ge (pc := 27) (off := 24) hC 51 (by decide +kernel) (by decide) (by unfold inI; omega) (by unfold inI; omega) (fun c27 => ?_) (fun c27 => ?_)
      · skip
        refine a_iload_n (pc := 51) (q := 1) (i := 1) (x := bpS (fvG G 48 N) N s) hC (by decide +kernel) rfl 1 rfl ?_
        exact g_iret (pc := 52) hC hE (by decide +kernel) (by rw [show s = N by omega]) rfl
      · skip
        obtain ⟨A, hA⟩ : ∃ A : Nat, fvG G 48 N 3 s = (A : Int) := ⟨(fvG G 48 N 3 s).toNat, by have := hf.1.2.2.2.1 s (by omega); omega⟩
        have hA3 := hf.1.2.2.2.1 s (by omega)
        have hbi := bbS_in (fvG G 48 N) N s A (by omega)
        obtain ⟨z, hz, hz8⟩ : ∃ z : Nat, bbS (fvG G 48 N) N s A = (z : Int) ∧ z < 8 := ⟨(bbS (fvG G 48 N) N s A).toNat, by omega, by
          have h8 : (2 : Nat) ^ A ≤ 2 ^ 3 := Nat.pow_le_pow_right (by decide) (by omega)
          have : (2 : Nat) ^ 3 = 8 := rfl
          omega⟩
        have hbc := bcZ_in z
        have hst : bpS (fvG G 48 N) N s * maxZ 1 (bcZ z) = bpS (fvG G 48 N) N (s + 1) := by
          show _ = bpS _ _ _ * _; rw [hA, Int.toNat_natCast, hz, Int.toNat_natCast]
        refine a_iload_n (pc := 30) (q := 1) (i := 1) (x := bpS (fvG G 48 N) N s) hC (by decide +kernel) rfl 1 rfl ?_
        refine a_iconst (pc := 31) (c := 1) hC (by decide +kernel) ?_
        refine a_aload_n (pc := 32) (q := 0) (i := 0) (x := 0) hC (by decide +kernel) rfl 2 rfl ?_
        refine a_iload_n (pc := 33) (q := 2) (i := 2) (x := (s : Int)) hC (by decide +kernel) rfl 0 rfl ?_
        refine g_callV (pc := 34) (idx := 137) (i := 0) (av := [vi ((s : Int))]) (rest := [vi 1, vi (bpS (fvG G 48 N) N s)]) (g := fvG G 48 N) (v := vi (bbS (fvG G 48 N) N s A)) hC hro hty (by decide +kernel) rfl rfl k_V_bestBits (by decide +kernel) (by decide +kernel) (by decide +kernel) (ct_V_bestBits X.la X.dd K (fvG G 48 N) N s A (by omega) hA hf.1 hbo) rfl rfl (by decide) (by first | decide | simp [Value.category]) ?_
        refine g_top (y := (z : Int)) hz ?_
        refine g_callS (pc := 37) (idx := 207) (av := [vi ((z : Int))]) (rest := [vi 1, vi (bpS (fvG G 48 N) N s)]) (g := fvG G 48 N) (v := vi (bcZ z)) hC hro hty (by decide +kernel) k_JI_bitCount (by decide +kernel) (by decide +kernel) (ct_JI_bitCount X.la X.dd K (fvG G 48 N) z (by omega)) rfl rfl (by decide) (by first | decide | simp [Value.category]) ?_
        refine g_callS (pc := 40) (idx := 205) (av := [vi 1, vi (bcZ z)]) (rest := [vi (bpS (fvG G 48 N) N s)]) (g := fvG G 48 N) (v := vi (maxZ 1 (bcZ z))) hC hro hty (by decide +kernel) k_JM_max_II (by decide +kernel) (by decide +kernel) (ct_JM_max_II X.la X.dd K (fvG G 48 N) 1 (bcZ z) (by unfold inI; omega) (by unfold inI; omega)) rfl rfl (by decide) (by first | decide | simp [Value.category]) ?_
        refine a_imul (pc := 43) hC (by decide +kernel) ?_
        refine a_istore_n (pc := 44) (q := 1) (i := 1) (lv' := [(1, vi ((bpS (fvG G 48 N) N s) * (maxZ 1 (bcZ z)))), (2, vi ((s : Int))), (0, .ref 0)]) hC (by decide +kernel) rfl (by decide) rfl ?_
        refine a_iinc (pc := 45) (i := 2) (c := 1) (x := (s : Int)) (lv' := [(2, vi (((s : Int)) + 1)), (1, vi ((bpS (fvG G 48 N) N s) * (maxZ 1 (bcZ z)))), (0, .ref 0)]) hC (by decide +kernel) 1 rfl (by decide) rfl ?_
        refine a_goto (pc := 48) (off := -29) hC 19 (by decide +kernel) (by decide) ?_
        refine a_sub (lv' := [(2, vi (((s + 1) : Int))), (1, vi (bpS (fvG G 48 N) N (s + 1))), (0, .ref 0)]) [0, 1, 2] (by rw [← hst]; rfl) ?_
        exact ih19 (s + 1) (by omega) (by omega)
  refine a_sub (lv' := [(2, vi ((0 : Int))), (1, vi (bpS (fvG G 48 N) N 0)), (0, .ref 0)]) [0, 1, 2] rfl ?_
  exact L19 _ 0 (Nat.lt_succ_self _) (by omega)

def clrV (G : GT) : GT := uG (uG (uG (clrG (forgG G) 7 15 5) 47 (fillF (G 47) 5 0)) 48 (fillF (G 48) 5 0)) 0 (up (up (G 0) 8 0) 9 1)
set_option maxRecDepth 100000 in
set_option maxHeartbeats 4000000 in
theorem ct_V_clear (l : Launch) (D : va_G) (K : K5) (G : GT)  : Ct l D K y_V_clear c_V_clear 1 none 2 44 [.ref 0] G none (clrV G) := by
  refine Ct.intro (by decide +kernel) (Nat.le_of_ble_eq_true rfl) ?_
  intro X hro hty hC hE
  refine a_aload_n (pc := 0) (q := 0) (i := 0) (x := 0) hC (by decide +kernel) rfl 0 rfl ?_
  refine g_get (pc := 1) (idx := 10) (ci := 5) (v := .ref 1) hC 0 0 (by decide +kernel) rfl rfl rfl rfl wrV (by decide) rfl (by decide +kernel) ?_
  refine g_callVN0 (pc := 4) (idx := 58) (i := 1) (av := []) (rest := []) (g := clrG (forgG G) 7 15 5) (host := "PlanValues") hC hro hty (by decide +kernel) rfl rfl k_W_forget (by decide +kernel) (by decide +kernel) (by decide +kernel) (ct_W_forget X.la X.dd K G) rfl rfl (by decide) (by first | decide | simp [Value.category]) ?_
  refine a_aload_n (pc := 7) (q := 0) (i := 0) (x := 0) hC (by decide +kernel) rfl 0 rfl ?_
  refine g_get (pc := 8) (idx := 41) (ci := 5) (v := .ref 47) hC 0 5 (by decide +kernel) rfl rfl rfl rfl wrV (by decide) rfl (by decide +kernel) ?_
  refine a_iconst (pc := 11) (c := 0) hC (by decide +kernel) ?_
  refine g_callS0 (pc := 12) (idx := 61) (av := [.ref 47, vi 0]) (rest := []) (g := uG (clrG (forgG G) 7 15 5) 47 (fillF ((clrG (forgG G) 7 15 5) 47) 5 0)) hC hro hty (by decide +kernel) k_JA_fill_AII (by decide +kernel) (by decide +kernel) (ct_JA_fill_AII X.la X.dd K (clrG (forgG G) 7 15 5) 47 5 0 rfl (by decide)) rfl rfl (by decide) (by first | decide | simp [Value.category]) ?_
  refine a_aload_n (pc := 15) (q := 0) (i := 0) (x := 0) hC (by decide +kernel) rfl 0 rfl ?_
  refine g_get (pc := 16) (idx := 45) (ci := 5) (v := .ref 48) hC 0 6 (by decide +kernel) rfl rfl rfl rfl wrV (by decide) rfl (by decide +kernel) ?_
  refine a_iconst (pc := 19) (c := 0) hC (by decide +kernel) ?_
  refine g_callS0 (pc := 20) (idx := 61) (av := [.ref 48, vi 0]) (rest := []) (g := uG (uG (clrG (forgG G) 7 15 5) 47 (fillF ((clrG (forgG G) 7 15 5) 47) 5 0)) 48 (fillF ((uG (clrG (forgG G) 7 15 5) 47 (fillF ((clrG (forgG G) 7 15 5) 47) 5 0)) 48) 5 0)) hC hro hty (by decide +kernel) k_JA_fill_AII (by decide +kernel) (by decide +kernel) (ct_JA_fill_AII X.la X.dd K (uG (clrG (forgG G) 7 15 5) 47 (fillF ((clrG (forgG G) 7 15 5) 47) 5 0)) 48 5 0 rfl (by decide)) rfl rfl (by decide) (by first | decide | simp [Value.category]) ?_
  refine a_aload_n (pc := 23) (q := 0) (i := 0) (x := 0) hC (by decide +kernel) rfl 0 rfl ?_
  refine a_lconst (pc := 24) (c := 0) (z := 0) hC (by decide +kernel) rfl ?_
  refine g_put (pc := 25) (idx := 51) (ci := 5) (x := 0) hC 0 8 (by decide +kernel) rfl rfl (congrArg (fun z => vl z) (up_s _ _ _)) rfl wrV (by decide) rfl (by decide +kernel) rfl (ok_long _) ?_
  refine a_aload_n (pc := 28) (q := 0) (i := 0) (x := 0) hC (by decide +kernel) rfl 0 rfl ?_
  refine a_lconst (pc := 29) (c := 1) (z := 1) hC (by decide +kernel) rfl ?_
  refine g_put (pc := 30) (idx := 55) (ci := 5) (x := 1) hC 0 9 (by decide +kernel) rfl rfl (congrArg (fun z => vl z) (up_s _ _ _)) rfl wrV (by decide) rfl (by decide +kernel) rfl (ok_long _) ?_
  exact g_vret (pc := 33) hC hE (by decide +kernel) (by rw [uG_s, uG_uG]; rfl)

set_option maxRecDepth 100000 in
set_option maxHeartbeats 4000000 in
theorem ct_V_state_full (l : Launch) (D : va_G) (K : K5) (G : GT) (N : Nat) (t : Int) (ht : t = 0 ∨ t = 1) (hv : VV G N) (hfull : N = 5) : Ct l D K y_V_state c_V_state 2 (some .int) 1 22 [.ref 0, vi t] G (some (vi (-4))) G := by
  refine Ct.intro (by decide +kernel) (Nat.le_of_ble_eq_true rfl) ?_
  intro X hro hty hC hE
  obtain ⟨hw, hp47, hp48⟩ := id hv
  obtain ⟨hn, hN5, hsh, hac, hpa, hwe, hth⟩ := id hw
  refine a_aload_n (pc := 0) (q := 0) (i := 0) (x := 0) hC (by decide +kernel) rfl 0 rfl ?_
  refine g_get (pc := 1) (idx := 10) (ci := 5) (v := .ref 1) hC 0 0 (by decide +kernel) rfl rfl rfl rfl wrV (by decide) rfl (by decide +kernel) ?_
  refine g_getN (pc := 4) (idx := 67) (ci := 4) (v := vi (G 1 0)) (host := "PlanValues") hC 1 0 (by decide +kernel) rfl rfl rfl rfl wrW (by decide) rfl (by decide +kernel) ?_
  refine a_iconst (pc := 7) (c := 5) hC (by decide +kernel) ?_
  refine a_icmp_lt (pc := 8) (off := 6) hC 14 (by decide +kernel) (by decide) (by unfold inI; omega) (by unfold inI; omega) (fun c8 => ?_) (fun c8 => ?_)
  · skip
    exact absurd c8 (by omega)
  · skip
    refine a_bipush (pc := 11) (c := -4) hC (by decide +kernel) (by decide +kernel) ?_
    exact g_iret (pc := 13) hC hE (by decide +kernel) rfl rfl

set_option maxRecDepth 100000 in
set_option maxHeartbeats 4000000 in
theorem ct_V_state (l : Launch) (D : va_G) (K : K5) (G : GT) (N : Nat) (t : Int) (ht : t = 0 ∨ t = 1) (hv : VV G N) (hfull : N < 5) : Ct l D K y_V_state c_V_state 2 (some .int) 1 22 [.ref 0, vi t] G (some (vi ((N : Int)))) (uG (uG G 2 (up (G 2) N t)) 1 (up (G 1) 0 (G 1 0 + 1))) := by
  refine Ct.intro (by decide +kernel) (Nat.le_of_ble_eq_true rfl) ?_
  intro X hro hty hC hE
  obtain ⟨hw, hp47, hp48⟩ := id hv
  obtain ⟨hn, hN5, hsh, hac, hpa, hwe, hth⟩ := id hw
  refine a_aload_n (pc := 0) (q := 0) (i := 0) (x := 0) hC (by decide +kernel) rfl 0 rfl ?_
  refine g_get (pc := 1) (idx := 10) (ci := 5) (v := .ref 1) hC 0 0 (by decide +kernel) rfl rfl rfl rfl wrV (by decide) rfl (by decide +kernel) ?_
  refine g_getN (pc := 4) (idx := 67) (ci := 4) (v := vi (G 1 0)) (host := "PlanValues") hC 1 0 (by decide +kernel) rfl rfl rfl rfl wrW (by decide) rfl (by decide +kernel) ?_
  refine a_iconst (pc := 7) (c := 5) hC (by decide +kernel) ?_
  refine a_icmp_lt (pc := 8) (off := 6) hC 14 (by decide +kernel) (by decide) (by unfold inI; omega) (by unfold inI; omega) (fun c8 => ?_) (fun c8 => ?_)
  · skip
    refine a_aload_n (pc := 14) (q := 0) (i := 0) (x := 0) hC (by decide +kernel) rfl 0 rfl ?_
    refine g_get (pc := 15) (idx := 10) (ci := 5) (v := .ref 1) hC 0 0 (by decide +kernel) rfl rfl rfl rfl wrV (by decide) rfl (by decide +kernel) ?_
    refine a_iload_n (pc := 18) (q := 1) (i := 1) (x := t) hC (by decide +kernel) rfl 1 rfl ?_
    refine g_callVN (pc := 19) (idx := 71) (i := 1) (av := [vi t]) (rest := []) (g := uG (uG G 2 (up (G 2) N t)) 1 (up (G 1) 0 (G 1 0 + 1))) (v := vi ((N : Int))) (host := "PlanValues") hC hro hty (by decide +kernel) rfl rfl k_W_addState (by decide +kernel) (by decide +kernel) (by decide +kernel) (ct_W_addState X.la X.dd K G N t ht hw (by omega)) rfl rfl (by decide) (by first | decide | simp [Value.category]) ?_
    exact g_iret (pc := 22) hC hE (by decide +kernel) rfl rfl
  · skip
    exact absurd c8 (by omega)

set_option maxRecDepth 100000 in
set_option maxHeartbeats 4000000 in
theorem ct_V_act_no (l : Launch) (D : va_G) (K : K5) (G : GT) (N : Nat) (s : Int) (p : Int) (hsi : inI s) (hv : VV G N) (hno : hasS G s = 0) : Ct l D K y_V_act c_V_act 3 (some .int) 2 44 [.ref 0, vi s, vi p] G (some (vi (-1))) G := by
  refine Ct.intro (by decide +kernel) (Nat.le_of_ble_eq_true rfl) ?_
  intro X hro hty hC hE
  obtain ⟨hw, hp47, hp48⟩ := id hv
  obtain ⟨hn, hN5, hsh, hac, hpa, hwe, hth⟩ := id hw
  refine a_aload_n (pc := 0) (q := 0) (i := 0) (x := 0) hC (by decide +kernel) rfl 0 rfl ?_
  refine g_get (pc := 1) (idx := 10) (ci := 5) (v := .ref 1) hC 0 0 (by decide +kernel) rfl rfl rfl rfl wrV (by decide) rfl (by decide +kernel) ?_
  refine a_iload_n (pc := 4) (q := 1) (i := 1) (x := s) hC (by decide +kernel) rfl 1 rfl ?_
  refine g_callVN (pc := 5) (idx := 75) (i := 1) (av := [vi s]) (rest := []) (g := G) (v := vi (hasS G s)) (host := "PlanValues") hC hro hty (by decide +kernel) rfl rfl k_W_hasState (by decide +kernel) (by decide +kernel) (by decide +kernel) (ct_W_hasState X.la X.dd K G N s hsi hw) rfl rfl (by decide) (by first | decide | simp [Value.category]) ?_
  refine a_if_ne (pc := 8) (off := 5) hC 13 (by decide +kernel) (by decide) (by unfold inI; omega) (fun c8 => ?_) (fun c8 => ?_)
  · skip
    exact absurd hno c8
  · skip
    refine a_iconst (pc := 11) (c := -1) hC (by decide +kernel) ?_
    exact g_iret (pc := 12) hC hE (by decide +kernel) rfl rfl

set_option maxRecDepth 100000 in
set_option maxHeartbeats 4000000 in
theorem ct_V_act_pay (l : Launch) (D : va_G) (K : K5) (G : GT) (N s : Nat) (p : Int) (hs : s < N) (hpi : inI p) (hv : VV G N) (hbad : payZ p = 0) : Ct l D K y_V_act c_V_act 3 (some .int) 2 44 [.ref 0, vi ((s : Int)), vi p] G (some (vi (-2))) G := by
  refine Ct.intro (by decide +kernel) (Nat.le_of_ble_eq_true rfl) ?_
  intro X hro hty hC hE
  obtain ⟨hw, hp47, hp48⟩ := id hv
  obtain ⟨hn, hN5, hsh, hac, hpa, hwe, hth⟩ := id hw
  refine a_aload_n (pc := 0) (q := 0) (i := 0) (x := 0) hC (by decide +kernel) rfl 0 rfl ?_
  refine g_get (pc := 1) (idx := 10) (ci := 5) (v := .ref 1) hC 0 0 (by decide +kernel) rfl rfl rfl rfl wrV (by decide) rfl (by decide +kernel) ?_
  refine a_iload_n (pc := 4) (q := 1) (i := 1) (x := (s : Int)) hC (by decide +kernel) rfl 1 rfl ?_
  refine g_callVN (pc := 5) (idx := 75) (i := 1) (av := [vi ((s : Int))]) (rest := []) (g := G) (v := vi (hasS G ((s : Int)))) (host := "PlanValues") hC hro hty (by decide +kernel) rfl rfl k_W_hasState (by decide +kernel) (by decide +kernel) (by decide +kernel) (ct_W_hasState X.la X.dd K G N ((s : Int)) (by unfold inI; omega) hw) rfl rfl (by decide) (by first | decide | simp [Value.category]) ?_
  refine a_if_ne (pc := 8) (off := 5) hC 13 (by decide +kernel) (by decide) (by unfold inI hasS; split <;> omega) (fun c8 => ?_) (fun c8 => ?_)
  · skip
    refine a_iload_n (pc := 13) (q := 2) (i := 2) (x := p) hC (by decide +kernel) rfl 2 rfl ?_
    refine g_callS (pc := 14) (idx := 79) (av := [vi p]) (rest := []) (g := G) (v := vi (payZ p)) hC hro hty (by decide +kernel) k_V_isPay (by decide +kernel) (by decide +kernel) (ct_V_isPay X.la X.dd K G p hpi) rfl rfl (by decide) (by first | decide | simp [Value.category]) ?_
    refine a_if_ne (pc := 17) (off := 6) hC 23 (by decide +kernel) (by decide) (by unfold inI payZ; split <;> omega) (fun c17 => ?_) (fun c17 => ?_)
    · skip
      exact absurd hbad c17
    · skip
      refine a_bipush (pc := 20) (c := -2) hC (by decide +kernel) (by decide +kernel) ?_
      exact g_iret (pc := 22) hC hE (by decide +kernel) rfl rfl
  · skip
    exact absurd c8 (by unfold hasS; rw [if_pos (by omega)]; decide)

set_option maxRecDepth 100000 in
set_option maxHeartbeats 4000000 in
theorem ct_V_act_full (l : Launch) (D : va_G) (K : K5) (G : GT) (N s : Nat) (p : Int) (hs : s < N) (hpi : inI p) (hv : VV G N) (hok : ¬ payZ p = 0) (hfull : G 3 s = 3) : Ct l D K y_V_act c_V_act 3 (some .int) 2 44 [.ref 0, vi ((s : Int)), vi p] G (some (vi (-4))) G := by
  refine Ct.intro (by decide +kernel) (Nat.le_of_ble_eq_true rfl) ?_
  intro X hro hty hC hE
  obtain ⟨hw, hp47, hp48⟩ := id hv
  obtain ⟨hn, hN5, hsh, hac, hpa, hwe, hth⟩ := id hw
  refine a_aload_n (pc := 0) (q := 0) (i := 0) (x := 0) hC (by decide +kernel) rfl 0 rfl ?_
  refine g_get (pc := 1) (idx := 10) (ci := 5) (v := .ref 1) hC 0 0 (by decide +kernel) rfl rfl rfl rfl wrV (by decide) rfl (by decide +kernel) ?_
  refine a_iload_n (pc := 4) (q := 1) (i := 1) (x := (s : Int)) hC (by decide +kernel) rfl 1 rfl ?_
  refine g_callVN (pc := 5) (idx := 75) (i := 1) (av := [vi ((s : Int))]) (rest := []) (g := G) (v := vi (hasS G ((s : Int)))) (host := "PlanValues") hC hro hty (by decide +kernel) rfl rfl k_W_hasState (by decide +kernel) (by decide +kernel) (by decide +kernel) (ct_W_hasState X.la X.dd K G N ((s : Int)) (by unfold inI; omega) hw) rfl rfl (by decide) (by first | decide | simp [Value.category]) ?_
  refine a_if_ne (pc := 8) (off := 5) hC 13 (by decide +kernel) (by decide) (by unfold inI hasS; split <;> omega) (fun c8 => ?_) (fun c8 => ?_)
  · skip
    refine a_iload_n (pc := 13) (q := 2) (i := 2) (x := p) hC (by decide +kernel) rfl 2 rfl ?_
    refine g_callS (pc := 14) (idx := 79) (av := [vi p]) (rest := []) (g := G) (v := vi (payZ p)) hC hro hty (by decide +kernel) k_V_isPay (by decide +kernel) (by decide +kernel) (ct_V_isPay X.la X.dd K G p hpi) rfl rfl (by decide) (by first | decide | simp [Value.category]) ?_
    refine a_if_ne (pc := 17) (off := 6) hC 23 (by decide +kernel) (by decide) (by unfold inI payZ; split <;> omega) (fun c17 => ?_) (fun c17 => ?_)
    · skip
      refine a_aload_n (pc := 23) (q := 0) (i := 0) (x := 0) hC (by decide +kernel) rfl 0 rfl ?_
      refine g_get (pc := 24) (idx := 10) (ci := 5) (v := .ref 1) hC 0 0 (by decide +kernel) rfl rfl rfl rfl wrV (by decide) rfl (by decide +kernel) ?_
      refine g_getN (pc := 27) (idx := 82) (ci := 4) (v := .ref 3) (host := "PlanValues") hC 1 4 (by decide +kernel) rfl rfl rfl rfl wrW (by decide) rfl (by decide +kernel) ?_
      refine a_iload_n (pc := 30) (q := 1) (i := 1) (x := (s : Int)) hC (by decide +kernel) rfl 1 rfl ?_
      refine g_iald (pc := 31) (a := 3) (j := s) hC hty (by decide +kernel) rfl (by omega) (by first | decide | omega) ?_
      refine a_iconst (pc := 32) (c := 3) hC (by decide +kernel) ?_
      refine a_icmp_lt (pc := 33) (off := 6) hC 39 (by decide +kernel) (by decide) (by unfold inI; omega) (by unfold inI; omega) (fun c33 => ?_) (fun c33 => ?_)
      · skip
        exact absurd c33 (by omega)
      · skip
        refine a_bipush (pc := 36) (c := -4) hC (by decide +kernel) (by decide +kernel) ?_
        exact g_iret (pc := 38) hC hE (by decide +kernel) rfl rfl
    · skip
      exact absurd c17 hok
  · skip
    exact absurd c8 (by unfold hasS; rw [if_pos (by omega)]; decide)

set_option maxRecDepth 100000 in
set_option maxHeartbeats 4000000 in
theorem ct_V_act (l : Launch) (D : va_G) (K : K5) (G : GT) (N s A : Nat) (p : Int) (hs : s < N) (hpi : inI p) (hv : VV G N) (hok : ¬ payZ p = 0) (hA : G 3 s = (A : Int)) (hA3 : A < 3) : Ct l D K y_V_act c_V_act 3 (some .int) 2 44 [.ref 0, vi ((s : Int)), vi p] G (some (vi ((A : Int)))) (uG (uG G 4 (up (G 4) (s * 3 + A) p)) 3 (up (G 3) s (G 3 s + 1))) := by
  refine Ct.intro (by decide +kernel) (Nat.le_of_ble_eq_true rfl) ?_
  intro X hro hty hC hE
  obtain ⟨hw, hp47, hp48⟩ := id hv
  obtain ⟨hn, hN5, hsh, hac, hpa, hwe, hth⟩ := id hw
  refine a_aload_n (pc := 0) (q := 0) (i := 0) (x := 0) hC (by decide +kernel) rfl 0 rfl ?_
  refine g_get (pc := 1) (idx := 10) (ci := 5) (v := .ref 1) hC 0 0 (by decide +kernel) rfl rfl rfl rfl wrV (by decide) rfl (by decide +kernel) ?_
  refine a_iload_n (pc := 4) (q := 1) (i := 1) (x := (s : Int)) hC (by decide +kernel) rfl 1 rfl ?_
  refine g_callVN (pc := 5) (idx := 75) (i := 1) (av := [vi ((s : Int))]) (rest := []) (g := G) (v := vi (hasS G ((s : Int)))) (host := "PlanValues") hC hro hty (by decide +kernel) rfl rfl k_W_hasState (by decide +kernel) (by decide +kernel) (by decide +kernel) (ct_W_hasState X.la X.dd K G N ((s : Int)) (by unfold inI; omega) hw) rfl rfl (by decide) (by first | decide | simp [Value.category]) ?_
  refine a_if_ne (pc := 8) (off := 5) hC 13 (by decide +kernel) (by decide) (by unfold inI hasS; split <;> omega) (fun c8 => ?_) (fun c8 => ?_)
  · skip
    refine a_iload_n (pc := 13) (q := 2) (i := 2) (x := p) hC (by decide +kernel) rfl 2 rfl ?_
    refine g_callS (pc := 14) (idx := 79) (av := [vi p]) (rest := []) (g := G) (v := vi (payZ p)) hC hro hty (by decide +kernel) k_V_isPay (by decide +kernel) (by decide +kernel) (ct_V_isPay X.la X.dd K G p hpi) rfl rfl (by decide) (by first | decide | simp [Value.category]) ?_
    refine a_if_ne (pc := 17) (off := 6) hC 23 (by decide +kernel) (by decide) (by unfold inI payZ; split <;> omega) (fun c17 => ?_) (fun c17 => ?_)
    · skip
      refine a_aload_n (pc := 23) (q := 0) (i := 0) (x := 0) hC (by decide +kernel) rfl 0 rfl ?_
      refine g_get (pc := 24) (idx := 10) (ci := 5) (v := .ref 1) hC 0 0 (by decide +kernel) rfl rfl rfl rfl wrV (by decide) rfl (by decide +kernel) ?_
      refine g_getN (pc := 27) (idx := 82) (ci := 4) (v := .ref 3) (host := "PlanValues") hC 1 4 (by decide +kernel) rfl rfl rfl rfl wrW (by decide) rfl (by decide +kernel) ?_
      refine a_iload_n (pc := 30) (q := 1) (i := 1) (x := (s : Int)) hC (by decide +kernel) rfl 1 rfl ?_
      refine g_iald (pc := 31) (a := 3) (j := s) hC hty (by decide +kernel) rfl (by omega) (by first | decide | omega) ?_
      refine a_iconst (pc := 32) (c := 3) hC (by decide +kernel) ?_
      refine a_icmp_lt (pc := 33) (off := 6) hC 39 (by decide +kernel) (by decide) (by unfold inI; omega) (by unfold inI; omega) (fun c33 => ?_) (fun c33 => ?_)
      · skip
        refine a_aload_n (pc := 39) (q := 0) (i := 0) (x := 0) hC (by decide +kernel) rfl 0 rfl ?_
        refine g_get (pc := 40) (idx := 10) (ci := 5) (v := .ref 1) hC 0 0 (by decide +kernel) rfl rfl rfl rfl wrV (by decide) rfl (by decide +kernel) ?_
        refine a_iload_n (pc := 43) (q := 1) (i := 1) (x := (s : Int)) hC (by decide +kernel) rfl 1 rfl ?_
        refine a_iload_n (pc := 44) (q := 2) (i := 2) (x := p) hC (by decide +kernel) rfl 2 rfl ?_
        refine g_callVN (pc := 45) (idx := 85) (i := 1) (av := [vi ((s : Int)), vi p]) (rest := []) (g := uG (uG G 4 (up (G 4) (s * 3 + A) p)) 3 (up (G 3) s (G 3 s + 1))) (v := vi ((A : Int))) (host := "PlanValues") hC hro hty (by decide +kernel) rfl rfl k_W_addAct (by decide +kernel) (by decide +kernel) (by decide +kernel) (ct_W_addAct X.la X.dd K G N s A p (by omega) hA (by omega)) rfl rfl (by decide) (by first | decide | simp [Value.category]) ?_
        exact g_iret (pc := 48) hC hE (by decide +kernel) rfl rfl
      · skip
        exact absurd c33 (by omega)
    · skip
      exact absurd c17 hok
  · skip
    exact absurd c8 (by unfold hasS; rw [if_pos (by omega)]; decide)

set_option maxRecDepth 100000 in
set_option maxHeartbeats 4000000 in
theorem ct_V_pay_no (l : Launch) (D : va_G) (K : K5) (G : GT) (N : Nat) (s a : Int) (p : Int) (hsi : inI s) (hai : inI a) (hv : VV G N) (hno : hasA G s a = 0) : Ct l D K y_V_pay c_V_pay 6 (some .int) 2 43 [.ref 0, vi s, vi a, vi p] G (some (vi (-1))) G := by
  refine Ct.intro (by decide +kernel) (Nat.le_of_ble_eq_true rfl) ?_
  intro X hro hty hC hE
  obtain ⟨hw, hp47, hp48⟩ := id hv
  obtain ⟨hn, hN5, hsh, hac, hpa, hwe, hth⟩ := id hw
  refine a_aload_n (pc := 0) (q := 0) (i := 0) (x := 0) hC (by decide +kernel) rfl 0 rfl ?_
  refine g_get (pc := 1) (idx := 10) (ci := 5) (v := .ref 1) hC 0 0 (by decide +kernel) rfl rfl rfl rfl wrV (by decide) rfl (by decide +kernel) ?_
  refine a_iload_n (pc := 4) (q := 1) (i := 1) (x := s) hC (by decide +kernel) rfl 1 rfl ?_
  refine a_iload_n (pc := 5) (q := 2) (i := 2) (x := a) hC (by decide +kernel) rfl 2 rfl ?_
  refine g_callVN (pc := 6) (idx := 89) (i := 1) (av := [vi s, vi a]) (rest := []) (g := G) (v := vi (hasA G s a)) (host := "PlanValues") hC hro hty (by decide +kernel) rfl rfl k_W_hasAct (by decide +kernel) (by decide +kernel) (by decide +kernel) (ct_W_hasAct X.la X.dd K G N s a hsi hai hw) rfl rfl (by decide) (by first | decide | simp [Value.category]) ?_
  refine a_if_ne (pc := 9) (off := 5) hC 14 (by decide +kernel) (by decide) (by unfold inI; omega) (fun c9 => ?_) (fun c9 => ?_)
  · skip
    exact absurd hno c9
  · skip
    refine a_iconst (pc := 12) (c := -1) hC (by decide +kernel) ?_
    exact g_iret (pc := 13) hC hE (by decide +kernel) rfl rfl

set_option maxRecDepth 100000 in
set_option maxHeartbeats 4000000 in
theorem ct_V_pay_bad (l : Launch) (D : va_G) (K : K5) (G : GT) (N s a : Nat) (p : Int) (hs : s < N) (ha : (a : Int) < G 3 s) (hpi : inI p) (hv : VV G N) (hbad : payZ p = 0) : Ct l D K y_V_pay c_V_pay 6 (some .int) 2 43 [.ref 0, vi ((s : Int)), vi ((a : Int)), vi p] G (some (vi (-2))) G := by
  refine Ct.intro (by decide +kernel) (Nat.le_of_ble_eq_true rfl) ?_
  intro X hro hty hC hE
  obtain ⟨hw, hp47, hp48⟩ := id hv
  obtain ⟨hn, hN5, hsh, hac, hpa, hwe, hth⟩ := id hw
  have ha3 := hac s (by omega)
  have ha2 : a < 3 := by omega
  refine a_aload_n (pc := 0) (q := 0) (i := 0) (x := 0) hC (by decide +kernel) rfl 0 rfl ?_
  refine g_get (pc := 1) (idx := 10) (ci := 5) (v := .ref 1) hC 0 0 (by decide +kernel) rfl rfl rfl rfl wrV (by decide) rfl (by decide +kernel) ?_
  refine a_iload_n (pc := 4) (q := 1) (i := 1) (x := (s : Int)) hC (by decide +kernel) rfl 1 rfl ?_
  refine a_iload_n (pc := 5) (q := 2) (i := 2) (x := (a : Int)) hC (by decide +kernel) rfl 2 rfl ?_
  refine g_callVN (pc := 6) (idx := 89) (i := 1) (av := [vi ((s : Int)), vi ((a : Int))]) (rest := []) (g := G) (v := vi (hasA G ((s : Int)) ((a : Int)))) (host := "PlanValues") hC hro hty (by decide +kernel) rfl rfl k_W_hasAct (by decide +kernel) (by decide +kernel) (by decide +kernel) (ct_W_hasAct X.la X.dd K G N ((s : Int)) ((a : Int)) (by unfold inI; omega) (by unfold inI; omega) hw) rfl rfl (by decide) (by first | decide | simp [Value.category]) ?_
  refine a_if_ne (pc := 9) (off := 5) hC 14 (by decide +kernel) (by decide) (by unfold inI hasA; split <;> omega) (fun c9 => ?_) (fun c9 => ?_)
  · skip
    refine a_iload_n (pc := 14) (q := 3) (i := 3) (x := p) hC (by decide +kernel) rfl 3 rfl ?_
    refine g_callS (pc := 15) (idx := 79) (av := [vi p]) (rest := []) (g := G) (v := vi (payZ p)) hC hro hty (by decide +kernel) k_V_isPay (by decide +kernel) (by decide +kernel) (ct_V_isPay X.la X.dd K G p hpi) rfl rfl (by decide) (by first | decide | simp [Value.category]) ?_
    refine a_if_ne (pc := 18) (off := 6) hC 24 (by decide +kernel) (by decide) (by unfold inI payZ; split <;> omega) (fun c18 => ?_) (fun c18 => ?_)
    · skip
      exact absurd hbad c18
    · skip
      refine a_bipush (pc := 21) (c := -2) hC (by decide +kernel) (by decide +kernel) ?_
      exact g_iret (pc := 23) hC hE (by decide +kernel) rfl rfl
  · skip
    exact absurd c9 (by unfold hasA; rw [if_pos (by rw [Int.toNat_natCast]; omega)]; decide)

set_option maxRecDepth 100000 in
set_option maxHeartbeats 4000000 in
theorem ct_V_pay (l : Launch) (D : va_G) (K : K5) (G : GT) (N s a : Nat) (p : Int) (hs : s < N) (ha : (a : Int) < G 3 s) (hpi : inI p) (hv : VV G N) (hok : ¬ payZ p = 0) : Ct l D K y_V_pay c_V_pay 6 (some .int) 2 43 [.ref 0, vi ((s : Int)), vi ((a : Int)), vi p] G (some (vi (G 4 (s * 3 + a) + 50))) (uG G 4 (up (G 4) (s * 3 + a) p)) := by
  refine Ct.intro (by decide +kernel) (Nat.le_of_ble_eq_true rfl) ?_
  intro X hro hty hC hE
  obtain ⟨hw, hp47, hp48⟩ := id hv
  obtain ⟨hn, hN5, hsh, hac, hpa, hwe, hth⟩ := id hw
  have ha3 := hac s (by omega)
  have ha2 : a < 3 := by omega
  refine a_aload_n (pc := 0) (q := 0) (i := 0) (x := 0) hC (by decide +kernel) rfl 0 rfl ?_
  refine g_get (pc := 1) (idx := 10) (ci := 5) (v := .ref 1) hC 0 0 (by decide +kernel) rfl rfl rfl rfl wrV (by decide) rfl (by decide +kernel) ?_
  refine a_iload_n (pc := 4) (q := 1) (i := 1) (x := (s : Int)) hC (by decide +kernel) rfl 1 rfl ?_
  refine a_iload_n (pc := 5) (q := 2) (i := 2) (x := (a : Int)) hC (by decide +kernel) rfl 2 rfl ?_
  refine g_callVN (pc := 6) (idx := 89) (i := 1) (av := [vi ((s : Int)), vi ((a : Int))]) (rest := []) (g := G) (v := vi (hasA G ((s : Int)) ((a : Int)))) (host := "PlanValues") hC hro hty (by decide +kernel) rfl rfl k_W_hasAct (by decide +kernel) (by decide +kernel) (by decide +kernel) (ct_W_hasAct X.la X.dd K G N ((s : Int)) ((a : Int)) (by unfold inI; omega) (by unfold inI; omega) hw) rfl rfl (by decide) (by first | decide | simp [Value.category]) ?_
  refine a_if_ne (pc := 9) (off := 5) hC 14 (by decide +kernel) (by decide) (by unfold inI hasA; split <;> omega) (fun c9 => ?_) (fun c9 => ?_)
  · skip
    refine a_iload_n (pc := 14) (q := 3) (i := 3) (x := p) hC (by decide +kernel) rfl 3 rfl ?_
    refine g_callS (pc := 15) (idx := 79) (av := [vi p]) (rest := []) (g := G) (v := vi (payZ p)) hC hro hty (by decide +kernel) k_V_isPay (by decide +kernel) (by decide +kernel) (ct_V_isPay X.la X.dd K G p hpi) rfl rfl (by decide) (by first | decide | simp [Value.category]) ?_
    refine a_if_ne (pc := 18) (off := 6) hC 24 (by decide +kernel) (by decide) (by unfold inI payZ; split <;> omega) (fun c18 => ?_) (fun c18 => ?_)
    · skip
      refine a_iload_n (pc := 24) (q := 1) (i := 1) (x := (s : Int)) hC (by decide +kernel) rfl 1 rfl ?_
      refine a_iload_n (pc := 25) (q := 2) (i := 2) (x := (a : Int)) hC (by decide +kernel) rfl 2 rfl ?_
      refine g_callSN (pc := 26) (idx := 93) (av := [vi ((s : Int)), vi ((a : Int))]) (rest := []) (g := G) (v := vi (((s : Int)) * 3 + ((a : Int)))) (host := "PlanValues") hC hro hty (by decide +kernel) k_W_slotOf (by decide +kernel) (by decide +kernel) (ct_W_slotOf X.la X.dd K G ((s : Int)) ((a : Int))) rfl rfl (by decide) (by first | decide | simp [Value.category]) ?_
      refine g_top (y := ((s * 3 + a : Nat) : Int)) (by omega) ?_
      refine a_istore (pc := 29) (q := 0) (i := 4) (lv' := [(4, vi (((s * 3 + a : Nat) : Int))), (0, .ref 0), (1, vi ((s : Int))), (2, vi ((a : Int))), (3, vi p)]) hC (by decide +kernel) (by decide) rfl ?_
      refine a_aload_n (pc := 31) (q := 0) (i := 0) (x := 0) hC (by decide +kernel) rfl 1 rfl ?_
      refine g_get (pc := 32) (idx := 10) (ci := 5) (v := .ref 1) hC 0 0 (by decide +kernel) rfl rfl rfl rfl wrV (by decide) rfl (by decide +kernel) ?_
      refine g_getN (pc := 35) (idx := 103) (ci := 4) (v := .ref 4) (host := "PlanValues") hC 1 5 (by decide +kernel) rfl rfl rfl rfl wrW (by decide) rfl (by decide +kernel) ?_
      refine a_iload (pc := 38) (i := 4) (x := ((s * 3 + a : Nat) : Int)) hC (by decide +kernel) 0 rfl ?_
      refine g_iald (pc := 40) (a := 4) (j := s * 3 + a) hC hty (by decide +kernel) rfl (by omega) (by first | decide | omega) ?_
      refine a_istore (pc := 41) (q := 0) (i := 5) (lv' := [(5, vi (G 4 (s * 3 + a))), (4, vi (((s * 3 + a : Nat) : Int))), (0, .ref 0), (1, vi ((s : Int))), (2, vi ((a : Int))), (3, vi p)]) hC (by decide +kernel) (by decide) rfl ?_
      refine a_aload_n (pc := 43) (q := 0) (i := 0) (x := 0) hC (by decide +kernel) rfl 2 rfl ?_
      refine g_get (pc := 44) (idx := 10) (ci := 5) (v := .ref 1) hC 0 0 (by decide +kernel) rfl rfl rfl rfl wrV (by decide) rfl (by decide +kernel) ?_
      refine g_getN (pc := 47) (idx := 103) (ci := 4) (v := .ref 4) (host := "PlanValues") hC 1 5 (by decide +kernel) rfl rfl rfl rfl wrW (by decide) rfl (by decide +kernel) ?_
      refine a_iload (pc := 50) (i := 4) (x := ((s * 3 + a : Nat) : Int)) hC (by decide +kernel) 1 rfl ?_
      refine a_iload_n (pc := 52) (q := 3) (i := 3) (x := p) hC (by decide +kernel) rfl 5 rfl ?_
      refine g_iast (pc := 53) (a := 4) (j := s * 3 + a) (x := p) hC hty (by decide +kernel) rfl (by omega) (by first | decide | omega) ?_
      refine a_iload (pc := 54) (i := 5) (x := G 4 (s * 3 + a)) hC (by decide +kernel) 0 rfl ?_
      refine a_bipush (pc := 56) (c := 50) hC (by decide +kernel) (by decide +kernel) ?_
      refine a_iadd (pc := 58) hC (by decide +kernel) ?_
      exact g_iret (pc := 59) hC hE (by decide +kernel) rfl rfl
    · skip
      exact absurd c18 hok
  · skip
    exact absurd c9 (by unfold hasA; rw [if_pos (by rw [Int.toNat_natCast]; omega)]; decide)

set_option maxRecDepth 100000 in
set_option maxHeartbeats 4000000 in
theorem ct_V_tell_no (l : Launch) (D : va_G) (K : K5) (G : GT) (N : Nat) (s a : Int)  (hsi : inI s) (hai : inI a) (hv : VV G N) (hno : hasA G s a = 0) : Ct l D K y_V_tell c_V_tell 4 (some .int) 2 43 [.ref 0, vi s, vi a] G (some (vi (-1))) G := by
  refine Ct.intro (by decide +kernel) (Nat.le_of_ble_eq_true rfl) ?_
  intro X hro hty hC hE
  obtain ⟨hw, hp47, hp48⟩ := id hv
  obtain ⟨hn, hN5, hsh, hac, hpa, hwe, hth⟩ := id hw
  refine a_aload_n (pc := 0) (q := 0) (i := 0) (x := 0) hC (by decide +kernel) rfl 0 rfl ?_
  refine g_get (pc := 1) (idx := 10) (ci := 5) (v := .ref 1) hC 0 0 (by decide +kernel) rfl rfl rfl rfl wrV (by decide) rfl (by decide +kernel) ?_
  refine a_iload_n (pc := 4) (q := 1) (i := 1) (x := s) hC (by decide +kernel) rfl 1 rfl ?_
  refine a_iload_n (pc := 5) (q := 2) (i := 2) (x := a) hC (by decide +kernel) rfl 2 rfl ?_
  refine g_callVN (pc := 6) (idx := 89) (i := 1) (av := [vi s, vi a]) (rest := []) (g := G) (v := vi (hasA G s a)) (host := "PlanValues") hC hro hty (by decide +kernel) rfl rfl k_W_hasAct (by decide +kernel) (by decide +kernel) (by decide +kernel) (ct_W_hasAct X.la X.dd K G N s a hsi hai hw) rfl rfl (by decide) (by first | decide | simp [Value.category]) ?_
  refine a_if_ne (pc := 9) (off := 5) hC 14 (by decide +kernel) (by decide) (by unfold inI; omega) (fun c9 => ?_) (fun c9 => ?_)
  · skip
    exact absurd hno c9
  · skip
    refine a_iconst (pc := 12) (c := -1) hC (by decide +kernel) ?_
    exact g_iret (pc := 13) hC hE (by decide +kernel) rfl rfl

set_option maxRecDepth 100000 in
set_option maxHeartbeats 4000000 in
theorem ct_V_tell (l : Launch) (D : va_G) (K : K5) (G : GT) (N s a : Nat) (hs : s < N) (ha : (a : Int) < G 3 s) (hv : VV G N) : Ct l D K y_V_tell c_V_tell 4 (some .int) 2 43 [.ref 0, vi ((s : Int)), vi ((a : Int))] G (some (vi (G 47 s))) (uG G 47 (up (G 47) s (a : Int))) := by
  refine Ct.intro (by decide +kernel) (Nat.le_of_ble_eq_true rfl) ?_
  intro X hro hty hC hE
  obtain ⟨hw, hp47, hp48⟩ := id hv
  obtain ⟨hn, hN5, hsh, hac, hpa, hwe, hth⟩ := id hw
  have ha3 := hac s (by omega)
  have ha2 : a < 3 := by omega
  refine a_aload_n (pc := 0) (q := 0) (i := 0) (x := 0) hC (by decide +kernel) rfl 0 rfl ?_
  refine g_get (pc := 1) (idx := 10) (ci := 5) (v := .ref 1) hC 0 0 (by decide +kernel) rfl rfl rfl rfl wrV (by decide) rfl (by decide +kernel) ?_
  refine a_iload_n (pc := 4) (q := 1) (i := 1) (x := (s : Int)) hC (by decide +kernel) rfl 1 rfl ?_
  refine a_iload_n (pc := 5) (q := 2) (i := 2) (x := (a : Int)) hC (by decide +kernel) rfl 2 rfl ?_
  refine g_callVN (pc := 6) (idx := 89) (i := 1) (av := [vi ((s : Int)), vi ((a : Int))]) (rest := []) (g := G) (v := vi (hasA G ((s : Int)) ((a : Int)))) (host := "PlanValues") hC hro hty (by decide +kernel) rfl rfl k_W_hasAct (by decide +kernel) (by decide +kernel) (by decide +kernel) (ct_W_hasAct X.la X.dd K G N ((s : Int)) ((a : Int)) (by unfold inI; omega) (by unfold inI; omega) hw) rfl rfl (by decide) (by first | decide | simp [Value.category]) ?_
  refine a_if_ne (pc := 9) (off := 5) hC 14 (by decide +kernel) (by decide) (by unfold inI hasA; split <;> omega) (fun c9 => ?_) (fun c9 => ?_)
  · skip
    refine a_aload_n (pc := 14) (q := 0) (i := 0) (x := 0) hC (by decide +kernel) rfl 0 rfl ?_
    refine g_get (pc := 15) (idx := 41) (ci := 5) (v := .ref 47) hC 0 5 (by decide +kernel) rfl rfl rfl rfl wrV (by decide) rfl (by decide +kernel) ?_
    refine a_iload_n (pc := 18) (q := 1) (i := 1) (x := (s : Int)) hC (by decide +kernel) rfl 1 rfl ?_
    refine g_iald (pc := 19) (a := 47) (j := s) hC hty (by decide +kernel) rfl (by omega) (by first | decide | omega) ?_
    refine a_istore_n (pc := 20) (q := 3) (i := 3) (lv' := [(3, vi (G 47 s)), (0, .ref 0), (1, vi ((s : Int))), (2, vi ((a : Int)))]) hC (by decide +kernel) rfl (by decide) rfl ?_
    refine a_aload_n (pc := 21) (q := 0) (i := 0) (x := 0) hC (by decide +kernel) rfl 1 rfl ?_
    refine g_get (pc := 22) (idx := 41) (ci := 5) (v := .ref 47) hC 0 5 (by decide +kernel) rfl rfl rfl rfl wrV (by decide) rfl (by decide +kernel) ?_
    refine a_iload_n (pc := 25) (q := 1) (i := 1) (x := (s : Int)) hC (by decide +kernel) rfl 2 rfl ?_
    refine a_iload_n (pc := 26) (q := 2) (i := 2) (x := (a : Int)) hC (by decide +kernel) rfl 3 rfl ?_
    refine g_iast (pc := 27) (a := 47) (j := s) (x := (a : Int)) hC hty (by decide +kernel) rfl (by omega) (by first | decide | omega) ?_
    refine a_iload_n (pc := 28) (q := 3) (i := 3) (x := G 47 s) hC (by decide +kernel) rfl 0 rfl ?_
    exact g_iret (pc := 29) hC hE (by decide +kernel) rfl rfl
  · skip
    exact absurd c9 (by unfold hasA; rw [if_pos (by rw [Int.toNat_natCast]; omega)]; decide)

set_option maxRecDepth 100000 in
set_option maxHeartbeats 4000000 in
theorem ct_V_share_bad (l : Launch) (D : va_G) (K : K5) (G : GT) (u d : Int) (hui : inI u) (hdi : inI d) (hbad : d < 1 ∨ 6 < d ∨ u < 0 ∨ d ≤ u) : Ct l D K y_V_share c_V_share 3 (some .int) 0 0 [.ref 0, vi u, vi d] G (some (vi (-2))) G := by
  refine Ct.intro (by decide +kernel) (Nat.le_of_ble_eq_true rfl) ?_
  intro X hro hty hC hE
  unfold inI at hui hdi
  refine a_iload_n (pc := 0) (q := 2) (i := 2) (x := d) hC (by decide +kernel) rfl 2 rfl ?_
  refine a_iconst (pc := 1) (c := 1) hC (by decide +kernel) ?_
  refine a_icmp_lt (pc := 2) (off := 18) hC 20 (by decide +kernel) (by decide) (by unfold inI; omega) (by unfold inI; omega) (fun c2 => ?_) (fun c2 => ?_)
  · skip
    refine a_bipush (pc := 20) (c := -2) hC (by decide +kernel) (by decide +kernel) ?_
    exact g_iret (pc := 22) hC hE (by decide +kernel) rfl rfl
  · skip
    refine a_iload_n (pc := 5) (q := 2) (i := 2) (x := d) hC (by decide +kernel) rfl 2 rfl ?_
    refine a_bipush (pc := 6) (c := 6) hC (by decide +kernel) (by decide +kernel) ?_
    refine a_icmp_gt (pc := 8) (off := 12) hC 20 (by decide +kernel) (by decide) (by unfold inI; omega) (by unfold inI; omega) (fun c8 => ?_) (fun c8 => ?_)
    · skip
      refine a_bipush (pc := 20) (c := -2) hC (by decide +kernel) (by decide +kernel) ?_
      exact g_iret (pc := 22) hC hE (by decide +kernel) rfl rfl
    · skip
      refine a_iload_n (pc := 11) (q := 1) (i := 1) (x := u) hC (by decide +kernel) rfl 1 rfl ?_
      refine a_if_lt (pc := 12) (off := 8) hC 20 (by decide +kernel) (by decide) (by unfold inI; omega) (fun c12 => ?_) (fun c12 => ?_)
      · skip
        refine a_bipush (pc := 20) (c := -2) hC (by decide +kernel) (by decide +kernel) ?_
        exact g_iret (pc := 22) hC hE (by decide +kernel) rfl rfl
      · skip
        refine a_iload_n (pc := 15) (q := 1) (i := 1) (x := u) hC (by decide +kernel) rfl 1 rfl ?_
        refine a_iload_n (pc := 16) (q := 2) (i := 2) (x := d) hC (by decide +kernel) rfl 2 rfl ?_
        refine a_icmp_lt (pc := 17) (off := 6) hC 23 (by decide +kernel) (by decide) (by unfold inI; omega) (by unfold inI; omega) (fun c17 => ?_) (fun c17 => ?_)
        · skip
          exact absurd c17 (by omega)
        · skip
          refine a_bipush (pc := 20) (c := -2) hC (by decide +kernel) (by decide +kernel) ?_
          exact g_iret (pc := 22) hC hE (by decide +kernel) rfl rfl

set_option maxRecDepth 100000 in
set_option maxHeartbeats 4000000 in
theorem ct_V_share (l : Launch) (D : va_G) (K : K5) (G : GT) (u d : Int) (hui : inI u) (hdi : inI d) (hok : 1 ≤ d ∧ d ≤ 6 ∧ 0 ≤ u ∧ u < d) : Ct l D K y_V_share c_V_share 3 (some .int) 0 0 [.ref 0, vi u, vi d] G (some (vi 1)) (uG G 1 (up (up (G 1) 1 u) 2 d)) := by
  refine Ct.intro (by decide +kernel) (Nat.le_of_ble_eq_true rfl) ?_
  intro X hro hty hC hE
  unfold inI at hui hdi
  refine a_iload_n (pc := 0) (q := 2) (i := 2) (x := d) hC (by decide +kernel) rfl 2 rfl ?_
  refine a_iconst (pc := 1) (c := 1) hC (by decide +kernel) ?_
  refine a_icmp_lt (pc := 2) (off := 18) hC 20 (by decide +kernel) (by decide) (by unfold inI; omega) (by unfold inI; omega) (fun c2 => ?_) (fun c2 => ?_)
  · skip
    exact absurd c2 (by omega)
  · skip
    refine a_iload_n (pc := 5) (q := 2) (i := 2) (x := d) hC (by decide +kernel) rfl 2 rfl ?_
    refine a_bipush (pc := 6) (c := 6) hC (by decide +kernel) (by decide +kernel) ?_
    refine a_icmp_gt (pc := 8) (off := 12) hC 20 (by decide +kernel) (by decide) (by unfold inI; omega) (by unfold inI; omega) (fun c8 => ?_) (fun c8 => ?_)
    · skip
      exact absurd c8 (by omega)
    · skip
      refine a_iload_n (pc := 11) (q := 1) (i := 1) (x := u) hC (by decide +kernel) rfl 1 rfl ?_
      refine a_if_lt (pc := 12) (off := 8) hC 20 (by decide +kernel) (by decide) (by unfold inI; omega) (fun c12 => ?_) (fun c12 => ?_)
      · skip
        exact absurd c12 (by omega)
      · skip
        refine a_iload_n (pc := 15) (q := 1) (i := 1) (x := u) hC (by decide +kernel) rfl 1 rfl ?_
        refine a_iload_n (pc := 16) (q := 2) (i := 2) (x := d) hC (by decide +kernel) rfl 2 rfl ?_
        refine a_icmp_lt (pc := 17) (off := 6) hC 23 (by decide +kernel) (by decide) (by unfold inI; omega) (by unfold inI; omega) (fun c17 => ?_) (fun c17 => ?_)
        · skip
          refine a_aload_n (pc := 23) (q := 0) (i := 0) (x := 0) hC (by decide +kernel) rfl 0 rfl ?_
          refine g_get (pc := 24) (idx := 10) (ci := 5) (v := .ref 1) hC 0 0 (by decide +kernel) rfl rfl rfl rfl wrV (by decide) rfl (by decide +kernel) ?_
          refine a_iload_n (pc := 27) (q := 1) (i := 1) (x := u) hC (by decide +kernel) rfl 1 rfl ?_
          refine g_putN (pc := 28) (idx := 106) (ci := 4) (x := u) (host := "PlanValues") hC 1 1 (by decide +kernel) rfl rfl (congrArg (fun z => vi z) (up_s _ _ _)) rfl wrW (by decide) rfl (by decide +kernel) rfl (ok_int _) ?_
          refine a_aload_n (pc := 31) (q := 0) (i := 0) (x := 0) hC (by decide +kernel) rfl 0 rfl ?_
          refine g_get (pc := 32) (idx := 10) (ci := 5) (v := .ref 1) hC 0 0 (by decide +kernel) rfl rfl rfl rfl wrV (by decide) rfl (by decide +kernel) ?_
          refine a_iload_n (pc := 35) (q := 2) (i := 2) (x := d) hC (by decide +kernel) rfl 2 rfl ?_
          refine g_putN (pc := 36) (idx := 109) (ci := 4) (x := d) (host := "PlanValues") hC 1 2 (by decide +kernel) rfl rfl (congrArg (fun z => vi z) (up_s _ _ _)) rfl wrW (by decide) rfl (by decide +kernel) rfl (ok_int _) ?_
          refine a_iconst (pc := 39) (c := 1) hC (by decide +kernel) ?_
          exact g_iret (pc := 40) hC hE (by decide +kernel) rfl (by rw [uG_s, uG_uG])
        · skip
          exact absurd c17 (by omega)

set_option maxRecDepth 100000 in
set_option maxHeartbeats 4000000 in
theorem ct_V_weight_no (l : Launch) (D : va_G) (K : K5) (G : GT) (N : Nat) (s a t x : Int) (hsi : inI s) (hai : inI a) (hti : inI t) (hxi : inI x) (hv : VV G N) (hno : hasA G s a = 0 ∨ hasS G t = 0) : Ct l D K y_V_weight c_V_weight 8 (some .int) 2 43 [.ref 0, vi s, vi a, vi t, vi x] G (some (vi (-1))) G := by
  refine Ct.intro (by decide +kernel) (Nat.le_of_ble_eq_true rfl) ?_
  intro X hro hty hC hE
  obtain ⟨hw, hp47, hp48⟩ := id hv
  obtain ⟨hn, hN5, hsh, hac, hpa, hwe, hth⟩ := id hw
  refine a_aload_n (pc := 0) (q := 0) (i := 0) (x := 0) hC (by decide +kernel) rfl 0 rfl ?_
  refine g_get (pc := 1) (idx := 10) (ci := 5) (v := .ref 1) hC 0 0 (by decide +kernel) rfl rfl rfl rfl wrV (by decide) rfl (by decide +kernel) ?_
  refine a_iload_n (pc := 4) (q := 1) (i := 1) (x := s) hC (by decide +kernel) rfl 1 rfl ?_
  refine a_iload_n (pc := 5) (q := 2) (i := 2) (x := a) hC (by decide +kernel) rfl 2 rfl ?_
  refine g_callVN (pc := 6) (idx := 89) (i := 1) (av := [vi s, vi a]) (rest := []) (g := G) (v := vi (hasA G s a)) (host := "PlanValues") hC hro hty (by decide +kernel) rfl rfl k_W_hasAct (by decide +kernel) (by decide +kernel) (by decide +kernel) (ct_W_hasAct X.la X.dd K G N s a hsi hai hw) rfl rfl (by decide) (by first | decide | simp [Value.category]) ?_
  refine a_if_eq (pc := 9) (off := 14) hC 23 (by decide +kernel) (by decide) (by unfold inI hasA; split <;> omega) (fun c9 => ?_) (fun c9 => ?_)
  · skip
    refine a_iconst (pc := 23) (c := -1) hC (by decide +kernel) ?_
    exact g_iret (pc := 24) hC hE (by decide +kernel) rfl rfl
  · skip
    refine a_aload_n (pc := 12) (q := 0) (i := 0) (x := 0) hC (by decide +kernel) rfl 0 rfl ?_
    refine g_get (pc := 13) (idx := 10) (ci := 5) (v := .ref 1) hC 0 0 (by decide +kernel) rfl rfl rfl rfl wrV (by decide) rfl (by decide +kernel) ?_
    refine a_iload_n (pc := 16) (q := 3) (i := 3) (x := t) hC (by decide +kernel) rfl 3 rfl ?_
    refine g_callVN (pc := 17) (idx := 75) (i := 1) (av := [vi t]) (rest := []) (g := G) (v := vi (hasS G t)) (host := "PlanValues") hC hro hty (by decide +kernel) rfl rfl k_W_hasState (by decide +kernel) (by decide +kernel) (by decide +kernel) (ct_W_hasState X.la X.dd K G N t hti hw) rfl rfl (by decide) (by first | decide | simp [Value.category]) ?_
    refine a_if_ne (pc := 20) (off := 5) hC 25 (by decide +kernel) (by decide) (by unfold inI hasS; split <;> omega) (fun c20 => ?_) (fun c20 => ?_)
    · skip
      exact hno.elim (fun h => absurd h c9) (fun h => absurd h c20)
    · skip
      refine a_iconst (pc := 23) (c := -1) hC (by decide +kernel) ?_
      exact g_iret (pc := 24) hC hE (by decide +kernel) rfl rfl

set_option maxRecDepth 100000 in
set_option maxHeartbeats 4000000 in
theorem ct_V_weight_bad (l : Launch) (D : va_G) (K : K5) (G : GT) (N s a t : Nat) (x : Int) (hs : s < N) (ha : (a : Int) < G 3 s) (ht : t < N) (hxi : inI x) (hv : VV G N) (hbad : x < 0 ∨ 6 < x ∨ 6 < G 5 (s * 3 + a) - G (7 + (s * 3 + a)) t + x) : Ct l D K y_V_weight c_V_weight 8 (some .int) 2 43 [.ref 0, vi ((s : Int)), vi ((a : Int)), vi ((t : Int)), vi x] G (some (vi (-2))) G := by
  refine Ct.intro (by decide +kernel) (Nat.le_of_ble_eq_true rfl) ?_
  intro X hro hty hC hE
  obtain ⟨hw, hp47, hp48⟩ := id hv
  obtain ⟨hn, hN5, hsh, hac, hpa, hwe, hth⟩ := id hw
  have ha3 := hac s (by omega)
  have ha2 : a < 3 := by omega
  unfold inI at hxi
  have hps := hpa (s * 3 + a) (by omega)
  have hwt := hwe (s * 3 + a) t (by omega) (by omega)
  refine a_aload_n (pc := 0) (q := 0) (i := 0) (x := 0) hC (by decide +kernel) rfl 0 rfl ?_
  refine g_get (pc := 1) (idx := 10) (ci := 5) (v := .ref 1) hC 0 0 (by decide +kernel) rfl rfl rfl rfl wrV (by decide) rfl (by decide +kernel) ?_
  refine a_iload_n (pc := 4) (q := 1) (i := 1) (x := (s : Int)) hC (by decide +kernel) rfl 1 rfl ?_
  refine a_iload_n (pc := 5) (q := 2) (i := 2) (x := (a : Int)) hC (by decide +kernel) rfl 2 rfl ?_
  refine g_callVN (pc := 6) (idx := 89) (i := 1) (av := [vi ((s : Int)), vi ((a : Int))]) (rest := []) (g := G) (v := vi (hasA G ((s : Int)) ((a : Int)))) (host := "PlanValues") hC hro hty (by decide +kernel) rfl rfl k_W_hasAct (by decide +kernel) (by decide +kernel) (by decide +kernel) (ct_W_hasAct X.la X.dd K G N ((s : Int)) ((a : Int)) (by unfold inI; omega) (by unfold inI; omega) hw) rfl rfl (by decide) (by first | decide | simp [Value.category]) ?_
  refine a_if_eq (pc := 9) (off := 14) hC 23 (by decide +kernel) (by decide) (by unfold inI hasA; split <;> omega) (fun c9 => ?_) (fun c9 => ?_)
  · skip
    exact absurd c9 (by unfold hasA; rw [if_pos (by rw [Int.toNat_natCast]; omega)]; decide)
  · skip
    refine a_aload_n (pc := 12) (q := 0) (i := 0) (x := 0) hC (by decide +kernel) rfl 0 rfl ?_
    refine g_get (pc := 13) (idx := 10) (ci := 5) (v := .ref 1) hC 0 0 (by decide +kernel) rfl rfl rfl rfl wrV (by decide) rfl (by decide +kernel) ?_
    refine a_iload_n (pc := 16) (q := 3) (i := 3) (x := (t : Int)) hC (by decide +kernel) rfl 3 rfl ?_
    refine g_callVN (pc := 17) (idx := 75) (i := 1) (av := [vi ((t : Int))]) (rest := []) (g := G) (v := vi (hasS G ((t : Int)))) (host := "PlanValues") hC hro hty (by decide +kernel) rfl rfl k_W_hasState (by decide +kernel) (by decide +kernel) (by decide +kernel) (ct_W_hasState X.la X.dd K G N ((t : Int)) (by unfold inI; omega) hw) rfl rfl (by decide) (by first | decide | simp [Value.category]) ?_
    refine a_if_ne (pc := 20) (off := 5) hC 25 (by decide +kernel) (by decide) (by unfold inI hasS; split <;> omega) (fun c20 => ?_) (fun c20 => ?_)
    · skip
      refine a_iload (pc := 25) (i := 4) (x := x) hC (by decide +kernel) 4 rfl ?_
      refine a_if_lt (pc := 27) (off := 10) hC 37 (by decide +kernel) (by decide) (by unfold inI; omega) (fun c27 => ?_) (fun c27 => ?_)
      · skip
        refine a_bipush (pc := 37) (c := -2) hC (by decide +kernel) (by decide +kernel) ?_
        exact g_iret (pc := 39) hC hE (by decide +kernel) rfl rfl
      · skip
        refine a_iload (pc := 30) (i := 4) (x := x) hC (by decide +kernel) 4 rfl ?_
        refine a_bipush (pc := 32) (c := 6) hC (by decide +kernel) (by decide +kernel) ?_
        refine a_icmp_le (pc := 34) (off := 6) hC 40 (by decide +kernel) (by decide) (by unfold inI; omega) (by unfold inI; omega) (fun c34 => ?_) (fun c34 => ?_)
        · skip
          refine a_iload_n (pc := 40) (q := 1) (i := 1) (x := (s : Int)) hC (by decide +kernel) rfl 1 rfl ?_
          refine a_iload_n (pc := 41) (q := 2) (i := 2) (x := (a : Int)) hC (by decide +kernel) rfl 2 rfl ?_
          refine g_callSN (pc := 42) (idx := 93) (av := [vi ((s : Int)), vi ((a : Int))]) (rest := []) (g := G) (v := vi (((s : Int)) * 3 + ((a : Int)))) (host := "PlanValues") hC hro hty (by decide +kernel) k_W_slotOf (by decide +kernel) (by decide +kernel) (ct_W_slotOf X.la X.dd K G ((s : Int)) ((a : Int))) rfl rfl (by decide) (by first | decide | simp [Value.category]) ?_
          refine g_top (y := ((s * 3 + a : Nat) : Int)) (by omega) ?_
          refine a_istore (pc := 45) (q := 0) (i := 5) (lv' := [(5, vi (((s * 3 + a : Nat) : Int))), (0, .ref 0), (1, vi ((s : Int))), (2, vi ((a : Int))), (3, vi ((t : Int))), (4, vi x)]) hC (by decide +kernel) (by decide) rfl ?_
          refine a_aload_n (pc := 47) (q := 0) (i := 0) (x := 0) hC (by decide +kernel) rfl 1 rfl ?_
          refine g_get (pc := 48) (idx := 10) (ci := 5) (v := .ref 1) hC 0 0 (by decide +kernel) rfl rfl rfl rfl wrV (by decide) rfl (by decide +kernel) ?_
          refine g_getN (pc := 51) (idx := 96) (ci := 4) (v := .ref 6) (host := "PlanValues") hC 1 7 (by decide +kernel) rfl rfl rfl rfl wrW (by decide) rfl (by decide +kernel) ?_
          refine a_iload (pc := 54) (i := 5) (x := ((s * 3 + a : Nat) : Int)) hC (by decide +kernel) 0 rfl ?_
          refine g_aaldI (pc := 56) (a := 6) (j := s * 3 + a) hC hty (by decide +kernel) rfl (by omega) (by first | decide | omega) ?_
          refine a_iload_n (pc := 57) (q := 3) (i := 3) (x := (t : Int)) hC (by decide +kernel) rfl 4 rfl ?_
          refine g_iald (pc := 58) (a := 7 + (s * 3 + a)) (j := t) hC hty (by decide +kernel) (sh_we (by omega : (s * 3 + a) < 15)) (by omega) (by first | decide | omega) ?_
          refine a_istore (pc := 59) (q := 0) (i := 6) (lv' := [(6, vi (G (7 + (s * 3 + a)) t)), (5, vi (((s * 3 + a : Nat) : Int))), (0, .ref 0), (1, vi ((s : Int))), (2, vi ((a : Int))), (3, vi ((t : Int))), (4, vi x)]) hC (by decide +kernel) (by decide) rfl ?_
          refine a_aload_n (pc := 61) (q := 0) (i := 0) (x := 0) hC (by decide +kernel) rfl 2 rfl ?_
          refine g_get (pc := 62) (idx := 10) (ci := 5) (v := .ref 1) hC 0 0 (by decide +kernel) rfl rfl rfl rfl wrV (by decide) rfl (by decide +kernel) ?_
          refine g_getN (pc := 65) (idx := 100) (ci := 4) (v := .ref 5) (host := "PlanValues") hC 1 6 (by decide +kernel) rfl rfl rfl rfl wrW (by decide) rfl (by decide +kernel) ?_
          refine a_iload (pc := 68) (i := 5) (x := ((s * 3 + a : Nat) : Int)) hC (by decide +kernel) 1 rfl ?_
          refine g_iald (pc := 70) (a := 5) (j := s * 3 + a) hC hty (by decide +kernel) rfl (by omega) (by first | decide | omega) ?_
          refine a_iload (pc := 71) (i := 6) (x := G (7 + (s * 3 + a)) t) hC (by decide +kernel) 0 rfl ?_
          refine a_isub (pc := 73) hC (by decide +kernel) ?_
          refine a_iload (pc := 74) (i := 4) (x := x) hC (by decide +kernel) 6 rfl ?_
          refine a_iadd (pc := 76) hC (by decide +kernel) ?_
          refine a_istore (pc := 77) (q := 0) (i := 7) (lv' := [(7, vi (((G 5 (s * 3 + a)) - (G (7 + (s * 3 + a)) t)) + x)), (6, vi (G (7 + (s * 3 + a)) t)), (5, vi (((s * 3 + a : Nat) : Int))), (0, .ref 0), (1, vi ((s : Int))), (2, vi ((a : Int))), (3, vi ((t : Int))), (4, vi x)]) hC (by decide +kernel) (by decide) rfl ?_
          refine a_iload (pc := 79) (i := 7) (x := ((G 5 (s * 3 + a)) - (G (7 + (s * 3 + a)) t)) + x) hC (by decide +kernel) 0 rfl ?_
          refine a_bipush (pc := 81) (c := 6) hC (by decide +kernel) (by decide +kernel) ?_
          refine a_icmp_le (pc := 83) (off := 6) hC 89 (by decide +kernel) (by decide) (by unfold inI; omega) (by unfold inI; omega) (fun c83 => ?_) (fun c83 => ?_)
          · skip
            exact absurd c83 (by omega)
          · skip
            refine a_bipush (pc := 86) (c := -2) hC (by decide +kernel) (by decide +kernel) ?_
            exact g_iret (pc := 88) hC hE (by decide +kernel) rfl rfl
        · skip
          refine a_bipush (pc := 37) (c := -2) hC (by decide +kernel) (by decide +kernel) ?_
          exact g_iret (pc := 39) hC hE (by decide +kernel) rfl rfl
    · skip
      exact absurd c20 (by unfold hasS; rw [if_pos (by omega)]; decide)

set_option maxRecDepth 100000 in
set_option maxHeartbeats 4000000 in
theorem ct_V_weight (l : Launch) (D : va_G) (K : K5) (G : GT) (N s a t : Nat) (x : Int) (hs : s < N) (ha : (a : Int) < G 3 s) (ht : t < N) (hxi : inI x) (hv : VV G N) (hok : 0 ≤ x ∧ x ≤ 6 ∧ G 5 (s * 3 + a) - G (7 + (s * 3 + a)) t + x ≤ 6) : Ct l D K y_V_weight c_V_weight 8 (some .int) 2 43 [.ref 0, vi ((s : Int)), vi ((a : Int)), vi ((t : Int)), vi x] G (some (vi (G (7 + (s * 3 + a)) t))) (uG (uG G (7 + (s * 3 + a)) (up (G (7 + (s * 3 + a))) t x)) 5 (up (G 5) (s * 3 + a) (G 5 (s * 3 + a) - G (7 + (s * 3 + a)) t + x))) := by
  refine Ct.intro (by decide +kernel) (Nat.le_of_ble_eq_true rfl) ?_
  intro X hro hty hC hE
  obtain ⟨hw, hp47, hp48⟩ := id hv
  obtain ⟨hn, hN5, hsh, hac, hpa, hwe, hth⟩ := id hw
  have ha3 := hac s (by omega)
  have ha2 : a < 3 := by omega
  unfold inI at hxi
  have hps := hpa (s * 3 + a) (by omega)
  have hwt := hwe (s * 3 + a) t (by omega) (by omega)
  refine a_aload_n (pc := 0) (q := 0) (i := 0) (x := 0) hC (by decide +kernel) rfl 0 rfl ?_
  refine g_get (pc := 1) (idx := 10) (ci := 5) (v := .ref 1) hC 0 0 (by decide +kernel) rfl rfl rfl rfl wrV (by decide) rfl (by decide +kernel) ?_
  refine a_iload_n (pc := 4) (q := 1) (i := 1) (x := (s : Int)) hC (by decide +kernel) rfl 1 rfl ?_
  refine a_iload_n (pc := 5) (q := 2) (i := 2) (x := (a : Int)) hC (by decide +kernel) rfl 2 rfl ?_
  refine g_callVN (pc := 6) (idx := 89) (i := 1) (av := [vi ((s : Int)), vi ((a : Int))]) (rest := []) (g := G) (v := vi (hasA G ((s : Int)) ((a : Int)))) (host := "PlanValues") hC hro hty (by decide +kernel) rfl rfl k_W_hasAct (by decide +kernel) (by decide +kernel) (by decide +kernel) (ct_W_hasAct X.la X.dd K G N ((s : Int)) ((a : Int)) (by unfold inI; omega) (by unfold inI; omega) hw) rfl rfl (by decide) (by first | decide | simp [Value.category]) ?_
  refine a_if_eq (pc := 9) (off := 14) hC 23 (by decide +kernel) (by decide) (by unfold inI hasA; split <;> omega) (fun c9 => ?_) (fun c9 => ?_)
  · skip
    exact absurd c9 (by unfold hasA; rw [if_pos (by rw [Int.toNat_natCast]; omega)]; decide)
  · skip
    refine a_aload_n (pc := 12) (q := 0) (i := 0) (x := 0) hC (by decide +kernel) rfl 0 rfl ?_
    refine g_get (pc := 13) (idx := 10) (ci := 5) (v := .ref 1) hC 0 0 (by decide +kernel) rfl rfl rfl rfl wrV (by decide) rfl (by decide +kernel) ?_
    refine a_iload_n (pc := 16) (q := 3) (i := 3) (x := (t : Int)) hC (by decide +kernel) rfl 3 rfl ?_
    refine g_callVN (pc := 17) (idx := 75) (i := 1) (av := [vi ((t : Int))]) (rest := []) (g := G) (v := vi (hasS G ((t : Int)))) (host := "PlanValues") hC hro hty (by decide +kernel) rfl rfl k_W_hasState (by decide +kernel) (by decide +kernel) (by decide +kernel) (ct_W_hasState X.la X.dd K G N ((t : Int)) (by unfold inI; omega) hw) rfl rfl (by decide) (by first | decide | simp [Value.category]) ?_
    refine a_if_ne (pc := 20) (off := 5) hC 25 (by decide +kernel) (by decide) (by unfold inI hasS; split <;> omega) (fun c20 => ?_) (fun c20 => ?_)
    · skip
      refine a_iload (pc := 25) (i := 4) (x := x) hC (by decide +kernel) 4 rfl ?_
      refine a_if_lt (pc := 27) (off := 10) hC 37 (by decide +kernel) (by decide) (by unfold inI; omega) (fun c27 => ?_) (fun c27 => ?_)
      · skip
        exact absurd c27 (by omega)
      · skip
        refine a_iload (pc := 30) (i := 4) (x := x) hC (by decide +kernel) 4 rfl ?_
        refine a_bipush (pc := 32) (c := 6) hC (by decide +kernel) (by decide +kernel) ?_
        refine a_icmp_le (pc := 34) (off := 6) hC 40 (by decide +kernel) (by decide) (by unfold inI; omega) (by unfold inI; omega) (fun c34 => ?_) (fun c34 => ?_)
        · skip
          refine a_iload_n (pc := 40) (q := 1) (i := 1) (x := (s : Int)) hC (by decide +kernel) rfl 1 rfl ?_
          refine a_iload_n (pc := 41) (q := 2) (i := 2) (x := (a : Int)) hC (by decide +kernel) rfl 2 rfl ?_
          refine g_callSN (pc := 42) (idx := 93) (av := [vi ((s : Int)), vi ((a : Int))]) (rest := []) (g := G) (v := vi (((s : Int)) * 3 + ((a : Int)))) (host := "PlanValues") hC hro hty (by decide +kernel) k_W_slotOf (by decide +kernel) (by decide +kernel) (ct_W_slotOf X.la X.dd K G ((s : Int)) ((a : Int))) rfl rfl (by decide) (by first | decide | simp [Value.category]) ?_
          refine g_top (y := ((s * 3 + a : Nat) : Int)) (by omega) ?_
          refine a_istore (pc := 45) (q := 0) (i := 5) (lv' := [(5, vi (((s * 3 + a : Nat) : Int))), (0, .ref 0), (1, vi ((s : Int))), (2, vi ((a : Int))), (3, vi ((t : Int))), (4, vi x)]) hC (by decide +kernel) (by decide) rfl ?_
          refine a_aload_n (pc := 47) (q := 0) (i := 0) (x := 0) hC (by decide +kernel) rfl 1 rfl ?_
          refine g_get (pc := 48) (idx := 10) (ci := 5) (v := .ref 1) hC 0 0 (by decide +kernel) rfl rfl rfl rfl wrV (by decide) rfl (by decide +kernel) ?_
          refine g_getN (pc := 51) (idx := 96) (ci := 4) (v := .ref 6) (host := "PlanValues") hC 1 7 (by decide +kernel) rfl rfl rfl rfl wrW (by decide) rfl (by decide +kernel) ?_
          refine a_iload (pc := 54) (i := 5) (x := ((s * 3 + a : Nat) : Int)) hC (by decide +kernel) 0 rfl ?_
          refine g_aaldI (pc := 56) (a := 6) (j := s * 3 + a) hC hty (by decide +kernel) rfl (by omega) (by first | decide | omega) ?_
          refine a_iload_n (pc := 57) (q := 3) (i := 3) (x := (t : Int)) hC (by decide +kernel) rfl 4 rfl ?_
          refine g_iald (pc := 58) (a := 7 + (s * 3 + a)) (j := t) hC hty (by decide +kernel) (sh_we (by omega : (s * 3 + a) < 15)) (by omega) (by first | decide | omega) ?_
          refine a_istore (pc := 59) (q := 0) (i := 6) (lv' := [(6, vi (G (7 + (s * 3 + a)) t)), (5, vi (((s * 3 + a : Nat) : Int))), (0, .ref 0), (1, vi ((s : Int))), (2, vi ((a : Int))), (3, vi ((t : Int))), (4, vi x)]) hC (by decide +kernel) (by decide) rfl ?_
          refine a_aload_n (pc := 61) (q := 0) (i := 0) (x := 0) hC (by decide +kernel) rfl 2 rfl ?_
          refine g_get (pc := 62) (idx := 10) (ci := 5) (v := .ref 1) hC 0 0 (by decide +kernel) rfl rfl rfl rfl wrV (by decide) rfl (by decide +kernel) ?_
          refine g_getN (pc := 65) (idx := 100) (ci := 4) (v := .ref 5) (host := "PlanValues") hC 1 6 (by decide +kernel) rfl rfl rfl rfl wrW (by decide) rfl (by decide +kernel) ?_
          refine a_iload (pc := 68) (i := 5) (x := ((s * 3 + a : Nat) : Int)) hC (by decide +kernel) 1 rfl ?_
          refine g_iald (pc := 70) (a := 5) (j := s * 3 + a) hC hty (by decide +kernel) rfl (by omega) (by first | decide | omega) ?_
          refine a_iload (pc := 71) (i := 6) (x := G (7 + (s * 3 + a)) t) hC (by decide +kernel) 0 rfl ?_
          refine a_isub (pc := 73) hC (by decide +kernel) ?_
          refine a_iload (pc := 74) (i := 4) (x := x) hC (by decide +kernel) 6 rfl ?_
          refine a_iadd (pc := 76) hC (by decide +kernel) ?_
          refine a_istore (pc := 77) (q := 0) (i := 7) (lv' := [(7, vi (((G 5 (s * 3 + a)) - (G (7 + (s * 3 + a)) t)) + x)), (6, vi (G (7 + (s * 3 + a)) t)), (5, vi (((s * 3 + a : Nat) : Int))), (0, .ref 0), (1, vi ((s : Int))), (2, vi ((a : Int))), (3, vi ((t : Int))), (4, vi x)]) hC (by decide +kernel) (by decide) rfl ?_
          refine a_iload (pc := 79) (i := 7) (x := ((G 5 (s * 3 + a)) - (G (7 + (s * 3 + a)) t)) + x) hC (by decide +kernel) 0 rfl ?_
          refine a_bipush (pc := 81) (c := 6) hC (by decide +kernel) (by decide +kernel) ?_
          refine a_icmp_le (pc := 83) (off := 6) hC 89 (by decide +kernel) (by decide) (by unfold inI; omega) (by unfold inI; omega) (fun c83 => ?_) (fun c83 => ?_)
          · skip
            refine a_aload_n (pc := 89) (q := 0) (i := 0) (x := 0) hC (by decide +kernel) rfl 3 rfl ?_
            refine g_get (pc := 90) (idx := 10) (ci := 5) (v := .ref 1) hC 0 0 (by decide +kernel) rfl rfl rfl rfl wrV (by decide) rfl (by decide +kernel) ?_
            refine g_getN (pc := 93) (idx := 96) (ci := 4) (v := .ref 6) (host := "PlanValues") hC 1 7 (by decide +kernel) rfl rfl rfl rfl wrW (by decide) rfl (by decide +kernel) ?_
            refine a_iload (pc := 96) (i := 5) (x := ((s * 3 + a : Nat) : Int)) hC (by decide +kernel) 2 rfl ?_
            refine g_aaldI (pc := 98) (a := 6) (j := s * 3 + a) hC hty (by decide +kernel) rfl (by omega) (by first | decide | omega) ?_
            refine a_iload_n (pc := 99) (q := 3) (i := 3) (x := (t : Int)) hC (by decide +kernel) rfl 6 rfl ?_
            refine a_iload (pc := 100) (i := 4) (x := x) hC (by decide +kernel) 7 rfl ?_
            refine g_iast (pc := 102) (a := 7 + (s * 3 + a)) (j := t) (x := x) hC hty (by decide +kernel) (sh_we (by omega : (s * 3 + a) < 15)) (by omega) (by first | decide | omega) ?_
            refine a_aload_n (pc := 103) (q := 0) (i := 0) (x := 0) hC (by decide +kernel) rfl 3 rfl ?_
            refine g_get (pc := 104) (idx := 10) (ci := 5) (v := .ref 1) hC 0 0 (by decide +kernel) rfl rfl rfl rfl wrV (by decide) rfl (by decide +kernel) ?_
            refine g_getN (pc := 107) (idx := 100) (ci := 4) (v := .ref 5) (host := "PlanValues") hC 1 6 (by decide +kernel) rfl rfl rfl rfl wrW (by decide) rfl (by decide +kernel) ?_
            refine a_iload (pc := 110) (i := 5) (x := ((s * 3 + a : Nat) : Int)) hC (by decide +kernel) 2 rfl ?_
            refine a_iload (pc := 112) (i := 7) (x := ((G 5 (s * 3 + a)) - (G (7 + (s * 3 + a)) t)) + x) hC (by decide +kernel) 0 rfl ?_
            refine g_iast (pc := 114) (a := 5) (j := s * 3 + a) (x := ((G 5 (s * 3 + a)) - (G (7 + (s * 3 + a)) t)) + x) hC hty (by decide +kernel) rfl (by omega) (by first | decide | omega) ?_
            refine a_iload (pc := 115) (i := 6) (x := G (7 + (s * 3 + a)) t) hC (by decide +kernel) 1 rfl ?_
            exact g_iret (pc := 117) hC hE (by decide +kernel) rfl (by rw [uG_n (b := 5) _ _ (by omega)])
          · skip
            exact absurd c83 (by omega)
        · skip
          exact absurd c34 (by omega)
    · skip
      exact absurd c20 (by unfold hasS; rw [if_pos (by omega)]; decide)

set_option maxRecDepth 100000 in
set_option maxHeartbeats 4000000 in
theorem ct_V_upper (l : Launch) (D : va_G) (K : K5) (G : GT)  : Ct l D K y_V_upper c_V_upper 1 (some .long) 0 0 [.ref 0] G (some (vl (G 0 8))) G := by
  refine Ct.intro (by decide +kernel) (Nat.le_of_ble_eq_true rfl) ?_
  intro X hro hty hC hE
  refine a_aload_n (pc := 0) (q := 0) (i := 0) (x := 0) hC (by decide +kernel) rfl 0 rfl ?_
  refine g_get (pc := 1) (idx := 51) (ci := 5) (v := vl (G 0 8)) hC 0 8 (by decide +kernel) rfl rfl rfl rfl wrV (by decide) rfl (by decide +kernel) ?_
  exact g_lret (pc := 4) hC hE (by decide +kernel) rfl rfl

set_option maxRecDepth 100000 in
set_option maxHeartbeats 4000000 in
theorem ct_V_lower (l : Launch) (D : va_G) (K : K5) (G : GT)  : Ct l D K y_V_lower c_V_lower 1 (some .long) 0 0 [.ref 0] G (some (vl (G 0 9))) G := by
  refine Ct.intro (by decide +kernel) (Nat.le_of_ble_eq_true rfl) ?_
  intro X hro hty hC hE
  refine a_aload_n (pc := 0) (q := 0) (i := 0) (x := 0) hC (by decide +kernel) rfl 0 rfl ?_
  refine g_get (pc := 1) (idx := 55) (ci := 5) (v := vl (G 0 9)) hC 0 9 (by decide +kernel) rfl rfl rfl rfl wrV (by decide) rfl (by decide +kernel) ?_
  exact g_lret (pc := 4) hC hE (by decide +kernel) rfl rfl
