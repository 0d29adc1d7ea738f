/-! PlanValues: change, within -/
def chH (G : GT) (N s : Nat) : Nat → GT
  | 0 => trG G
  | a + 1 => folR (uG (chH G N s a) 49 (up (chH G N s a 49) s (a : Int))) 49 N
def chP (G : GT) (N s : Nat) : Nat → Int × Int × Int
  | 0 => (0, 0, 1)
  | a + 1 => if a = 0 ∨ likesZ G s ((chH G N s (a + 1) 31 s) * (chP G N s a).2.2) ((chP G N s a).2.1 * (chH G N s (a + 1) 30 1)) = 1 then ((a : Int), chH G N s (a + 1) 31 s, chH G N s (a + 1) 30 1) else chP G N s a
theorem chH_off {G : GT} {N s : Nat} (hN : N ≤ 5) {c : Nat} (h : c < 25 ∨ 32 ≤ c) (hp : c ≠ 49) : ∀ a, chH G N s a c = G c
  | 0 => uG_n _ _ hp
  | a + 1 => by show folR _ 49 N c = _; rw [folR_off hN h, uG_n _ _ hp, chH_off hN h hp a]
theorem chH_st {G : GT} {N s : Nat} (hw : WW G N) (hp : PlOk G 47 N) (hs : s < N) : ∀ a, a ≤ 3 → WW (chH G N s a) N ∧ PlOk (chH G N s a) 49 N
  | 0, _ => ⟨hw.tr, hp.tr hw.2.1⟩
  | a + 1, ha => by
    have ih := chH_st hw hp hs a (by omega)
    have w2 : WW (uG (chH G N s a) 49 (up (chH G N s a 49) s (a : Int))) N := ih.1.keep (fun c hc => uG_n _ _ (by omega))
    have p2 : PlOk (uG (chH G N s a) 49 (up (chH G N s a 49) s (a : Int))) 49 N := ⟨Or.inr (Or.inr rfl), fun t ht => by
      rw [uG_s]
      by_cases e : t = s
      · subst e; rw [up_s]; omega
      · rw [up_n _ _ e]; exact ih.2.2 t ht⟩
    exact ⟨w2.folR, p2.folR w2⟩
theorem chH_st2 {G : GT} {N s a : Nat} (hw : WW G N) (hp : PlOk G 47 N) (hs : s < N) (ha : a < 3) : WW (uG (chH G N s a) 49 (up (chH G N s a 49) s (a : Int))) N ∧ PlOk (uG (chH G N s a) 49 (up (chH G N s a 49) s (a : Int))) 49 N := by
  have ih := chH_st hw hp hs a (by omega)
  refine ⟨ih.1.keep (fun c hc => uG_n _ _ (by omega)), Or.inr (Or.inr rfl), fun t ht => ?_⟩
  rw [uG_s]
  by_cases e : t = s
  · subst e; rw [up_s]; omega
  · rw [up_n _ _ e]; exact ih.2.2 t ht
theorem chP_in {G : GT} {N s : Nat} (hm : MathOk) (hw : WW G N) (hp : PlOk G 47 N) (hs : s < N) : ∀ a, a ≤ 3 → (-18139852800 ≤ (chP G N s a).2.1 ∧ (chP G N s a).2.1 ≤ 18139852800) ∧ (1 ≤ (chP G N s a).2.2 ∧ (chP G N s a).2.2 ≤ 60466176) ∧ 0 ≤ (chP G N s a).1 ∧ (chP G N s a).1 ≤ 2
  | 0, _ => by unfold chP; simp
  | a + 1, ha => by
    have ih := chP_in hm hw hp hs a (by omega)
    have h2 := chH_st2 (a := a) hw hp hs (by omega)
    have hn := (hm _ 49 N h2.1 h2.2).2.2
    unfold chP
    split
    · exact ⟨hn.2.2 s hs, ⟨hn.1, hn.2.1⟩, by show (0 : Int) ≤ (a : Int); omega, by show (a : Int) ≤ 2; omega⟩
    · exact ih
def stS (G : GT) (N : Nat) : Nat → GT
  | 0 => uG (uG G 45 (fillF (G 45) 5 0)) 44 (up (G 44) 1 1)
  | k + 1 => stpG (stS G N k) N
theorem stS_off {G : GT} {N : Nat} {c : Nat} (h : c < 44 ∨ 47 ≤ c) : ∀ k, stS G N k c = G c
  | 0 => by unfold stS; rw [uG_n _ _ (by omega), uG_n _ _ (by omega)]
  | k + 1 => by show stpG _ N c = _; unfold stpG; rw [uG_n _ _ (by omega), uG_n _ _ (by omega), uG_n _ _ (by omega), stS_off h k]
/-- what within needs of the arithmetic -/
def StpOk (G : GT) (N : Nat) : Prop := ∀ k, k ≤ 5 → ComOk (stS G N k) N 44 ∧ (1 ≤ stS G N k 44 1 ∧ stS G N k 44 1 ≤ 10000000000000) ∧ ∀ s, s < N → -10000000000000000 ≤ stS G N k 45 s ∧ stS G N k 45 s ≤ 10000000000000000

set_option maxRecDepth 100000 in
set_option maxHeartbeats 4000000 in
theorem ct_V_change_no (l : Launch) (D : va_G) (K : K5) (G : GT) (N : Nat) (s : Int)  (hsi : inI s) (hv : VV G N) (hno : hasS G s = 0) : Ct l D K y_V_change c_V_change 12 (some .int) 3 84 [.ref 0, vi s] G (some (vi (-1))) G := by
  refine Ct.intro (by decide +kernel) (Nat.le_of_ble_eq_true rfl) ?_
  intro X hro hty hC hE
  obtain ⟨hw, hp47, hp48⟩ := id hv
  obtain ⟨hn, hN5, hsh, hac, hpa, hwe, hth⟩ := id hw
  refine a_aload_n (pc := 0) (q := 0) (i := 0) (x := 0) hC (by decide +kernel) rfl 0 rfl ?_
  refine g_get (pc := 1) (idx := 10) (ci := 5) (v := .ref 1) hC 0 0 (by decide +kernel) rfl rfl rfl rfl wrV (by decide) rfl (by decide +kernel) ?_
  refine a_iload_n (pc := 4) (q := 1) (i := 1) (x := s) hC (by decide +kernel) rfl 1 rfl ?_
  refine g_callVN (pc := 5) (idx := 75) (i := 1) (av := [vi s]) (rest := []) (g := G) (v := vi (hasS G s)) (host := "PlanValues") hC hro hty (by decide +kernel) rfl rfl k_W_hasState (by decide +kernel) (by decide +kernel) (by decide +kernel) (ct_W_hasState X.la X.dd K G N s hsi hw) rfl rfl (by decide) (by first | decide | simp [Value.category]) ?_
  refine a_if_ne (pc := 8) (off := 5) hC 13 (by decide +kernel) (by decide) (by unfold inI; omega) (fun c8 => ?_) (fun c8 => ?_)
  · skip
    exact absurd hno c8
  · skip
    refine a_iconst (pc := 11) (c := -1) hC (by decide +kernel) ?_
    exact g_iret (pc := 12) hC hE (by decide +kernel) rfl rfl

set_option maxRecDepth 100000 in
set_option maxHeartbeats 4000000 in
theorem ct_V_change_none (l : Launch) (D : va_G) (K : K5) (G : GT) (N s : Nat) (hs : s < N) (hv : VV G N) (hz : G 3 s = 0) : Ct l D K y_V_change c_V_change 12 (some .int) 3 84 [.ref 0, vi ((s : Int))] G (some (vi (-3))) G := by
  refine Ct.intro (by decide +kernel) (Nat.le_of_ble_eq_true rfl) ?_
  intro X hro hty hC hE
  obtain ⟨hw, hp47, hp48⟩ := id hv
  obtain ⟨hn, hN5, hsh, hac, hpa, hwe, hth⟩ := id hw
  refine a_aload_n (pc := 0) (q := 0) (i := 0) (x := 0) hC (by decide +kernel) rfl 0 rfl ?_
  refine g_get (pc := 1) (idx := 10) (ci := 5) (v := .ref 1) hC 0 0 (by decide +kernel) rfl rfl rfl rfl wrV (by decide) rfl (by decide +kernel) ?_
  refine a_iload_n (pc := 4) (q := 1) (i := 1) (x := (s : Int)) hC (by decide +kernel) rfl 1 rfl ?_
  refine g_callVN (pc := 5) (idx := 75) (i := 1) (av := [vi ((s : Int))]) (rest := []) (g := G) (v := vi (hasS G ((s : Int)))) (host := "PlanValues") hC hro hty (by decide +kernel) rfl rfl k_W_hasState (by decide +kernel) (by decide +kernel) (by decide +kernel) (ct_W_hasState X.la X.dd K G N ((s : Int)) (by unfold inI; omega) hw) rfl rfl (by decide) (by first | decide | simp [Value.category]) ?_
  refine a_if_ne (pc := 8) (off := 5) hC 13 (by decide +kernel) (by decide) (by unfold inI hasS; split <;> omega) (fun c8 => ?_) (fun c8 => ?_)
  · skip
    refine a_aload_n (pc := 13) (q := 0) (i := 0) (x := 0) hC (by decide +kernel) rfl 0 rfl ?_
    refine g_get (pc := 14) (idx := 10) (ci := 5) (v := .ref 1) hC 0 0 (by decide +kernel) rfl rfl rfl rfl wrV (by decide) rfl (by decide +kernel) ?_
    refine g_getN (pc := 17) (idx := 82) (ci := 4) (v := .ref 3) (host := "PlanValues") hC 1 4 (by decide +kernel) rfl rfl rfl rfl wrW (by decide) rfl (by decide +kernel) ?_
    refine a_iload_n (pc := 20) (q := 1) (i := 1) (x := (s : Int)) hC (by decide +kernel) rfl 1 rfl ?_
    refine g_iald (pc := 21) (a := 3) (j := s) hC hty (by decide +kernel) rfl (by omega) (by first | decide | omega) ?_
    refine a_if_ne (pc := 22) (off := 6) hC 28 (by decide +kernel) (by decide) (by unfold inI; omega) (fun c22 => ?_) (fun c22 => ?_)
    · skip
      exact absurd hz c22
    · skip
      refine a_bipush (pc := 25) (c := -3) hC (by decide +kernel) (by decide +kernel) ?_
      exact g_iret (pc := 27) hC hE (by decide +kernel) rfl rfl
  · skip
    exact absurd c8 (by unfold hasS; rw [if_pos (by omega)]; decide)

set_option maxRecDepth 100000 in
set_option maxHeartbeats 4000000 in
theorem ct_V_change (l : Launch) (D : va_G) (K : K5) (G : GT) (N s A : Nat) (hs : s < N) (hA : G 3 s = (A : Int)) (hA1 : 1 ≤ A) (hm0 : MathOk) (hv : VV G N) : Ct l D K y_V_change c_V_change 12 (some .int) 3 84 [.ref 0, vi ((s : Int))] G (some (vi ((chP G N s A).1))) (chH G N s A) := by
  refine Ct.intro (by decide +kernel) (Nat.le_of_ble_eq_true rfl) ?_
  intro X hro hty hC hE
  obtain ⟨hw, hp47, hp48⟩ := id hv
  obtain ⟨hn, hN5, hsh, hac, hpa, hwe, hth⟩ := id hw
  have hA3 := hac s (by omega)
  refine a_aload_n (pc := 0) (q := 0) (i := 0) (x := 0) hC (by decide +kernel) rfl 0 rfl ?_
  refine g_get (pc := 1) (idx := 10) (ci := 5) (v := .ref 1) hC 0 0 (by decide +kernel) rfl rfl rfl rfl wrV (by decide) rfl (by decide +kernel) ?_
  refine a_iload_n (pc := 4) (q := 1) (i := 1) (x := (s : Int)) hC (by decide +kernel) rfl 1 rfl ?_
  refine g_callVN (pc := 5) (idx := 75) (i := 1) (av := [vi ((s : Int))]) (rest := []) (g := G) (v := vi (hasS G ((s : Int)))) (host := "PlanValues") hC hro hty (by decide +kernel) rfl rfl k_W_hasState (by decide +kernel) (by decide +kernel) (by decide +kernel) (ct_W_hasState X.la X.dd K G N ((s : Int)) (by unfold inI; omega) hw) rfl rfl (by decide) (by first | decide | simp [Value.category]) ?_
  refine a_if_ne (pc := 8) (off := 5) hC 13 (by decide +kernel) (by decide) (by unfold inI hasS; split <;> omega) (fun c8 => ?_) (fun c8 => ?_)
  · skip
    refine a_aload_n (pc := 13) (q := 0) (i := 0) (x := 0) hC (by decide +kernel) rfl 0 rfl ?_
    refine g_get (pc := 14) (idx := 10) (ci := 5) (v := .ref 1) hC 0 0 (by decide +kernel) rfl rfl rfl rfl wrV (by decide) rfl (by decide +kernel) ?_
    refine g_getN (pc := 17) (idx := 82) (ci := 4) (v := .ref 3) (host := "PlanValues") hC 1 4 (by decide +kernel) rfl rfl rfl rfl wrW (by decide) rfl (by decide +kernel) ?_
    refine a_iload_n (pc := 20) (q := 1) (i := 1) (x := (s : Int)) hC (by decide +kernel) rfl 1 rfl ?_
    refine g_iald (pc := 21) (a := 3) (j := s) hC hty (by decide +kernel) rfl (by omega) (by first | decide | omega) ?_
    refine a_if_ne (pc := 22) (off := 6) hC 28 (by decide +kernel) (by decide) (by unfold inI; omega) (fun c22 => ?_) (fun c22 => ?_)
    · skip
      refine a_aload_n (pc := 28) (q := 0) (i := 0) (x := 0) hC (by decide +kernel) rfl 0 rfl ?_
      refine g_callV0 (pc := 29) (idx := 144) (i := 0) (av := []) (rest := []) (g := uG G 49 (cpy (G 47) (G 49) 5)) hC hro hty (by decide +kernel) rfl rfl k_V_tryToldPlan (by decide +kernel) (by decide +kernel) (by decide +kernel) (ct_V_tryToldPlan X.la X.dd K G) rfl rfl (by decide) (by first | decide | simp [Value.category]) ?_
      refine g_G (G' := chH G N s 0) rfl ?_
      refine a_iconst (pc := 32) (c := 0) hC (by decide +kernel) ?_
      refine a_istore_n (pc := 33) (q := 2) (i := 2) (lv' := [(2, vi 0), (0, .ref 0), (1, vi ((s : Int)))]) hC (by decide +kernel) rfl (by decide) rfl ?_
      refine a_lconst (pc := 34) (c := 0) (z := 0) hC (by decide +kernel) rfl ?_
      refine a_lstore_n (pc := 35) (q := 3) (i := 3) (lv' := [(3, vl 0), (2, vi 0), (0, .ref 0), (1, vi ((s : Int)))]) hC (by decide +kernel) rfl (by decide) rfl ?_
      refine a_lconst (pc := 36) (c := 1) (z := 1) hC (by decide +kernel) rfl ?_
      refine a_lstore (pc := 37) (q := 0) (i := 5) (lv' := [(5, vl 1), (3, vl 0), (2, vi 0), (0, .ref 0), (1, vi ((s : Int)))]) hC (by decide +kernel) (by decide) rfl ?_
      refine a_iconst (pc := 39) (c := 0) hC (by decide +kernel) ?_
      refine a_istore (pc := 40) (q := 0) (i := 7) (lv' := [(7, vi 0), (5, vl 1), (3, vl 0), (2, vi 0), (0, .ref 0), (1, vi ((s : Int)))]) hC (by decide +kernel) (by decide) rfl ?_
      have L42 : ∀ (fuel : Nat) (a : Nat), A - a < fuel → a ≤ A → AW X 12 0 0 42 [(7, vi ((a : Int))), (5, vl ((chP G N s a).2.2)), (3, vl ((chP G N s a).2.1)), (2, vi ((chP G N s a).1)), (0, .ref 0), (1, vi ((s : Int)))] [] (hp K (chH G N s a)) := by
        intro fuel
        induction fuel with
        | zero => intro a h; exact absurd h (Nat.not_lt_zero _)
        | succ fuel ih42 =>
          intro a hm ha
          have hpi := chP_in hm0 hw hp47 hs a (by omega)
          refine a_iload (pc := 42) (i := 7) (x := (a : Int)) hC (by decide +kernel) 0 rfl ?_
          refine a_aload_n (pc := 44) (q := 0) (i := 0) (x := 0) hC (by decide +kernel) rfl 4 rfl ?_
          refine g_get (pc := 45) (idx := 10) (ci := 5) (v := .ref 1) hC 0 0 (by decide +kernel) rfl rfl rfl rfl wrV (by decide) rfl (by decide +kernel) ?_
          refine g_getN (pc := 48) (idx := 82) (ci := 4) (v := .ref 3) (host := "PlanValues") hC 1 4 (by decide +kernel) rfl rfl rfl rfl wrW (by decide) rfl (by decide +kernel) ?_
          refine a_iload_n (pc := 51) (q := 1) (i := 1) (x := (s : Int)) hC (by decide +kernel) rfl 5 rfl ?_
          refine g_iald (pc := 52) (a := 3) (j := s) hC hty (by decide +kernel) rfl (by omega) (by first | decide | omega) ?_
          refine g_top (y := (A : Int)) (by rw [chH_off hN5 (by omega) (by omega)]; exact hA) ?_
          refine a_icmp_ge (pc := 53) (off := 93) hC 146 (by decide +kernel) (by decide) (by unfold inI; omega) (by unfold inI; omega) (fun c53 => ?_) (fun c53 => ?_)
          · skip
            refine a_iload_n (pc := 146) (q := 2) (i := 2) (x := (chP G N s a).1) hC (by decide +kernel) rfl 3 rfl ?_
            exact g_iret (pc := 147) hC hE (by decide +kernel) (by rw [show a = A by omega]) (by rw [show a = A by omega])
          · skip
            have h2 := chH_st2 (a := a) hw hp47 hs (by omega)
            have hM := hm0 _ 49 N h2.1 h2.2
            have hnu := hM.2.2
            have hu := hnu.2.2 s hs
            have hl1 := hnu.1
            have hl2 := hnu.2.1
            have hw3 := (chH_st hw hp47 hs (a + 1) (by omega)).1
            refine a_aload_n (pc := 56) (q := 0) (i := 0) (x := 0) hC (by decide +kernel) rfl 4 rfl ?_
            refine g_get (pc := 57) (idx := 48) (ci := 5) (v := .ref 49) hC 0 7 (by decide +kernel) rfl rfl rfl rfl wrV (by decide) rfl (by decide +kernel) ?_
            refine a_iload_n (pc := 60) (q := 1) (i := 1) (x := (s : Int)) hC (by decide +kernel) rfl 5 rfl ?_
            refine a_iload (pc := 61) (i := 7) (x := (a : Int)) hC (by decide +kernel) 0 rfl ?_
            refine g_iast (pc := 63) (a := 49) (j := s) (x := (a : Int)) hC hty (by decide +kernel) rfl (by omega) (by first | decide | omega) ?_
            refine a_aload_n (pc := 64) (q := 0) (i := 0) (x := 0) hC (by decide +kernel) rfl 4 rfl ?_
            refine g_get (pc := 65) (idx := 19) (ci := 5) (v := .ref 22) hC 0 1 (by decide +kernel) rfl rfl rfl rfl wrV (by decide) rfl (by decide +kernel) ?_
            refine a_aload_n (pc := 68) (q := 0) (i := 0) (x := 0) hC (by decide +kernel) rfl 4 rfl ?_
            refine g_get (pc := 69) (idx := 10) (ci := 5) (v := .ref 1) hC 0 0 (by decide +kernel) rfl rfl rfl rfl wrV (by decide) rfl (by decide +kernel) ?_
            refine a_aload_n (pc := 72) (q := 0) (i := 0) (x := 0) hC (by decide +kernel) rfl 4 rfl ?_
            refine g_get (pc := 73) (idx := 48) (ci := 5) (v := .ref 49) hC 0 7 (by decide +kernel) rfl rfl rfl rfl wrV (by decide) rfl (by decide +kernel) ?_
            refine g_callVN0 (pc := 76) (idx := 141) (i := 22) (av := [.ref 1, .ref 49]) (rest := []) (g := folR (uG (chH G N s a) 49 (up ((chH G N s a) 49) s ((a : Int)))) 49 N) (host := "PlanValues") hC hro hty (by decide +kernel) rfl rfl k_P_follow (by decide +kernel) (by decide +kernel) (by decide +kernel) (ct_P_follow X.la X.dd K (uG (chH G N s a) 49 (up ((chH G N s a) 49) s ((a : Int)))) 49 N h2.1 h2.2 hM.1) rfl rfl (by decide) (by first | decide | simp [Value.category]) ?_
            refine g_G (G' := chH G N s (a + 1)) rfl ?_
            refine a_aload_n (pc := 79) (q := 0) (i := 0) (x := 0) hC (by decide +kernel) rfl 4 rfl ?_
            refine g_get (pc := 80) (idx := 19) (ci := 5) (v := .ref 22) hC 0 1 (by decide +kernel) rfl rfl rfl rfl wrV (by decide) rfl (by decide +kernel) ?_
            refine g_getN (pc := 83) (idx := 116) (ci := 3) (v := .ref 30) (host := "PlanValues") hC 22 1 (by decide +kernel) rfl rfl rfl rfl wrP (by decide) rfl (by decide +kernel) ?_
            refine g_getN (pc := 86) (idx := 119) (ci := 2) (v := .ref 31) (host := "PlanValues") hC 30 0 (by decide +kernel) rfl rfl rfl rfl wrU (by decide) rfl (by decide +kernel) ?_
            refine a_iload_n (pc := 89) (q := 1) (i := 1) (x := (s : Int)) hC (by decide +kernel) rfl 5 rfl ?_
            refine g_lald (pc := 90) (a := 31) (j := s) hC hty (by decide +kernel) rfl (by omega) (by first | decide | omega) ?_
            refine a_lstore (pc := 91) (q := 0) (i := 8) (lv' := [(8, vl ((chH G N s (a + 1)) 31 s)), (7, vi ((a : Int))), (5, vl ((chP G N s a).2.2)), (3, vl ((chP G N s a).2.1)), (2, vi ((chP G N s a).1)), (0, .ref 0), (1, vi ((s : Int)))]) hC (by decide +kernel) (by decide) rfl ?_
            refine a_aload_n (pc := 93) (q := 0) (i := 0) (x := 0) hC (by decide +kernel) rfl 5 rfl ?_
            refine g_get (pc := 94) (idx := 19) (ci := 5) (v := .ref 22) hC 0 1 (by decide +kernel) rfl rfl rfl rfl wrV (by decide) rfl (by decide +kernel) ?_
            refine g_getN (pc := 97) (idx := 116) (ci := 3) (v := .ref 30) (host := "PlanValues") hC 22 1 (by decide +kernel) rfl rfl rfl rfl wrP (by decide) rfl (by decide +kernel) ?_
            refine g_getN (pc := 100) (idx := 122) (ci := 2) (v := vl ((chH G N s (a + 1)) 30 1)) (host := "PlanValues") hC 30 1 (by decide +kernel) rfl rfl rfl rfl wrU (by decide) rfl (by decide +kernel) ?_
            refine a_lstore (pc := 103) (q := 0) (i := 10) (lv' := [(10, vl ((chH G N s (a + 1)) 30 1)), (8, vl ((chH G N s (a + 1)) 31 s)), (7, vi ((a : Int))), (5, vl ((chP G N s a).2.2)), (3, vl ((chP G N s a).2.1)), (2, vi ((chP G N s a).1)), (0, .ref 0), (1, vi ((s : Int)))]) hC (by decide +kernel) (by decide) rfl ?_
            refine a_iload (pc := 105) (i := 7) (x := (a : Int)) hC (by decide +kernel) 2 rfl ?_
            refine a_if_eq (pc := 107) (off := 23) hC 130 (by decide +kernel) (by decide) (by unfold inI; omega) (fun c107 => ?_) (fun c107 => ?_)
            · skip
              have hst : chP G N s (a + 1) = ((a : Int), (chH G N s (a + 1)) 31 s, (chH G N s (a + 1)) 30 1) := by show (if _ then _ else _) = _; rw [if_pos (Or.inl (by omega))]
              refine a_iload (pc := 130) (i := 7) (x := (a : Int)) hC (by decide +kernel) 2 rfl ?_
              refine a_istore_n (pc := 132) (q := 2) (i := 2) (lv' := [(2, vi ((a : Int))), (10, vl ((chH G N s (a + 1)) 30 1)), (8, vl ((chH G N s (a + 1)) 31 s)), (7, vi ((a : Int))), (5, vl ((chP G N s a).2.2)), (3, vl ((chP G N s a).2.1)), (0, .ref 0), (1, vi ((s : Int)))]) hC (by decide +kernel) rfl (by decide) rfl ?_
              refine a_lload (pc := 133) (i := 8) (x := (chH G N s (a + 1)) 31 s) hC (by decide +kernel) 2 rfl ?_
              refine a_lstore_n (pc := 135) (q := 3) (i := 3) (lv' := [(3, vl ((chH G N s (a + 1)) 31 s)), (2, vi ((a : Int))), (10, vl ((chH G N s (a + 1)) 30 1)), (8, vl ((chH G N s (a + 1)) 31 s)), (7, vi ((a : Int))), (5, vl ((chP G N s a).2.2)), (0, .ref 0), (1, vi ((s : Int)))]) hC (by decide +kernel) rfl (by decide) rfl ?_
              refine a_lload (pc := 136) (i := 10) (x := (chH G N s (a + 1)) 30 1) hC (by decide +kernel) 2 rfl ?_
              refine a_lstore (pc := 138) (q := 0) (i := 5) (lv' := [(5, vl ((chH G N s (a + 1)) 30 1)), (3, vl ((chH G N s (a + 1)) 31 s)), (2, vi ((a : Int))), (10, vl ((chH G N s (a + 1)) 30 1)), (8, vl ((chH G N s (a + 1)) 31 s)), (7, vi ((a : Int))), (0, .ref 0), (1, vi ((s : Int)))]) hC (by decide +kernel) (by decide) rfl ?_
              refine a_iinc (pc := 140) (i := 7) (c := 1) (x := (a : Int)) (lv' := [(7, vi (((a : Int)) + 1)), (5, vl ((chH G N s (a + 1)) 30 1)), (3, vl ((chH G N s (a + 1)) 31 s)), (2, vi ((a : Int))), (10, vl ((chH G N s (a + 1)) 30 1)), (8, vl ((chH G N s (a + 1)) 31 s)), (0, .ref 0), (1, vi ((s : Int)))]) hC (by decide +kernel) 5 rfl (by decide) rfl ?_
              refine a_goto (pc := 143) (off := -101) hC 42 (by decide +kernel) (by decide) ?_
              refine a_sub (lv' := [(7, vi (((a + 1) : Int))), (5, vl ((chP G N s (a + 1)).2.2)), (3, vl ((chP G N s (a + 1)).2.1)), (2, vi ((chP G N s (a + 1)).1)), (0, .ref 0), (1, vi ((s : Int)))]) [0, 1, 2, 3, 6, 7] (by rw [hst]; rfl) ?_
              exact ih42 (a + 1) (by omega) (by omega)
            · skip
              have m1 := mul_in (x := (chH G N s (a + 1)) 31 s) (y := (chP G N s a).2.2) (A := 18139852800) (B := 60466176) hu (by omega) (by decide)
              have m2 := mul_in (x := (chP G N s a).2.1) (y := (chH G N s (a + 1)) 30 1) (A := 18139852800) (B := 60466176) hpi.1 ⟨(by have : (1 : Int) ≤ (chH G N s (a + 1)) 30 1 := hl1; omega), hl2⟩ (by decide)
              refine a_aload_n (pc := 110) (q := 0) (i := 0) (x := 0) hC (by decide +kernel) rfl 6 rfl ?_
              refine g_get (pc := 111) (idx := 10) (ci := 5) (v := .ref 1) hC 0 0 (by decide +kernel) rfl rfl rfl rfl wrV (by decide) rfl (by decide +kernel) ?_
              refine a_iload_n (pc := 114) (q := 1) (i := 1) (x := (s : Int)) hC (by decide +kernel) rfl 7 rfl ?_
              refine a_lload (pc := 115) (i := 8) (x := (chH G N s (a + 1)) 31 s) hC (by decide +kernel) 1 rfl ?_
              refine a_lload (pc := 117) (i := 5) (x := (chP G N s a).2.2) hC (by decide +kernel) 3 rfl ?_
              refine a_lmul (pc := 119) hC (by decide +kernel) ?_
              refine a_lload_n (pc := 120) (q := 3) (i := 3) (x := (chP G N s a).2.1) hC (by decide +kernel) rfl 4 rfl ?_
              refine a_lload (pc := 121) (i := 10) (x := (chH G N s (a + 1)) 30 1) hC (by decide +kernel) 0 rfl ?_
              refine a_lmul (pc := 123) hC (by decide +kernel) ?_
              refine g_callVN (pc := 124) (idx := 151) (i := 1) (av := [vi ((s : Int)), vl (((chH G N s (a + 1)) 31 s) * ((chP G N s a).2.2)), vl (((chP G N s a).2.1) * ((chH G N s (a + 1)) 30 1))]) (rest := []) (g := chH G N s (a + 1)) (v := vi (likesZ (chH G N s (a + 1)) s (((chH G N s (a + 1)) 31 s) * ((chP G N s a).2.2)) (((chP G N s a).2.1) * ((chH G N s (a + 1)) 30 1)))) (host := "PlanValues") hC hro hty (by decide +kernel) rfl rfl k_W_likes (by decide +kernel) (by decide +kernel) (by decide +kernel) (ct_W_likes X.la X.dd K (chH G N s (a + 1)) s N (((chH G N s (a + 1)) 31 s) * ((chP G N s a).2.2)) (((chP G N s a).2.1) * ((chH G N s (a + 1)) 30 1)) (by omega) hw3 (by unfold inL; omega) (by unfold inL; omega)) rfl rfl (by decide) (by first | decide | simp [Value.category]) ?_
              refine g_top (y := likesZ G s (((chH G N s (a + 1)) 31 s) * (chP G N s a).2.2) ((chP G N s a).2.1 * ((chH G N s (a + 1)) 30 1))) (by unfold likesZ; rw [chH_off hN5 (by omega) (by omega)]) ?_
              have h01 := likesZ_01 G s (((chH G N s (a + 1)) 31 s) * (chP G N s a).2.2) ((chP G N s a).2.1 * ((chH G N s (a + 1)) 30 1))
              refine a_if_eq (pc := 127) (off := 13) hC 140 (by decide +kernel) (by decide) (by unfold inI; omega) (fun c127 => ?_) (fun c127 => ?_)
              · skip
                have hst : chP G N s (a + 1) = chP G N s a := by show (if _ then _ else _) = _; rw [if_neg (fun q => q.elim (fun e => c107 (by omega)) (fun e => by omega))]
                refine a_iinc (pc := 140) (i := 7) (c := 1) (x := (a : Int)) (lv' := [(7, vi (((a : Int)) + 1)), (10, vl ((chH G N s (a + 1)) 30 1)), (8, vl ((chH G N s (a + 1)) 31 s)), (5, vl ((chP G N s a).2.2)), (3, vl ((chP G N s a).2.1)), (2, vi ((chP G N s a).1)), (0, .ref 0), (1, vi ((s : Int)))]) hC (by decide +kernel) 2 rfl (by decide) rfl ?_
                refine a_goto (pc := 143) (off := -101) hC 42 (by decide +kernel) (by decide) ?_
                refine a_sub (lv' := [(7, vi (((a + 1) : Int))), (5, vl ((chP G N s (a + 1)).2.2)), (3, vl ((chP G N s (a + 1)).2.1)), (2, vi ((chP G N s (a + 1)).1)), (0, .ref 0), (1, vi ((s : Int)))]) [0, 3, 4, 5, 6, 7] (by rw [hst]; rfl) ?_
                exact ih42 (a + 1) (by omega) (by omega)
              · skip
                have hst : chP G N s (a + 1) = ((a : Int), (chH G N s (a + 1)) 31 s, (chH G N s (a + 1)) 30 1) := by show (if _ then _ else _) = _; rw [if_pos (Or.inr (by omega))]
                refine a_iload (pc := 130) (i := 7) (x := (a : Int)) hC (by decide +kernel) 2 rfl ?_
                refine a_istore_n (pc := 132) (q := 2) (i := 2) (lv' := [(2, vi ((a : Int))), (10, vl ((chH G N s (a + 1)) 30 1)), (8, vl ((chH G N s (a + 1)) 31 s)), (7, vi ((a : Int))), (5, vl ((chP G N s a).2.2)), (3, vl ((chP G N s a).2.1)), (0, .ref 0), (1, vi ((s : Int)))]) hC (by decide +kernel) rfl (by decide) rfl ?_
                refine a_lload (pc := 133) (i := 8) (x := (chH G N s (a + 1)) 31 s) hC (by decide +kernel) 2 rfl ?_
                refine a_lstore_n (pc := 135) (q := 3) (i := 3) (lv' := [(3, vl ((chH G N s (a + 1)) 31 s)), (2, vi ((a : Int))), (10, vl ((chH G N s (a + 1)) 30 1)), (8, vl ((chH G N s (a + 1)) 31 s)), (7, vi ((a : Int))), (5, vl ((chP G N s a).2.2)), (0, .ref 0), (1, vi ((s : Int)))]) hC (by decide +kernel) rfl (by decide) rfl ?_
                refine a_lload (pc := 136) (i := 10) (x := (chH G N s (a + 1)) 30 1) hC (by decide +kernel) 2 rfl ?_
                refine a_lstore (pc := 138) (q := 0) (i := 5) (lv' := [(5, vl ((chH G N s (a + 1)) 30 1)), (3, vl ((chH G N s (a + 1)) 31 s)), (2, vi ((a : Int))), (10, vl ((chH G N s (a + 1)) 30 1)), (8, vl ((chH G N s (a + 1)) 31 s)), (7, vi ((a : Int))), (0, .ref 0), (1, vi ((s : Int)))]) hC (by decide +kernel) (by decide) rfl ?_
                refine a_iinc (pc := 140) (i := 7) (c := 1) (x := (a : Int)) (lv' := [(7, vi (((a : Int)) + 1)), (5, vl ((chH G N s (a + 1)) 30 1)), (3, vl ((chH G N s (a + 1)) 31 s)), (2, vi ((a : Int))), (10, vl ((chH G N s (a + 1)) 30 1)), (8, vl ((chH G N s (a + 1)) 31 s)), (0, .ref 0), (1, vi ((s : Int)))]) hC (by decide +kernel) 5 rfl (by decide) rfl ?_
                refine a_goto (pc := 143) (off := -101) hC 42 (by decide +kernel) (by decide) ?_
                refine a_sub (lv' := [(7, vi (((a + 1) : Int))), (5, vl ((chP G N s (a + 1)).2.2)), (3, vl ((chP G N s (a + 1)).2.1)), (2, vi ((chP G N s (a + 1)).1)), (0, .ref 0), (1, vi ((s : Int)))]) [0, 1, 2, 3, 6, 7] (by rw [hst]; rfl) ?_
                exact ih42 (a + 1) (by omega) (by omega)
      refine a_sub (lv' := [(7, vi ((0 : Int))), (5, vl ((chP G N s 0).2.2)), (3, vl ((chP G N s 0).2.1)), (2, vi ((chP G N s 0).1)), (0, .ref 0), (1, vi ((s : Int)))]) [0, 1, 2, 3, 4, 5] rfl ?_
      exact L42 _ 0 (Nat.lt_succ_self _) (by omega)
    · skip
      exact absurd c22 (by omega)
  · skip
    exact absurd c8 (by unfold hasS; rw [if_pos (by omega)]; decide)

set_option maxRecDepth 100000 in
set_option maxHeartbeats 4000000 in
theorem ct_V_within_no (l : Launch) (D : va_G) (K : K5) (G : GT) (N : Nat) (s : Int) (n : Int) (hsi : inI s) (hv : VV G N) (hno : hasS G s = 0) : Ct l D K y_V_within c_V_within 4 (some .int) 4 99 [.ref 0, vi s, vi n] G (some (vi (-1))) G := by
  refine Ct.intro (by decide +kernel) (Nat.le_of_ble_eq_true rfl) ?_
  intro X hro hty hC hE
  obtain ⟨hw, hp47, hp48⟩ := id hv
  obtain ⟨hn, hN5, hsh, hac, hpa, hwe, hth⟩ := id hw
  refine a_aload_n (pc := 0) (q := 0) (i := 0) (x := 0) hC (by decide +kernel) rfl 0 rfl ?_
  refine g_get (pc := 1) (idx := 10) (ci := 5) (v := .ref 1) hC 0 0 (by decide +kernel) rfl rfl rfl rfl wrV (by decide) rfl (by decide +kernel) ?_
  refine a_iload_n (pc := 4) (q := 1) (i := 1) (x := s) hC (by decide +kernel) rfl 1 rfl ?_
  refine g_callVN (pc := 5) (idx := 75) (i := 1) (av := [vi s]) (rest := []) (g := G) (v := vi (hasS G s)) (host := "PlanValues") hC hro hty (by decide +kernel) rfl rfl k_W_hasState (by decide +kernel) (by decide +kernel) (by decide +kernel) (ct_W_hasState X.la X.dd K G N s hsi hw) rfl rfl (by decide) (by first | decide | simp [Value.category]) ?_
  refine a_if_ne (pc := 8) (off := 5) hC 13 (by decide +kernel) (by decide) (by unfold inI; omega) (fun c8 => ?_) (fun c8 => ?_)
  · skip
    exact absurd hno c8
  · skip
    refine a_iconst (pc := 11) (c := -1) hC (by decide +kernel) ?_
    exact g_iret (pc := 12) hC hE (by decide +kernel) rfl rfl

set_option maxRecDepth 100000 in
set_option maxHeartbeats 4000000 in
theorem ct_V_within_bad (l : Launch) (D : va_G) (K : K5) (G : GT) (N s : Nat) (n : Int) (hs : s < N) (hni : inI n) (hv : VV G N) (hbad : n < 0 ∨ 5 < n) : Ct l D K y_V_within c_V_within 4 (some .int) 4 99 [.ref 0, vi ((s : Int)), vi n] G (some (vi (-2))) G := by
  refine Ct.intro (by decide +kernel) (Nat.le_of_ble_eq_true rfl) ?_
  intro X hro hty hC hE
  obtain ⟨hw, hp47, hp48⟩ := id hv
  obtain ⟨hn, hN5, hsh, hac, hpa, hwe, hth⟩ := id hw
  unfold inI at hni
  refine a_aload_n (pc := 0) (q := 0) (i := 0) (x := 0) hC (by decide +kernel) rfl 0 rfl ?_
  refine g_get (pc := 1) (idx := 10) (ci := 5) (v := .ref 1) hC 0 0 (by decide +kernel) rfl rfl rfl rfl wrV (by decide) rfl (by decide +kernel) ?_
  refine a_iload_n (pc := 4) (q := 1) (i := 1) (x := (s : Int)) hC (by decide +kernel) rfl 1 rfl ?_
  refine g_callVN (pc := 5) (idx := 75) (i := 1) (av := [vi ((s : Int))]) (rest := []) (g := G) (v := vi (hasS G ((s : Int)))) (host := "PlanValues") hC hro hty (by decide +kernel) rfl rfl k_W_hasState (by decide +kernel) (by decide +kernel) (by decide +kernel) (ct_W_hasState X.la X.dd K G N ((s : Int)) (by unfold inI; omega) hw) rfl rfl (by decide) (by first | decide | simp [Value.category]) ?_
  refine a_if_ne (pc := 8) (off := 5) hC 13 (by decide +kernel) (by decide) (by unfold inI hasS; split <;> omega) (fun c8 => ?_) (fun c8 => ?_)
  · skip
    refine a_iload_n (pc := 13) (q := 2) (i := 2) (x := n) hC (by decide +kernel) rfl 2 rfl ?_
    refine a_if_lt (pc := 14) (off := 8) hC 22 (by decide +kernel) (by decide) (by unfold inI; omega) (fun c14 => ?_) (fun c14 => ?_)
    · skip
      refine a_bipush (pc := 22) (c := -2) hC (by decide +kernel) (by decide +kernel) ?_
      exact g_iret (pc := 24) hC hE (by decide +kernel) rfl rfl
    · skip
      refine a_iload_n (pc := 17) (q := 2) (i := 2) (x := n) hC (by decide +kernel) rfl 2 rfl ?_
      refine a_iconst (pc := 18) (c := 5) hC (by decide +kernel) ?_
      refine a_icmp_le (pc := 19) (off := 6) hC 25 (by decide +kernel) (by decide) (by unfold inI; omega) (by unfold inI; omega) (fun c19 => ?_) (fun c19 => ?_)
      · skip
        exact absurd c19 (by omega)
      · skip
        refine a_bipush (pc := 22) (c := -2) hC (by decide +kernel) (by decide +kernel) ?_
        exact g_iret (pc := 24) hC hE (by decide +kernel) rfl rfl
  · skip
    exact absurd c8 (by unfold hasS; rw [if_pos (by omega)]; decide)

set_option maxRecDepth 100000 in
set_option maxHeartbeats 4000000 in
theorem ct_V_within (l : Launch) (D : va_G) (K : K5) (G : GT) (N s n : Nat) (hs : s < N) (hn5 : n ≤ 5) (hv : VV G N) (hso : StpOk G N) : Ct l D K y_V_within c_V_within 4 (some .int) 4 99 [.ref 0, vi ((s : Int)), vi ((n : Int))] G (some (vi 1)) (ansG (stS G N n) (stS G N n 45 s) (stS G N n 44 1)) := by
  refine Ct.intro (by decide +kernel) (Nat.le_of_ble_eq_true rfl) ?_
  intro X hro hty hC hE
  obtain ⟨hw, hp47, hp48⟩ := id hv
  obtain ⟨hn, hN5, hsh, hac, hpa, hwe, hth⟩ := id hw
  refine a_aload_n (pc := 0) (q := 0) (i := 0) (x := 0) hC (by decide +kernel) rfl 0 rfl ?_
  refine g_get (pc := 1) (idx := 10) (ci := 5) (v := .ref 1) hC 0 0 (by decide +kernel) rfl rfl rfl rfl wrV (by decide) rfl (by decide +kernel) ?_
  refine a_iload_n (pc := 4) (q := 1) (i := 1) (x := (s : Int)) hC (by decide +kernel) rfl 1 rfl ?_
  refine g_callVN (pc := 5) (idx := 75) (i := 1) (av := [vi ((s : Int))]) (rest := []) (g := G) (v := vi (hasS G ((s : Int)))) (host := "PlanValues") hC hro hty (by decide +kernel) rfl rfl k_W_hasState (by decide +kernel) (by decide +kernel) (by decide +kernel) (ct_W_hasState X.la X.dd K G N ((s : Int)) (by unfold inI; omega) hw) rfl rfl (by decide) (by first | decide | simp [Value.category]) ?_
  refine a_if_ne (pc := 8) (off := 5) hC 13 (by decide +kernel) (by decide) (by unfold inI hasS; split <;> omega) (fun c8 => ?_) (fun c8 => ?_)
  · skip
    refine a_iload_n (pc := 13) (q := 2) (i := 2) (x := (n : Int)) hC (by decide +kernel) rfl 2 rfl ?_
    refine a_if_lt (pc := 14) (off := 8) hC 22 (by decide +kernel) (by decide) (by unfold inI; omega) (fun c14 => ?_) (fun c14 => ?_)
    · skip
      exact absurd c14 (by omega)
    · skip
      refine a_iload_n (pc := 17) (q := 2) (i := 2) (x := (n : Int)) hC (by decide +kernel) rfl 2 rfl ?_
      refine a_iconst (pc := 18) (c := 5) hC (by decide +kernel) ?_
      refine a_icmp_le (pc := 19) (off := 6) hC 25 (by decide +kernel) (by decide) (by unfold inI; omega) (by unfold inI; omega) (fun c19 => ?_) (fun c19 => ?_)
      · skip
        refine a_aload_n (pc := 25) (q := 0) (i := 0) (x := 0) hC (by decide +kernel) rfl 0 rfl ?_
        refine g_get (pc := 26) (idx := 33) (ci := 5) (v := .ref 44) hC 0 3 (by decide +kernel) rfl rfl rfl rfl wrV (by decide) rfl (by decide +kernel) ?_
        refine g_getN (pc := 29) (idx := 119) (ci := 2) (v := .ref 45) (host := "PlanValues") hC 44 0 (by decide +kernel) rfl rfl rfl rfl wrU (by decide) rfl (by decide +kernel) ?_
        refine a_lconst (pc := 32) (c := 0) (z := 0) hC (by decide +kernel) rfl ?_
        refine g_callS0 (pc := 33) (idx := 155) (av := [.ref 45, vl 0]) (rest := []) (g := uG G 45 (fillF (G 45) 5 0)) hC hro hty (by decide +kernel) k_JA_fill_AJJ (by decide +kernel) (by decide +kernel) (ct_JA_fill_AJJ X.la X.dd K G 45 5 0 rfl (by decide)) rfl rfl (by decide) (by first | decide | simp [Value.category]) ?_
        refine a_aload_n (pc := 36) (q := 0) (i := 0) (x := 0) hC (by decide +kernel) rfl 0 rfl ?_
        refine g_get (pc := 37) (idx := 33) (ci := 5) (v := .ref 44) hC 0 3 (by decide +kernel) rfl rfl rfl rfl wrV (by decide) rfl (by decide +kernel) ?_
        refine a_lconst (pc := 40) (c := 1) (z := 1) hC (by decide +kernel) rfl ?_
        refine g_putN (pc := 41) (idx := 122) (ci := 2) (x := 1) (host := "PlanValues") hC 44 1 (by decide +kernel) rfl rfl (congrArg (fun z => vl z) (up_s _ _ _)) rfl wrU (by decide) rfl (by decide +kernel) rfl (ok_long _) ?_
        refine g_G (G' := stS G N 0) rfl ?_
        refine a_iconst (pc := 44) (c := 0) hC (by decide +kernel) ?_
        refine a_istore_n (pc := 45) (q := 3) (i := 3) (lv' := [(3, vi 0), (0, .ref 0), (1, vi ((s : Int))), (2, vi ((n : Int)))]) hC (by decide +kernel) rfl (by decide) rfl ?_
        have L46 : ∀ (fuel : Nat) (k : Nat), n - k < fuel → k ≤ n → AW X 4 0 0 46 [(3, vi ((k : Int))), (0, .ref 0), (1, vi ((s : Int))), (2, vi ((n : Int)))] [] (hp K (stS G N k)) := by
          intro fuel
          induction fuel with
          | zero => intro k h; exact absurd h (Nat.not_lt_zero _)
          | succ fuel ih46 =>
            intro k hm hk
            refine a_iload_n (pc := 46) (q := 3) (i := 3) (x := (k : Int)) hC (by decide +kernel) rfl 0 rfl ?_
            refine a_iload_n (pc := 47) (q := 2) (i := 2) (x := (n : Int)) hC (by decide +kernel) rfl 3 rfl ?_
            refine a_icmp_ge (pc := 48) (off := 13) hC 61 (by decide +kernel) (by decide) (by unfold inI; omega) (by unfold inI; omega) (fun c48 => ?_) (fun c48 => ?_)
            · skip
              have hkn : k = n := by omega
              have hs2 := hso k (by omega)
              have hra := abs_in (hs2.2.2 s hs) (by decide)
              refine a_aload_n (pc := 61) (q := 0) (i := 0) (x := 0) hC (by decide +kernel) rfl 1 rfl ?_
              refine a_aload_n (pc := 62) (q := 0) (i := 0) (x := 0) hC (by decide +kernel) rfl 1 rfl ?_
              refine g_get (pc := 63) (idx := 33) (ci := 5) (v := .ref 44) hC 0 3 (by decide +kernel) rfl rfl rfl rfl wrV (by decide) rfl (by decide +kernel) ?_
              refine g_getN (pc := 66) (idx := 119) (ci := 2) (v := .ref 45) (host := "PlanValues") hC 44 0 (by decide +kernel) rfl rfl rfl rfl wrU (by decide) rfl (by decide +kernel) ?_
              refine a_iload_n (pc := 69) (q := 1) (i := 1) (x := (s : Int)) hC (by decide +kernel) rfl 2 rfl ?_
              refine g_lald (pc := 70) (a := 45) (j := s) hC hty (by decide +kernel) rfl (by omega) (by first | decide | omega) ?_
              refine a_aload_n (pc := 71) (q := 0) (i := 0) (x := 0) hC (by decide +kernel) rfl 1 rfl ?_
              refine g_get (pc := 72) (idx := 33) (ci := 5) (v := .ref 44) hC 0 3 (by decide +kernel) rfl rfl rfl rfl wrV (by decide) rfl (by decide +kernel) ?_
              refine g_getN (pc := 75) (idx := 122) (ci := 2) (v := vl ((stS G N k) 44 1)) (host := "PlanValues") hC 44 1 (by decide +kernel) rfl rfl rfl rfl wrU (by decide) rfl (by decide +kernel) ?_
              refine g_callV (pc := 78) (idx := 125) (i := 0) (av := [vl ((stS G N k) 45 s), vl ((stS G N k) 44 1)]) (rest := []) (g := ansG (stS G N k) ((stS G N k) 45 s) ((stS G N k) 44 1)) (v := vi 1) hC hro hty (by decide +kernel) rfl rfl k_V_giveAnswer (by decide +kernel) (by decide +kernel) (by decide +kernel) (ct_V_giveAnswer X.la X.dd K (stS G N k) ((stS G N k) 45 s) ((stS G N k) 44 1) hra.1 hra.2 ⟨by have := hs2.2.1.1; omega, by have := hs2.2.1; unfold inL; omega⟩) rfl rfl (by decide) (by first | decide | simp [Value.category]) ?_
              exact g_iret (pc := 81) hC hE (by decide +kernel) rfl (by rw [hkn])
            · skip
              refine a_aload_n (pc := 51) (q := 0) (i := 0) (x := 0) hC (by decide +kernel) rfl 1 rfl ?_
              refine g_callV0 (pc := 52) (idx := 158) (i := 0) (av := []) (rest := []) (g := stpG (stS G N k) N) hC hro hty (by decide +kernel) rfl rfl k_V_stepBack (by decide +kernel) (by decide +kernel) (by decide +kernel) (ct_V_stepBack X.la X.dd K (stS G N k) N (hw.keep (fun c hc => stS_off (by omega) k)) (hso k (by omega)).1) rfl rfl (by decide) (by first | decide | simp [Value.category]) ?_
              refine a_iinc (pc := 55) (i := 3) (c := 1) (x := (k : Int)) (lv' := [(3, vi (((k : Int)) + 1)), (0, .ref 0), (1, vi ((s : Int))), (2, vi ((n : Int)))]) hC (by decide +kernel) 0 rfl (by decide) rfl ?_
              refine a_goto (pc := 58) (off := -12) hC 46 (by decide +kernel) (by decide) ?_
              refine a_sub (lv' := [(3, vi (((k + 1) : Int))), (0, .ref 0), (1, vi ((s : Int))), (2, vi ((n : Int)))]) [0, 1, 2, 3] rfl ?_
              refine g_G (G' := stS G N (k + 1)) rfl ?_
              exact ih46 (k + 1) (by omega) (by omega)
        refine a_sub (lv' := [(3, vi ((0 : Int))), (0, .ref 0), (1, vi ((s : Int))), (2, vi ((n : Int)))]) [0, 1, 2, 3] rfl ?_
        exact L46 _ 0 (Nat.lt_succ_self _) (by omega)
      · skip
        exact absurd c19 (by omega)
  · skip
    exact absurd c8 (by unfold hasS; rw [if_pos (by omega)]; decide)
