/-! the reference: within; what the told plan leads to -/
/-- what an act comes to by the numbers 'now', over 'below' -/
def cnS (G : GT) (s a : Nat) (bl : Int) (k : Nat) : Int := G 53 (3 * s + a) * bl + sumZ (fun t => (((G 62 t) * (G 50 7)) * (G 54 (wIx s a t))) * (Int.tdiv 60 (totZ G s a 5))) k
def cnZ (G : GT) (N s a : Nat) (bl : Int) : Int := if 0 < totZ G s a 5 then cnS G s a bl N else G 53 (3 * s + a) * bl
def tTot (G : GT) (s : Nat) : Int := if G 52 s = 0 then 0 else totZ G s (G 55 s).toNat 5
def tWei (G : GT) (s t : Nat) : Int := if G 52 s = 0 then 0 else G 54 (wIx s (G 55 s).toNat t)

set_option maxRecDepth 100000 in
set_option maxHeartbeats 4000000 in
theorem ct_M_comesNow (l : Launch) (D : va_G) (K : K5) (G : GT) (N s a : Nat) (bl : Int) (hs : s < 5) (ha : a < 3) (hmm : MM G N) (ht6 : totZ G s a 5 ≤ 6) : Ct l D K y_M_comesNow c_M_comesNow 9 (some .long) 2 47 [.ref 50, vi ((s : Int)), vi ((a : Int)), vl bl] G (some (vl (cnZ G N s a bl))) G := by
  refine Ct.intro (by decide +kernel) (Nat.le_of_ble_eq_true rfl) ?_
  intro X hro hty hC hE
  obtain ⟨hn, hN5, hsh, hac, hpa, hwe, hth, hch⟩ := id hmm
  have htt := totZ_in hmm hs ha 5 (by omega)
  have hps := hpa (3 * s + a) (by omega)
  refine a_aload_n (pc := 0) (q := 0) (i := 0) (x := 50) hC (by decide +kernel) rfl 0 rfl ?_
  refine g_get (pc := 1) (idx := 17) (ci := 6) (v := .ref 53) hC 50 4 (by decide +kernel) rfl rfl rfl rfl wrM (by decide) rfl (by decide +kernel) ?_
  refine a_iconst (pc := 4) (c := 3) hC (by decide +kernel) ?_
  refine a_iload_n (pc := 5) (q := 1) (i := 1) (x := (s : Int)) hC (by decide +kernel) rfl 1 rfl ?_
  refine a_imul (pc := 6) hC (by decide +kernel) ?_
  refine a_iload_n (pc := 7) (q := 2) (i := 2) (x := (a : Int)) hC (by decide +kernel) rfl 2 rfl ?_
  refine a_iadd (pc := 8) hC (by decide +kernel) ?_
  refine g_top (y := ((3 * s + a : Nat) : Int)) (by omega) ?_
  refine g_iald (pc := 9) (a := 53) (j := 3 * s + a) hC hty (by decide +kernel) rfl (by omega) (by first | decide | omega) ?_
  refine a_i2l (pc := 10) hC (by decide +kernel) (by unfold inI; omega) ?_
  refine a_lload_n (pc := 11) (q := 3) (i := 3) (x := bl) hC (by decide +kernel) rfl 3 rfl ?_
  refine a_lmul (pc := 12) hC (by decide +kernel) ?_
  refine a_lstore (pc := 13) (q := 0) (i := 5) (lv' := [(5, vl ((G 53 (3 * s + a)) * bl)), (0, .ref 50), (1, vi ((s : Int))), (2, vi ((a : Int))), (3, vl bl)]) hC (by decide +kernel) (by decide) rfl ?_
  refine a_aload_n (pc := 15) (q := 0) (i := 0) (x := 50) hC (by decide +kernel) rfl 1 rfl ?_
  refine a_iload_n (pc := 16) (q := 1) (i := 1) (x := (s : Int)) hC (by decide +kernel) rfl 2 rfl ?_
  refine a_iload_n (pc := 17) (q := 2) (i := 2) (x := (a : Int)) hC (by decide +kernel) rfl 3 rfl ?_
  refine g_callV (pc := 18) (idx := 97) (i := 50) (av := [vi ((s : Int)), vi ((a : Int))]) (rest := []) (g := G) (v := vi (totZ G s a 5)) hC hro hty (by decide +kernel) rfl rfl k_M_total (by decide +kernel) (by decide +kernel) (by decide +kernel) (ct_M_total X.la X.dd K G s a (by omega) (by omega)) rfl rfl (by decide) (by first | decide | simp [Value.category]) ?_
  refine a_istore (pc := 21) (q := 0) (i := 7) (lv' := [(7, vi (totZ G s a 5)), (5, vl ((G 53 (3 * s + a)) * bl)), (0, .ref 50), (1, vi ((s : Int))), (2, vi ((a : Int))), (3, vl bl)]) hC (by decide +kernel) (by decide) rfl ?_
  refine a_iconst (pc := 23) (c := 0) hC (by decide +kernel) ?_
  refine a_istore (pc := 24) (q := 0) (i := 8) (lv' := [(8, vi 0), (7, vi (totZ G s a 5)), (5, vl ((G 53 (3 * s + a)) * bl)), (0, .ref 50), (1, vi ((s : Int))), (2, vi ((a : Int))), (3, vl bl)]) hC (by decide +kernel) (by decide) rfl ?_
  have L26 : ∀ (fuel : Nat) (t : Nat), N - t < fuel → t ≤ N → (¬ 0 < totZ G s a 5 → t = 0) → AW X 9 0 0 26 [(8, vi ((t : Int))), (7, vi (totZ G s a 5)), (5, vl (cnS G s a bl t)), (0, .ref 50), (1, vi ((s : Int))), (2, vi ((a : Int))), (3, vl bl)] [] (hp K G) := by
    intro fuel
    induction fuel with
    | zero => intro t h; exact absurd h (Nat.not_lt_zero _)
    | succ fuel ih26 =>
      intro t hm ht ht2
      refine a_iload (pc := 26) (i := 8) (x := (t : Int)) hC (by decide +kernel) 0 rfl ?_
      refine a_aload_n (pc := 28) (q := 0) (i := 0) (x := 50) hC (by decide +kernel) rfl 3 rfl ?_
      refine g_get (pc := 29) (idx := 72) (ci := 6) (v := vi (G 50 1)) hC 50 1 (by decide +kernel) rfl rfl rfl rfl wrM (by decide) rfl (by decide +kernel) ?_
      refine a_icmp_ge (pc := 32) (off := 49) hC 81 (by decide +kernel) (by decide) (by unfold inI; omega) (by unfold inI; omega) (fun c32 => ?_) (fun c32 => ?_)
      · skip
        have hr : cnS G s a bl t = cnZ G N s a bl := by
          have hN : t = N := by omega
          unfold cnZ
          split
          · rw [hN]
          · have h0 : t = 0 := ht2 (by omega)
            rw [h0]; unfold cnS; show _ + 0 = _; rw [Int.add_zero]
        refine a_lload (pc := 81) (i := 5) (x := cnS G s a bl t) hC (by decide +kernel) 2 rfl ?_
        exact g_lret (pc := 83) hC hE (by decide +kernel) hr rfl
      · skip
        refine a_iload (pc := 35) (i := 7) (x := totZ G s a 5) hC (by decide +kernel) 1 rfl ?_
        refine a_if_le (pc := 37) (off := 44) hC 81 (by decide +kernel) (by decide) (by unfold inI; omega) (fun c37 => ?_) (fun c37 => ?_)
        · skip
          have hr : cnS G s a bl t = cnZ G N s a bl := by
            have h0 : t = 0 := ht2 (by omega)
            unfold cnZ; rw [if_neg (by omega), h0]; show _ + 0 = _; rw [Int.add_zero]
          refine a_lload (pc := 81) (i := 5) (x := cnS G s a bl t) hC (by decide +kernel) 2 rfl ?_
          exact g_lret (pc := 83) hC hE (by decide +kernel) hr rfl
        · skip
          have hwt := hwe (wIx s a t) (by unfold wIx; omega)
          refine a_lload (pc := 40) (i := 5) (x := cnS G s a bl t) hC (by decide +kernel) 2 rfl ?_
          refine a_aload_n (pc := 42) (q := 0) (i := 0) (x := 50) hC (by decide +kernel) rfl 3 rfl ?_
          refine g_get (pc := 43) (idx := 56) (ci := 6) (v := .ref 62) hC 50 22 (by decide +kernel) rfl rfl rfl rfl wrM (by decide) rfl (by decide +kernel) ?_
          refine a_iload (pc := 46) (i := 8) (x := (t : Int)) hC (by decide +kernel) 0 rfl ?_
          refine g_lald (pc := 48) (a := 62) (j := t) hC hty (by decide +kernel) rfl (by omega) (by first | decide | omega) ?_
          refine a_aload_n (pc := 49) (q := 0) (i := 0) (x := 50) hC (by decide +kernel) rfl 3 rfl ?_
          refine g_get (pc := 50) (idx := 26) (ci := 6) (v := vi (G 50 7)) hC 50 7 (by decide +kernel) rfl rfl rfl rfl wrM (by decide) rfl (by decide +kernel) ?_
          refine a_i2l (pc := 53) hC (by decide +kernel) (by unfold inI; omega) ?_
          refine a_lmul (pc := 54) hC (by decide +kernel) ?_
          refine a_aload_n (pc := 55) (q := 0) (i := 0) (x := 50) hC (by decide +kernel) rfl 3 rfl ?_
          refine a_iload_n (pc := 56) (q := 1) (i := 1) (x := (s : Int)) hC (by decide +kernel) rfl 4 rfl ?_
          refine a_iload_n (pc := 57) (q := 2) (i := 2) (x := (a : Int)) hC (by decide +kernel) rfl 5 rfl ?_
          refine a_iload (pc := 58) (i := 8) (x := (t : Int)) hC (by decide +kernel) 0 rfl ?_
          refine g_callV (pc := 60) (idx := 83) (i := 50) (av := [vi ((s : Int)), vi ((a : Int)), vi ((t : Int))]) (rest := [vl ((G 62 t) * (G 50 7)), vl (cnS G s a bl t)]) (g := G) (v := vi (G 54 (wIx s a t))) hC hro hty (by decide +kernel) rfl rfl k_M_weightOf (by decide +kernel) (by decide +kernel) (by decide +kernel) (ct_M_weightOf X.la X.dd K G s a t (by omega) (by omega) (by omega)) rfl rfl (by decide) (by first | decide | simp [Value.category]) ?_
          refine a_i2l (pc := 63) hC (by decide +kernel) (by unfold inI; omega) ?_
          refine a_lmul (pc := 64) hC (by decide +kernel) ?_
          refine a_bipush (pc := 65) (c := 60) hC (by decide +kernel) (by decide +kernel) ?_
          refine a_iload (pc := 67) (i := 7) (x := totZ G s a 5) hC (by decide +kernel) 1 rfl ?_
          refine a_idiv (pc := 69) hC (by decide +kernel) (by unfold inI; omega) (by unfold inI; omega) (by omega) ?_
          refine a_i2l (pc := 70) hC (by decide +kernel) (td60 (by omega) (by omega)) ?_
          refine a_lmul (pc := 71) hC (by decide +kernel) ?_
          refine a_ladd (pc := 72) hC (by decide +kernel) ?_
          refine g_topl (y := cnS G s a bl (t + 1)) (by unfold cnS; rw [Int.add_assoc]; rfl) ?_
          refine a_lstore (pc := 73) (q := 0) (i := 5) (lv' := [(5, vl (cnS G s a bl (t + 1))), (8, vi ((t : Int))), (7, vi (totZ G s a 5)), (0, .ref 50), (1, vi ((s : Int))), (2, vi ((a : Int))), (3, vl bl)]) hC (by decide +kernel) (by decide) rfl ?_
          refine a_iinc (pc := 75) (i := 8) (c := 1) (x := (t : Int)) (lv' := [(8, vi (((t : Int)) + 1)), (5, vl (cnS G s a bl (t + 1))), (7, vi (totZ G s a 5)), (0, .ref 50), (1, vi ((s : Int))), (2, vi ((a : Int))), (3, vl bl)]) hC (by decide +kernel) 1 rfl (by decide) rfl ?_
          refine a_goto (pc := 78) (off := -52) hC 26 (by decide +kernel) (by decide) ?_
          refine a_sub (lv' := [(8, vi (((t + 1) : Int))), (7, vi (totZ G s a 5)), (5, vl (cnS G s a bl (t + 1))), (0, .ref 50), (1, vi ((s : Int))), (2, vi ((a : Int))), (3, vl bl)]) [0, 2, 1, 3, 4, 5, 6] rfl ?_
          exact ih26 (t + 1) (by omega) (by omega) (fun z => absurd (by omega) z)
  refine a_sub (lv' := [(8, vi ((0 : Int))), (7, vi (totZ G s a 5)), (5, vl (cnS G s a bl 0)), (0, .ref 50), (1, vi ((s : Int))), (2, vi ((a : Int))), (3, vl bl)]) [0, 1, 2, 3, 4, 5, 6] (by unfold cnS; show lv_pick _ _ = [_, _, (5, vl (_ + 0)), _, _, _, _]; rw [Int.add_zero]; rfl) ?_
  exact L26 _ 0 (Nat.lt_succ_self _) (by omega) (fun _ => rfl)

set_option maxRecDepth 100000 in
set_option maxHeartbeats 4000000 in
theorem ct_M_toldTotal (l : Launch) (D : va_G) (K : K5) (G : GT) (N s : Nat) (hs : s < 5) (hmm : MM G N) : Ct l D K y_M_toldTotal c_M_toldTotal 2 (some .int) 2 47 [.ref 50, vi ((s : Int))] G (some (vi (tTot G s))) G := by
  refine Ct.intro (by decide +kernel) (Nat.le_of_ble_eq_true rfl) ?_
  intro X hro hty hC hE
  obtain ⟨hn, hN5, hsh, hac, hpa, hwe, hth, hch⟩ := id hmm
  have h3 := hac s hs
  obtain ⟨c, hc, hc3⟩ : ∃ c : Nat, G 55 s = (c : Int) ∧ c < 3 := ⟨(G 55 s).toNat, by have := hch s hs; omega, by have := hch s hs; omega⟩
  have hcn : (G 55 s).toNat = c := by omega
  refine a_aload_n (pc := 0) (q := 0) (i := 0) (x := 50) hC (by decide +kernel) rfl 0 rfl ?_
  refine g_get (pc := 1) (idx := 13) (ci := 6) (v := .ref 52) hC 50 3 (by decide +kernel) rfl rfl rfl rfl wrM (by decide) rfl (by decide +kernel) ?_
  refine a_iload_n (pc := 4) (q := 1) (i := 1) (x := (s : Int)) hC (by decide +kernel) rfl 1 rfl ?_
  refine g_iald (pc := 5) (a := 52) (j := s) hC hty (by decide +kernel) rfl (by omega) (by first | decide | omega) ?_
  refine a_if_ne (pc := 6) (off := 7) hC 13 (by decide +kernel) (by decide) (by unfold inI; omega) (fun c6 => ?_) (fun c6 => ?_)
  · skip
    refine a_aload_n (pc := 13) (q := 0) (i := 0) (x := 50) hC (by decide +kernel) rfl 0 rfl ?_
    refine a_iload_n (pc := 14) (q := 1) (i := 1) (x := (s : Int)) hC (by decide +kernel) rfl 1 rfl ?_
    refine a_aload_n (pc := 15) (q := 0) (i := 0) (x := 50) hC (by decide +kernel) rfl 0 rfl ?_
    refine g_get (pc := 16) (idx := 23) (ci := 6) (v := .ref 55) hC 50 6 (by decide +kernel) rfl rfl rfl rfl wrM (by decide) rfl (by decide +kernel) ?_
    refine a_iload_n (pc := 19) (q := 1) (i := 1) (x := (s : Int)) hC (by decide +kernel) rfl 1 rfl ?_
    refine g_iald (pc := 20) (a := 55) (j := s) hC hty (by decide +kernel) rfl (by omega) (by first | decide | omega) ?_
    refine g_top (y := (c : Int)) hc ?_
    refine g_callV (pc := 21) (idx := 97) (i := 50) (av := [vi ((s : Int)), vi ((c : Int))]) (rest := []) (g := G) (v := vi (totZ G s c 5)) hC hro hty (by decide +kernel) rfl rfl k_M_total (by decide +kernel) (by decide +kernel) (by decide +kernel) (ct_M_total X.la X.dd K G s c (by omega) (by omega)) rfl rfl (by decide) (by first | decide | simp [Value.category]) ?_
    exact g_iret (pc := 24) hC hE (by decide +kernel) (by unfold tTot; first | rw [if_pos c6] | rw [if_neg c6, hcn]) rfl
  · skip
    refine a_iconst (pc := 9) (c := 0) hC (by decide +kernel) ?_
    refine a_goto (pc := 10) (off := 14) hC 24 (by decide +kernel) (by decide) ?_
    exact g_iret (pc := 24) hC hE (by decide +kernel) (by unfold tTot; first | rw [if_pos c6] | rw [if_neg c6, hcn]) rfl

set_option maxRecDepth 100000 in
set_option maxHeartbeats 4000000 in
theorem ct_M_toldWeight (l : Launch) (D : va_G) (K : K5) (G : GT) (N s t : Nat) (hs : s < 5) (ht : t < 5) (hmm : MM G N) : Ct l D K y_M_toldWeight c_M_toldWeight 3 (some .int) 1 23 [.ref 50, vi ((s : Int)), vi ((t : Int))] G (some (vi (tWei G s t))) G := by
  refine Ct.intro (by decide +kernel) (Nat.le_of_ble_eq_true rfl) ?_
  intro X hro hty hC hE
  obtain ⟨hn, hN5, hsh, hac, hpa, hwe, hth, hch⟩ := id hmm
  have h3 := hac s hs
  obtain ⟨c, hc, hc3⟩ : ∃ c : Nat, G 55 s = (c : Int) ∧ c < 3 := ⟨(G 55 s).toNat, by have := hch s hs; omega, by have := hch s hs; omega⟩
  have hcn : (G 55 s).toNat = c := by omega
  refine a_aload_n (pc := 0) (q := 0) (i := 0) (x := 50) hC (by decide +kernel) rfl 0 rfl ?_
  refine g_get (pc := 1) (idx := 13) (ci := 6) (v := .ref 52) hC 50 3 (by decide +kernel) rfl rfl rfl rfl wrM (by decide) rfl (by decide +kernel) ?_
  refine a_iload_n (pc := 4) (q := 1) (i := 1) (x := (s : Int)) hC (by decide +kernel) rfl 1 rfl ?_
  refine g_iald (pc := 5) (a := 52) (j := s) hC hty (by decide +kernel) rfl (by omega) (by first | decide | omega) ?_
  refine a_if_ne (pc := 6) (off := 7) hC 13 (by decide +kernel) (by decide) (by unfold inI; omega) (fun c6 => ?_) (fun c6 => ?_)
  · skip
    refine a_aload_n (pc := 13) (q := 0) (i := 0) (x := 50) hC (by decide +kernel) rfl 0 rfl ?_
    refine a_iload_n (pc := 14) (q := 1) (i := 1) (x := (s : Int)) hC (by decide +kernel) rfl 1 rfl ?_
    refine a_aload_n (pc := 15) (q := 0) (i := 0) (x := 50) hC (by decide +kernel) rfl 0 rfl ?_
    refine g_get (pc := 16) (idx := 23) (ci := 6) (v := .ref 55) hC 50 6 (by decide +kernel) rfl rfl rfl rfl wrM (by decide) rfl (by decide +kernel) ?_
    refine a_iload_n (pc := 19) (q := 1) (i := 1) (x := (s : Int)) hC (by decide +kernel) rfl 1 rfl ?_
    refine g_iald (pc := 20) (a := 55) (j := s) hC hty (by decide +kernel) rfl (by omega) (by first | decide | omega) ?_
    refine g_top (y := (c : Int)) hc ?_
    refine a_iload_n (pc := 21) (q := 2) (i := 2) (x := (t : Int)) hC (by decide +kernel) rfl 2 rfl ?_
    refine g_callV (pc := 22) (idx := 83) (i := 50) (av := [vi ((s : Int)), vi ((c : Int)), vi ((t : Int))]) (rest := []) (g := G) (v := vi (G 54 (wIx s c t))) hC hro hty (by decide +kernel) rfl rfl k_M_weightOf (by decide +kernel) (by decide +kernel) (by decide +kernel) (ct_M_weightOf X.la X.dd K G s c t (by omega) (by omega) (by omega)) rfl rfl (by decide) (by first | decide | simp [Value.category]) ?_
    exact g_iret (pc := 25) hC hE (by decide +kernel) (by unfold tWei; first | rw [if_pos c6] | rw [if_neg c6, hcn]) rfl
  · skip
    refine a_iconst (pc := 9) (c := 0) hC (by decide +kernel) ?_
    refine a_goto (pc := 10) (off := 15) hC 25 (by decide +kernel) (by decide) ?_
    exact g_iret (pc := 25) hC hE (by decide +kernel) (by unfold tWei; first | rw [if_pos c6] | rw [if_neg c6, hcn]) rfl
