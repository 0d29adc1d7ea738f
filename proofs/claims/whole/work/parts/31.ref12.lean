/-! the reference: a ring's gain -/
theorem xor_m1 : ∀ t : Nat, t < 5 → iZ ((pw t : Nat) : Int) ^^^ iZ (-1) = iZ (-((pw t : Nat) : Int) - 1) := by decide +kernel
def clN (m t : Nat) : Nat := m - 2 ^ t
theorem clN_and : ∀ m : Nat, m < 32 → ∀ t : Nat, t < 5 → bt2 m t = 1 → iZ (m : Int) &&& iZ (-((pw t : Nat) : Int) - 1) = iZ ((clN m t : Nat) : Int) := by decide +kernel
theorem clN_le (m t : Nat) : clN m t ≤ m := Nat.sub_le _ _
def gcF (f : Nat → Int) (t k : Nat) : Nat → Int := fun j => if j % 5 = t ∧ j / 5 < k then (if j / 5 = t then 1 else 0) else f j
theorem gcF_0 (f : Nat → Int) (t : Nat) : gcF f t 0 = f := by funext j; exact if_neg (by omega)
theorem gcF_s (f : Nat → Int) {t : Nat} (k : Nat) (ht : t < 5) (x : Int) (hx : x = if k = t then 1 else 0) : up (gcF f t k) (5 * k + t) x = gcF f t (k + 1) := by
  funext j; unfold up gcF
  by_cases h : j = 5 * k + t
  · have e1 : j / 5 = k := by omega
    rw [if_pos h, if_pos (show j % 5 = t ∧ j / 5 < k + 1 by omega), hx, e1]
  · rw [if_neg h]
    have e : (j % 5 = t ∧ j / 5 < k + 1) ↔ (j % 5 = t ∧ j / 5 < k) := by omega
    simp only [e]
/-- the cells laid for the ring m without t, column t fixed -/
def gnC (H : GT) (N m t : Nat) : GT := uG (lkS H N (clN m t) N) 56 (gcF (lkS H N (clN m t) N 56) t N)
def gnV (H : GT) (N m t : Nat) : Int := tTot H t * allZ (gnC H N m t) (-1) N
def gnP (H : GT) (t : Nat) : Int := H 53 (3 * t + (H 55 t).toNat)
def gnN (H : GT) (N m t : Nat) : GT := uG (alG (gnC H N m t) (-1) N) 50 (up (up (H 50) 25 (H 50 25 + gnV H N m t)) 24 (H 50 24 + gnV H N m t * gnP H t))
def gnS (G : GT) (N m : Nat) : Nat → GT
  | 0 => uG G 50 (up (up (G 50) 24 0) 25 0)
  | t + 1 => if bt2 m t = 1 then gnN (gnS G N m t) N m t else gnS G N m t
theorem gnC_n {H : GT} {N m t b : Nat} (h : b ≠ 56) (h2 : b ≠ 57) : gnC H N m t b = H b := by unfold gnC; rw [uG_n _ _ h, lkS_off h h2]
theorem gnS_n {G : GT} {N m b : Nat} (h : b ≠ 50) (h1 : b ≠ 56) (h2 : b ≠ 57) (h3 : b ≠ 58) : ∀ t, gnS G N m t b = G b
  | 0 => uG_n _ _ h
  | t + 1 => by
    unfold gnS
    split
    · unfold gnN; rw [uG_n _ _ h, alG_off h3, gnC_n h1 h2, gnS_n h h1 h2 h3 t]
    · exact gnS_n h h1 h2 h3 t
theorem gnS_k {G : GT} {N m k : Nat} (h : k ≠ 24) (h2 : k ≠ 25) : ∀ t, gnS G N m t 50 k = G 50 k
  | 0 => by unfold gnS; rw [uG_s, up_n _ _ h2, up_n _ _ h]
  | t + 1 => by
    unfold gnS
    split
    · unfold gnN; rw [uG_s, up_n _ _ h, up_n _ _ h2, gnS_k h h2 t]
    · exact gnS_k h h2 t
theorem MM.gn {G : GT} {N m t : Nat} (h : MM G N) : MM (gnS G N m t) N := h.keep (fun a ha => gnS_n (by omega) (by omega) (by omega) (by omega) t) (fun k hk => gnS_k (by omega) (by omega) t)

set_option maxRecDepth 100000 in
set_option maxHeartbeats 4000000 in
theorem ct_M_layGain (l : Launch) (D : va_G) (K : K5) (G : GT) (N m : Nat) (hm32 : m < 32) (hmm : MM G N) : Ct l D K y_M_layGain c_M_layGain 5 none 4 91 [.ref 50, vi ((m : Int))] G none (gnS G N m N) := by
  refine Ct.intro (by decide +kernel) (Nat.le_of_ble_eq_true rfl) ?_
  intro X hro hty hC hE
  obtain ⟨hn, hN5, hsh, hac, hpa, hwe, hth, hch⟩ := id hmm
  refine a_aload_n (pc := 0) (q := 0) (i := 0) (x := 50) hC (by decide +kernel) rfl 0 rfl ?_
  refine a_lconst (pc := 1) (c := 0) (z := 0) hC (by decide +kernel) rfl ?_
  refine g_put (pc := 2) (idx := 188) (ci := 6) (x := 0) hC 50 24 (by decide +kernel) rfl rfl (congrArg (fun z => vl z) (up_s _ _ _)) rfl wrM (by decide) rfl (by decide +kernel) rfl (ok_long _) ?_
  refine a_aload_n (pc := 5) (q := 0) (i := 0) (x := 50) hC (by decide +kernel) rfl 0 rfl ?_
  refine a_lconst (pc := 6) (c := 0) (z := 0) hC (by decide +kernel) rfl ?_
  refine g_put (pc := 7) (idx := 191) (ci := 6) (x := 0) hC 50 25 (by decide +kernel) rfl rfl (congrArg (fun z => vl z) (up_s _ _ _)) rfl wrM (by decide) rfl (by decide +kernel) rfl (ok_long _) ?_
  refine g_G (G' := gnS G N m 0) (by rw [uG_s, uG_uG]; rfl) ?_
  refine a_iconst (pc := 10) (c := 0) hC (by decide +kernel) ?_
  refine a_istore_n (pc := 11) (q := 2) (i := 2) (lv' := [(2, vi 0), (0, .ref 50), (1, vi ((m : Int)))]) hC (by decide +kernel) rfl (by decide) rfl ?_
  have L12 : ∀ (fuel : Nat) (t : Nat), N - t < fuel → t ≤ N → AW X 5 0 0 12 [(2, vi ((t : Int))), (0, .ref 50), (1, vi ((m : Int)))] [] (hp K (gnS G N m t)) := by
    intro fuel
    induction fuel with
    | zero => intro t h; exact absurd h (Nat.not_lt_zero _)
    | succ fuel ih12 =>
      intro t hm ht
      refine a_iload_n (pc := 12) (q := 2) (i := 2) (x := (t : Int)) hC (by decide +kernel) rfl 0 rfl ?_
      refine a_aload_n (pc := 13) (q := 0) (i := 0) (x := 50) hC (by decide +kernel) rfl 1 rfl ?_
      refine g_get (pc := 14) (idx := 72) (ci := 6) (v := vi ((gnS G N m t) 50 1)) hC 50 1 (by decide +kernel) rfl rfl rfl rfl wrM (by decide) rfl (by decide +kernel) ?_
      refine g_top (y := (N : Int)) (by rw [gnS_k (by decide) (by decide)]; exact hn) ?_
      refine a_icmp_ge (pc := 17) (off := 115) hC 132 (by decide +kernel) (by decide) (by unfold inI; omega) (by unfold inI; omega) (fun c17 => ?_) (fun c17 => ?_)
      · skip
        exact g_vret (pc := 132) hC hE (by decide +kernel) (by rw [show t = N by omega])
      · skip
        have hsl := sr_lt (m := m) (k := t) (by omega)
        have hb2 := bt2_in m t
        have hpt := pw_in (k := t) (by omega)
        have hmH : MM (gnS G N m t) N := hmm.gn
        have htt := tTot_in hmH (by omega : t < 5)
        have hcl := clN_le m t
        refine a_iload_n (pc := 20) (q := 1) (i := 1) (x := (m : Int)) hC (by decide +kernel) rfl 2 rfl ?_
        refine a_iload_n (pc := 21) (q := 2) (i := 2) (x := (t : Int)) hC (by decide +kernel) rfl 0 rfl ?_
        refine a_ishr (pc := 22) (z := ((sr m t : Nat) : Int)) hC (by decide +kernel) (shr5 m (by omega) t (by omega)) ?_
        refine a_iconst (pc := 23) (c := 1) hC (by decide +kernel) ?_
        refine a_iand (pc := 24) (z := ((bt2 m t : Nat) : Int)) hC (by decide +kernel) (and1 _ hsl) ?_
        refine a_iconst (pc := 25) (c := 1) hC (by decide +kernel) ?_
        refine a_icmp_ne (pc := 26) (off := 100) hC 126 (by decide +kernel) (by decide) (by unfold inI; omega) (by unfold inI; omega) (fun c26 => ?_) (fun c26 => ?_)
        · skip
          have hst : (gnS G N m t) = gnS G N m (t + 1) := by show _ = (if _ then _ else _); rw [if_neg (by omega)]
          refine a_iinc (pc := 126) (i := 2) (c := 1) (x := (t : Int)) (lv' := [(2, vi (((t : Int)) + 1)), (0, .ref 50), (1, vi ((m : Int)))]) hC (by decide +kernel) 0 rfl (by decide) rfl ?_
          refine a_goto (pc := 129) (off := -117) hC 12 (by decide +kernel) (by decide) ?_
          refine a_sub (lv' := [(2, vi (((t + 1) : Int))), (0, .ref 50), (1, vi ((m : Int)))]) [0, 1, 2] rfl ?_
          refine g_G (G' := gnS G N m (t + 1)) (by first | exact hst | (rw [uG_s, uG_uG, ← hst]; unfold gnN; rw [alG_off (by decide), gnC_n (by decide) (by decide)])) ?_
          exact ih12 (t + 1) (by omega) (by omega)
        · skip
          have hb1 : bt2 m t = 1 := by omega
          have hst : gnN (gnS G N m t) N m t = gnS G N m (t + 1) := by show _ = (if _ then _ else _); rw [if_pos hb1]
          have hmL : MM (lkS (gnS G N m t) N (clN m t) N) N := hmH.off (fun b hb => lkS_off (by omega) (by omega) N)
          refine a_aload_n (pc := 29) (q := 0) (i := 0) (x := 50) hC (by decide +kernel) rfl 1 rfl ?_
          refine a_iload_n (pc := 30) (q := 1) (i := 1) (x := (m : Int)) hC (by decide +kernel) rfl 2 rfl ?_
          refine a_iconst (pc := 31) (c := 1) hC (by decide +kernel) ?_
          refine a_iload_n (pc := 32) (q := 2) (i := 2) (x := (t : Int)) hC (by decide +kernel) rfl 0 rfl ?_
          refine a_ishl (pc := 33) (z := ((pw t : Nat) : Int)) hC (by decide +kernel) (iZ_shl (by omega)) ?_
          refine a_iconst (pc := 34) (c := -1) hC (by decide +kernel) ?_
          refine a_ixor (pc := 35) (z := -((pw t : Nat) : Int) - 1) hC (by decide +kernel) (xor_m1 t (by omega)) ?_
          refine a_iand (pc := 36) (z := ((clN m t : Nat) : Int)) hC (by decide +kernel) (clN_and m hm32 t (by omega) hb1) ?_
          refine g_callV0 (pc := 37) (idx := 194) (i := 50) (av := [vi (((clN m t : Nat) : Int))]) (rest := []) (g := lkS (gnS G N m t) N (clN m t) N) hC hro hty (by decide +kernel) rfl rfl k_M_layWalk (by decide +kernel) (by decide +kernel) (by decide +kernel) (ct_M_layWalk X.la X.dd K (gnS G N m t) N (clN m t) (by omega) hmH) rfl rfl (by decide) (by first | decide | simp [Value.category]) ?_
          refine a_iconst (pc := 40) (c := 0) hC (by decide +kernel) ?_
          refine a_istore_n (pc := 41) (q := 3) (i := 3) (lv' := [(3, vi 0), (2, vi ((t : Int))), (0, .ref 50), (1, vi ((m : Int)))]) hC (by decide +kernel) rfl (by decide) rfl ?_
          have L42 : ∀ (fuel : Nat) (s : Nat), N - s < fuel → s ≤ N → AW X 5 0 0 42 [(3, vi ((s : Int))), (2, vi ((t : Int))), (0, .ref 50), (1, vi ((m : Int)))] [] (hp K (uG (lkS (gnS G N m t) N (clN m t) N) 56 (gcF ((lkS (gnS G N m t) N (clN m t) N) 56) t s))) := by
            intro fuel
            induction fuel with
            | zero => intro s h; exact absurd h (Nat.not_lt_zero _)
            | succ fuel ih42 =>
              intro s hm hs
              refine a_iload_n (pc := 42) (q := 3) (i := 3) (x := (s : Int)) hC (by decide +kernel) rfl 0 rfl ?_
              refine a_aload_n (pc := 43) (q := 0) (i := 0) (x := 50) hC (by decide +kernel) rfl 2 rfl ?_
              refine g_get (pc := 44) (idx := 72) (ci := 6) (v := vi ((uG (lkS (gnS G N m t) N (clN m t) N) 56 (gcF ((lkS (gnS G N m t) N (clN m t) N) 56) t s)) 50 1)) hC 50 1 (by decide +kernel) rfl rfl rfl rfl wrM (by decide) rfl (by decide +kernel) ?_
              refine g_top (y := (N : Int)) (by rw [uG_n _ _ (by decide)]; exact hmL.1) ?_
              refine a_icmp_ge (pc := 47) (off := 29) hC 76 (by decide +kernel) (by decide) (by unfold inI; omega) (by unfold inI; omega) (fun c47 => ?_) (fun c47 => ?_)
              · skip
                have hsN : s = N := by omega
                have hmC : MM (uG (lkS (gnS G N m t) N (clN m t) N) 56 (gcF ((lkS (gnS G N m t) N (clN m t) N) 56) t s)) N := hmL.off (fun b hb => uG_n _ _ (by omega))
                refine a_aload_n (pc := 76) (q := 0) (i := 0) (x := 50) hC (by decide +kernel) rfl 2 rfl ?_
                refine a_iload_n (pc := 77) (q := 2) (i := 2) (x := (t : Int)) hC (by decide +kernel) rfl 1 rfl ?_
                refine g_callV (pc := 78) (idx := 185) (i := 50) (av := [vi ((t : Int))]) (rest := []) (g := uG (lkS (gnS G N m t) N (clN m t) N) 56 (gcF ((lkS (gnS G N m t) N (clN m t) N) 56) t s)) (v := vi (tTot (uG (lkS (gnS G N m t) N (clN m t) N) 56 (gcF ((lkS (gnS G N m t) N (clN m t) N) 56) t s)) t)) hC hro hty (by decide +kernel) rfl rfl k_M_toldTotal (by decide +kernel) (by decide +kernel) (by decide +kernel) (ct_M_toldTotal X.la X.dd K (uG (lkS (gnS G N m t) N (clN m t) N) 56 (gcF ((lkS (gnS G N m t) N (clN m t) N) 56) t s)) N t (by omega) hmC) rfl rfl (by decide) (by first | decide | simp [Value.category]) ?_
                refine g_top (y := tTot (gnS G N m t) t) (tTot_congr (fun b hb => by rw [uG_n _ _ (by omega), lkS_off (by omega) (by omega)]) t) ?_
                refine a_i2l (pc := 81) hC (by decide +kernel) (by unfold inI; omega) ?_
                refine a_aload_n (pc := 82) (q := 0) (i := 0) (x := 50) hC (by decide +kernel) rfl 2 rfl ?_
                refine a_iconst (pc := 83) (c := -1) hC (by decide +kernel) ?_
                refine g_callV (pc := 84) (idx := 119) (i := 50) (av := [vi (-1)]) (rest := [vl (tTot (gnS G N m t) t)]) (g := alG (uG (lkS (gnS G N m t) N (clN m t) N) 56 (gcF ((lkS (gnS G N m t) N (clN m t) N) 56) t s)) (-1) N) (v := vl (allZ (uG (lkS (gnS G N m t) N (clN m t) N) 56 (gcF ((lkS (gnS G N m t) N (clN m t) N) 56) t s)) (-1) N)) hC hro hty (by decide +kernel) rfl rfl k_M_all (by decide +kernel) (by decide +kernel) (by decide +kernel) (ct_M_all X.la X.dd K (uG (lkS (gnS G N m t) N (clN m t) N) 56 (gcF ((lkS (gnS G N m t) N (clN m t) N) 56) t s)) N (-1) (by omega) (by omega) hmC.1) rfl rfl (by decide) (by first | decide | simp [Value.category]) ?_
                refine g_G (G' := alG (gnC (gnS G N m t) N m t) (-1) N) (by rw [hsN]; rfl) ?_
                refine a_lmul (pc := 87) hC (by decide +kernel) ?_
                refine g_topl (y := gnV (gnS G N m t) N m t) (by unfold gnV gnC; rw [hsN]) ?_
                refine a_lstore_n (pc := 88) (q := 3) (i := 3) (lv' := [(3, vl (gnV (gnS G N m t) N m t)), (2, vi ((t : Int))), (0, .ref 50), (1, vi ((m : Int)))]) hC (by decide +kernel) rfl (by decide) rfl ?_
                have hch5 := hmH.2.2.2.2.2.2.2 t (by omega)
                obtain ⟨c, hc, hc3⟩ : ∃ c : Nat, (gnS G N m t) 55 t = (c : Int) ∧ c < 3 := ⟨((gnS G N m t) 55 t).toNat, by omega, by omega⟩
                have hcn : ((gnS G N m t) 55 t).toNat = c := by omega
                have hpp := hmH.2.2.2.2.1 (3 * t + c) (by omega)
                refine a_aload_n (pc := 89) (q := 0) (i := 0) (x := 50) hC (by decide +kernel) rfl 2 rfl ?_
                refine a_dup (pc := 90) hC (by decide +kernel) rfl ?_
                refine g_get (pc := 91) (idx := 191) (ci := 6) (v := vl ((alG (gnC (gnS G N m t) N m t) (-1) N) 50 25)) hC 50 25 (by decide +kernel) rfl rfl rfl rfl wrM (by decide) rfl (by decide +kernel) ?_
                refine g_topl (y := (gnS G N m t) 50 25) (by rw [alG_off (by decide), gnC_n (by decide) (by decide)]) ?_
                refine a_lload_n (pc := 94) (q := 3) (i := 3) (x := gnV (gnS G N m t) N m t) hC (by decide +kernel) rfl 0 rfl ?_
                refine a_ladd (pc := 95) hC (by decide +kernel) ?_
                refine g_put (pc := 96) (idx := 191) (ci := 6) (x := ((gnS G N m t) 50 25) + (gnV (gnS G N m t) N m t)) hC 50 25 (by decide +kernel) rfl rfl (congrArg (fun z => vl z) (up_s _ _ _)) rfl wrM (by decide) rfl (by decide +kernel) rfl (ok_long _) ?_
                refine a_aload_n (pc := 99) (q := 0) (i := 0) (x := 50) hC (by decide +kernel) rfl 2 rfl ?_
                refine a_dup (pc := 100) hC (by decide +kernel) rfl ?_
                refine g_get (pc := 101) (idx := 188) (ci := 6) (v := vl ((uG (alG (gnC (gnS G N m t) N m t) (-1) N) 50 (up ((alG (gnC (gnS G N m t) N m t) (-1) N) 50) 25 (((gnS G N m t) 50 25) + (gnV (gnS G N m t) N m t)))) 50 24)) hC 50 24 (by decide +kernel) rfl rfl rfl rfl wrM (by decide) rfl (by decide +kernel) ?_
                refine g_topl (y := (gnS G N m t) 50 24) (by rw [uG_s, up_n _ _ (by decide), alG_off (by decide), gnC_n (by decide) (by decide)]) ?_
                refine a_lload_n (pc := 104) (q := 3) (i := 3) (x := gnV (gnS G N m t) N m t) hC (by decide +kernel) rfl 0 rfl ?_
                refine a_aload_n (pc := 105) (q := 0) (i := 0) (x := 50) hC (by decide +kernel) rfl 2 rfl ?_
                refine g_get (pc := 106) (idx := 17) (ci := 6) (v := .ref 53) hC 50 4 (by decide +kernel) rfl rfl rfl rfl wrM (by decide) rfl (by decide +kernel) ?_
                refine a_iconst (pc := 109) (c := 3) hC (by decide +kernel) ?_
                refine a_iload_n (pc := 110) (q := 2) (i := 2) (x := (t : Int)) hC (by decide +kernel) rfl 1 rfl ?_
                refine a_imul (pc := 111) hC (by decide +kernel) ?_
                refine a_aload_n (pc := 112) (q := 0) (i := 0) (x := 50) hC (by decide +kernel) rfl 2 rfl ?_
                refine g_get (pc := 113) (idx := 23) (ci := 6) (v := .ref 55) hC 50 6 (by decide +kernel) rfl rfl rfl rfl wrM (by decide) rfl (by decide +kernel) ?_
                refine a_iload_n (pc := 116) (q := 2) (i := 2) (x := (t : Int)) hC (by decide +kernel) rfl 1 rfl ?_
                refine g_iald (pc := 117) (a := 55) (j := t) hC hty (by decide +kernel) rfl (by omega) (by first | decide | omega) ?_
                refine g_top (y := (c : Int)) (by rw [uG_n _ _ (by decide), alG_off (by decide), gnC_n (by decide) (by decide)]; exact hc) ?_
                refine a_iadd (pc := 118) hC (by decide +kernel) ?_
                refine g_top (y := ((3 * t + c : Nat) : Int)) (by omega) ?_
                refine g_iald (pc := 119) (a := 53) (j := 3 * t + c) hC hty (by decide +kernel) rfl (by omega) (by first | decide | omega) ?_
                refine g_top (y := gnP (gnS G N m t) t) (by unfold gnP; rw [uG_n _ _ (by decide), alG_off (by decide), gnC_n (by decide) (by decide), hcn]) ?_
                refine a_i2l (pc := 120) hC (by decide +kernel) (by unfold inI gnP; rw [hcn]; omega) ?_
                refine a_lmul (pc := 121) hC (by decide +kernel) ?_
                refine a_ladd (pc := 122) hC (by decide +kernel) ?_
                refine g_put (pc := 123) (idx := 188) (ci := 6) (x := ((gnS G N m t) 50 24) + ((gnV (gnS G N m t) N m t) * (gnP (gnS G N m t) t))) hC 50 24 (by decide +kernel) rfl rfl (congrArg (fun z => vl z) (up_s _ _ _)) rfl wrM (by decide) rfl (by decide +kernel) rfl (ok_long _) ?_
                refine a_iinc (pc := 126) (i := 2) (c := 1) (x := (t : Int)) (lv' := [(2, vi (((t : Int)) + 1)), (3, vl (gnV (gnS G N m t) N m t)), (0, .ref 50), (1, vi ((m : Int)))]) hC (by decide +kernel) 1 rfl (by decide) rfl ?_
                refine a_goto (pc := 129) (off := -117) hC 12 (by decide +kernel) (by decide) ?_
                refine a_sub (lv' := [(2, vi (((t + 1) : Int))), (0, .ref 50), (1, vi ((m : Int)))]) [0, 2, 3] rfl ?_
                refine g_G (G' := gnS G N m (t + 1)) (by first | exact hst | (rw [uG_s, uG_uG, ← hst]; unfold gnN; rw [alG_off (by decide), gnC_n (by decide) (by decide)])) ?_
                exact ih12 (t + 1) (by omega) (by omega)
              · skip
                refine a_aload_n (pc := 50) (q := 0) (i := 0) (x := 50) hC (by decide +kernel) rfl 2 rfl ?_
                refine g_get (pc := 51) (idx := 37) (ci := 6) (v := .ref 56) hC 50 11 (by decide +kernel) rfl rfl rfl rfl wrM (by decide) rfl (by decide +kernel) ?_
                refine a_iconst (pc := 54) (c := 5) hC (by decide +kernel) ?_
                refine a_iload_n (pc := 55) (q := 3) (i := 3) (x := (s : Int)) hC (by decide +kernel) rfl 0 rfl ?_
                refine a_imul (pc := 56) hC (by decide +kernel) ?_
                refine a_iload_n (pc := 57) (q := 2) (i := 2) (x := (t : Int)) hC (by decide +kernel) rfl 1 rfl ?_
                refine a_iadd (pc := 58) hC (by decide +kernel) ?_
                refine a_iload_n (pc := 59) (q := 3) (i := 3) (x := (s : Int)) hC (by decide +kernel) rfl 0 rfl ?_
                refine a_iload_n (pc := 60) (q := 2) (i := 2) (x := (t : Int)) hC (by decide +kernel) rfl 1 rfl ?_
                refine a_icmp_ne (pc := 61) (off := 7) hC 68 (by decide +kernel) (by decide) (by unfold inI; omega) (by unfold inI; omega) (fun c61 => ?_) (fun c61 => ?_)
                · skip
                  have hx : (0 : Int) = if s = t then 1 else 0 := by rw [if_neg (by omega)]
                  refine a_lconst (pc := 68) (c := 0) (z := 0) hC (by decide +kernel) rfl ?_
                  refine g_snd (y := ((5 * s + t : Nat) : Int)) (by omega) ?_
                  refine g_last (pc := 69) (a := 56) (j := 5 * s + t) (x := 0) hC hty (by decide +kernel) rfl (by omega) (by first | decide | omega) ?_
                  refine a_iinc (pc := 70) (i := 3) (c := 1) (x := (s : Int)) (lv' := [(3, vi (((s : Int)) + 1)), (2, vi ((t : Int))), (0, .ref 50), (1, vi ((m : Int)))]) hC (by decide +kernel) 0 rfl (by decide) rfl ?_
                  refine a_goto (pc := 73) (off := -31) hC 42 (by decide +kernel) (by decide) ?_
                  refine a_sub (lv' := [(3, vi (((s + 1) : Int))), (2, vi ((t : Int))), (0, .ref 50), (1, vi ((m : Int)))]) [0, 1, 2, 3] rfl ?_
                  refine g_G (G' := uG (lkS (gnS G N m t) N (clN m t) N) 56 (gcF ((lkS (gnS G N m t) N (clN m t) N) 56) t (s + 1))) (by rw [uG_s, uG_uG, gcF_s _ _ (by omega) _ hx]) ?_
                  exact ih42 (s + 1) (by omega) (by omega)
                · skip
                  have hx : (1 : Int) = if s = t then 1 else 0 := by rw [if_pos (by omega)]
                  refine a_lconst (pc := 64) (c := 1) (z := 1) hC (by decide +kernel) rfl ?_
                  refine a_goto (pc := 65) (off := 4) hC 69 (by decide +kernel) (by decide) ?_
                  refine g_snd (y := ((5 * s + t : Nat) : Int)) (by omega) ?_
                  refine g_last (pc := 69) (a := 56) (j := 5 * s + t) (x := 1) hC hty (by decide +kernel) rfl (by omega) (by first | decide | omega) ?_
                  refine a_iinc (pc := 70) (i := 3) (c := 1) (x := (s : Int)) (lv' := [(3, vi (((s : Int)) + 1)), (2, vi ((t : Int))), (0, .ref 50), (1, vi ((m : Int)))]) hC (by decide +kernel) 0 rfl (by decide) rfl ?_
                  refine a_goto (pc := 73) (off := -31) hC 42 (by decide +kernel) (by decide) ?_
                  refine a_sub (lv' := [(3, vi (((s + 1) : Int))), (2, vi ((t : Int))), (0, .ref 50), (1, vi ((m : Int)))]) [0, 1, 2, 3] rfl ?_
                  refine g_G (G' := uG (lkS (gnS G N m t) N (clN m t) N) 56 (gcF ((lkS (gnS G N m t) N (clN m t) N) 56) t (s + 1))) (by rw [uG_s, uG_uG, gcF_s _ _ (by omega) _ hx]) ?_
                  exact ih42 (s + 1) (by omega) (by omega)
          refine a_sub (lv' := [(3, vi ((0 : Int))), (2, vi ((t : Int))), (0, .ref 50), (1, vi ((m : Int)))]) [0, 1, 2, 3] rfl ?_
          refine g_G (G' := uG (lkS (gnS G N m t) N (clN m t) N) 56 (gcF ((lkS (gnS G N m t) N (clN m t) N) 56) t 0)) (by rw [gcF_0, uG_self]) ?_
          exact L42 _ 0 (Nat.lt_succ_self _) (by omega)
  refine a_sub (lv' := [(2, vi ((0 : Int))), (0, .ref 50), (1, vi ((m : Int)))]) [0, 1, 2] rfl ?_
  exact L12 _ 0 (Nat.lt_succ_self _) (by omega)
