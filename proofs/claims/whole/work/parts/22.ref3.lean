/-! the reference: weight, the told plan's number, the determinant -/
def iniF (f : Nat → Int) (j : Nat) : Nat → Int := fun z => if z < j then (if z = 0 then 1 else 0) else f z
theorem iniF_0 (f : Nat → Int) : iniF f 0 = f := by funext j; exact if_neg (by omega)
theorem iniF_s (f : Nat → Int) (t : Nat) (x : Int) (hx : x = if t = 0 then 1 else 0) : up (iniF f t) t x = iniF f (t + 1) := by
  funext j; unfold up iniF
  by_cases h : j = t
  · subst h; rw [if_pos rfl, if_pos (show j < j + 1 by omega), hx]
  · rw [if_neg h]
    have e : (j < t + 1) ↔ (j < t) := by omega
    simp only [e]
def orN (m t : Nat) : Nat := m ||| 2 ^ t
theorem orN_lt0 : ∀ m, m < 32 → ∀ t, t < 5 → m ||| 2 ^ t < 32 := by decide +kernel
theorem orN_lt {m t : Nat} (hm : m < 32) (ht : t < 5) : orN m t < 32 := orN_lt0 m hm t ht
theorem or_nat {m t : Nat} : iZ (m : Int) ||| iZ ((pw t : Nat) : Int) = iZ ((orN m t : Nat) : Int) := by
  rw [iZ_or (by omega) (by omega)]; unfold orZ; rw [Int.toNat_natCast, Int.toNat_natCast]; rfl
theorem mn4 : ∀ m, m < 32 → ∀ t, t < 5 → bt2 m t = 0 → mnS m 5 ≤ 4 := by decide +kernel
theorem pw_1 (k : Nat) : 1 ≤ pw k := Nat.two_pow_pos k
def alX (G : GT) (pl : Int) (m t : Nat) : Int := if (t : Int) = pl then G 57 (mnS m 5).toNat else G 56 (5 * (mnS m 5).toNat + t)
def sgZ (m t : Nat) (v : Int) : Int := if Int.tmod (mnS (sr m t) 5) 2 = 1 then -v else v
def aT (G : GT) (pl : Int) (m : Nat) (f : Nat → Int) : Nat → Nat → Int
  | 0 => f
  | t + 1 => if bt2 m t = 0 then up (aT G pl m f t) (orN m t) ((aT G pl m f t (orN m t)) + (sgZ m t ((aT G pl m f t m) * (alX G pl m t)))) else aT G pl m f t
def aS (G : GT) (pl : Int) (N : Nat) : Nat → Nat → Int
  | 0 => iniF (G 58) 32
  | m + 1 => aT G pl m (aS G pl N m) N
def allZ (G : GT) (pl : Int) (N : Nat) : Int := aS G pl N (pw N - 1) (pw N - 1)
def alG (G : GT) (pl : Int) (N : Nat) : GT := uG G 58 (aS G pl N (pw N - 1))

set_option maxRecDepth 100000 in
set_option maxHeartbeats 4000000 in
theorem ct_M_share_bad (l : Launch) (D : va_G) (K : K5) (G : GT) (u d : Int) (hui : inI u) (hdi : inI d) (hbad : d < 1 ∨ 6 < d ∨ u < 0 ∨ d ≤ u) : Ct l D K y_M_share c_M_share 3 (some .int) 1 25 [.ref 50, vi u, vi d] G (some (vi (-2))) (m0 G) := by
  refine Ct.intro (by decide +kernel) (Nat.le_of_ble_eq_true rfl) ?_
  intro X hro hty hC hE
  unfold inI at hui hdi
  refine a_aload_n (pc := 0) (q := 0) (i := 0) (x := 50) hC (by decide +kernel) rfl 0 rfl ?_
  refine a_iconst (pc := 1) (c := 0) hC (by decide +kernel) ?_
  refine g_put (pc := 2) (idx := 62) (ci := 6) (x := 0) hC 50 0 (by decide +kernel) rfl rfl (congrArg (fun z => vi z) (up_s _ _ _)) rfl wrM (by decide) rfl (by decide +kernel) rfl (ok_int _) ?_
  refine g_G (G' := m0 G) rfl ?_
  refine a_iload_n (pc := 5) (q := 2) (i := 2) (x := d) hC (by decide +kernel) rfl 2 rfl ?_
  refine a_i2l (pc := 6) hC (by decide +kernel) (by unfold inI; omega) ?_
  refine a_lconst (pc := 7) (c := 1) (z := 1) hC (by decide +kernel) rfl ?_
  refine a_ldc2 (pc := 8) (idx := 95) (z := 6) (v := 6) hC (by decide +kernel) (by decide +kernel) rfl ?_
  refine g_callS (pc := 11) (idx := 75) (av := [vl d, vl 1, vl 6]) (rest := []) (g := m0 G) (v := vi (inZ d 1 6)) hC hro hty (by decide +kernel) k_M_in (by decide +kernel) (by decide +kernel) (ct_M_in X.la X.dd K (m0 G) d 1 6 (by unfold inL; omega) (by unfold inL; omega) (by unfold inL; omega)) rfl rfl (by decide) (by first | decide | simp [Value.category]) ?_
  refine a_if_eq (pc := 14) (off := 16) hC 30 (by decide +kernel) (by decide) (by unfold inI; have := inZ_01 d 1 6; omega) (fun c14 => ?_) (fun c14 => ?_)
  · skip
    refine a_bipush (pc := 30) (c := -2) hC (by decide +kernel) (by decide +kernel) ?_
    exact g_iret (pc := 32) hC hE (by decide +kernel) rfl rfl
  · skip
    have hd6 : 1 ≤ d ∧ d ≤ 6 := by unfold inZ at c14; split at c14 <;> omega
    refine a_iload_n (pc := 17) (q := 1) (i := 1) (x := u) hC (by decide +kernel) rfl 1 rfl ?_
    refine a_i2l (pc := 18) hC (by decide +kernel) (by unfold inI; omega) ?_
    refine a_lconst (pc := 19) (c := 0) (z := 0) hC (by decide +kernel) rfl ?_
    refine a_iload_n (pc := 20) (q := 2) (i := 2) (x := d) hC (by decide +kernel) rfl 2 rfl ?_
    refine a_iconst (pc := 21) (c := 1) hC (by decide +kernel) ?_
    refine a_isub (pc := 22) hC (by decide +kernel) ?_
    refine a_i2l (pc := 23) hC (by decide +kernel) (by unfold inI; omega) ?_
    refine g_callS (pc := 24) (idx := 75) (av := [vl u, vl 0, vl (d - 1)]) (rest := []) (g := m0 G) (v := vi (inZ u 0 (d - 1))) hC hro hty (by decide +kernel) k_M_in (by decide +kernel) (by decide +kernel) (ct_M_in X.la X.dd K (m0 G) u 0 (d - 1) (by unfold inL; omega) (by unfold inL; omega) (by unfold inL; omega)) rfl rfl (by decide) (by first | decide | simp [Value.category]) ?_
    refine a_if_ne (pc := 27) (off := 6) hC 33 (by decide +kernel) (by decide) (by unfold inI; have := inZ_01 u 0 (d - 1); omega) (fun c27 => ?_) (fun c27 => ?_)
    · skip
      exact absurd hbad (by unfold inZ at c14 c27; split at c14 <;> split at c27 <;> omega)
    · skip
      refine a_bipush (pc := 30) (c := -2) hC (by decide +kernel) (by decide +kernel) ?_
      exact g_iret (pc := 32) hC hE (by decide +kernel) rfl rfl

set_option maxRecDepth 100000 in
set_option maxHeartbeats 4000000 in
theorem ct_M_weight_no (l : Launch) (D : va_G) (K : K5) (G : GT) (N : Nat) (s a t x : Int) (hsi : inI s) (hai : inI a) (hti : inI t) (hxi : inI x) (hmm : MM G N) (hno : mA G s a = 0 ∨ mS G t = 0) : Ct l D K y_M_weight c_M_weight 6 (some .int) 3 68 [.ref 50, vi s, vi a, vi t, vi x] G (some (vi (-1))) (m0 G) := by
  refine Ct.intro (by decide +kernel) (Nat.le_of_ble_eq_true rfl) ?_
  intro X hro hty hC hE
  obtain ⟨hn, hN5, hsh, hac, hpa, hwe, hth, hch⟩ := id hmm
  refine a_aload_n (pc := 0) (q := 0) (i := 0) (x := 50) hC (by decide +kernel) rfl 0 rfl ?_
  refine a_iconst (pc := 1) (c := 0) hC (by decide +kernel) ?_
  refine g_put (pc := 2) (idx := 62) (ci := 6) (x := 0) hC 50 0 (by decide +kernel) rfl rfl (congrArg (fun z => vi z) (up_s _ _ _)) rfl wrM (by decide) rfl (by decide +kernel) rfl (ok_int _) ?_
  refine g_G (G' := m0 G) rfl ?_
  refine a_aload_n (pc := 5) (q := 0) (i := 0) (x := 50) hC (by decide +kernel) rfl 0 rfl ?_
  refine a_iload_n (pc := 6) (q := 1) (i := 1) (x := s) hC (by decide +kernel) rfl 1 rfl ?_
  refine a_iload_n (pc := 7) (q := 2) (i := 2) (x := a) hC (by decide +kernel) rfl 2 rfl ?_
  refine g_callV (pc := 8) (idx := 91) (i := 50) (av := [vi s, vi a]) (rest := []) (g := m0 G) (v := vi (mA (m0 G) s a)) hC hro hty (by decide +kernel) rfl rfl k_M_isAct (by decide +kernel) (by decide +kernel) (by decide +kernel) (ct_M_isAct X.la X.dd K (m0 G) N s a hsi hai hmm.m0) rfl rfl (by decide) (by first | decide | simp [Value.category]) ?_
  refine g_top (y := mA G s a) (mA_m0 _ _ _) ?_
  refine a_if_eq (pc := 11) (off := 11) hC 22 (by decide +kernel) (by decide) (by unfold inI; have := mA_01 G s a; omega) (fun c11 => ?_) (fun c11 => ?_)
  · skip
    refine a_iconst (pc := 22) (c := -1) hC (by decide +kernel) ?_
    exact g_iret (pc := 23) hC hE (by decide +kernel) rfl rfl
  · skip
    refine a_aload_n (pc := 14) (q := 0) (i := 0) (x := 50) hC (by decide +kernel) rfl 0 rfl ?_
    refine a_iload_n (pc := 15) (q := 3) (i := 3) (x := t) hC (by decide +kernel) rfl 3 rfl ?_
    refine g_callV (pc := 16) (idx := 79) (i := 50) (av := [vi t]) (rest := []) (g := m0 G) (v := vi (mS (m0 G) t)) hC hro hty (by decide +kernel) rfl rfl k_M_isState (by decide +kernel) (by decide +kernel) (by decide +kernel) (ct_M_isState X.la X.dd K (m0 G) N t hti hmm.m0) rfl rfl (by decide) (by first | decide | simp [Value.category]) ?_
    refine g_top (y := mS G t) (mS_m0 _ _) ?_
    refine a_if_ne (pc := 19) (off := 5) hC 24 (by decide +kernel) (by decide) (by unfold inI; have := mS_01 G t; omega) (fun c19 => ?_) (fun c19 => ?_)
    · skip
      exact hno.elim (fun h => absurd h c11) (fun h => absurd h c19)
    · skip
      refine a_iconst (pc := 22) (c := -1) hC (by decide +kernel) ?_
      exact g_iret (pc := 23) hC hE (by decide +kernel) rfl rfl

set_option maxRecDepth 100000 in
set_option maxHeartbeats 4000000 in
theorem ct_M_weight_bad (l : Launch) (D : va_G) (K : K5) (G : GT) (N s a t : Nat) (x : Int) (hs : s < N) (ha : (a : Int) < G 52 s) (ht : t < N) (hxi : inI x) (hmm : MM G N) (hbad : x < 0 ∨ 6 < x ∨ 6 < totZ G s a 5 - G 54 (wIx s a t) + x) : Ct l D K y_M_weight c_M_weight 6 (some .int) 3 68 [.ref 50, vi ((s : Int)), vi ((a : Int)), vi ((t : Int)), vi x] G (some (vi (-2))) (m0 G) := by
  refine Ct.intro (by decide +kernel) (Nat.le_of_ble_eq_true rfl) ?_
  intro X hro hty hC hE
  obtain ⟨hn, hN5, hsh, hac, hpa, hwe, hth, hch⟩ := id hmm
  have ha3 := hac s (by omega)
  have ha2 : a < 3 := by omega
  unfold inI at hxi
  have hwt := hwe (wIx s a t) (by unfold wIx; omega)
  have htt := totZ_in hmm (by omega : s < 5) ha2 5 (by omega)
  have h06 := inZ_01 x 0 6
  refine a_aload_n (pc := 0) (q := 0) (i := 0) (x := 50) hC (by decide +kernel) rfl 0 rfl ?_
  refine a_iconst (pc := 1) (c := 0) hC (by decide +kernel) ?_
  refine g_put (pc := 2) (idx := 62) (ci := 6) (x := 0) hC 50 0 (by decide +kernel) rfl rfl (congrArg (fun z => vi z) (up_s _ _ _)) rfl wrM (by decide) rfl (by decide +kernel) rfl (ok_int _) ?_
  refine g_G (G' := m0 G) rfl ?_
  refine a_aload_n (pc := 5) (q := 0) (i := 0) (x := 50) hC (by decide +kernel) rfl 0 rfl ?_
  refine a_iload_n (pc := 6) (q := 1) (i := 1) (x := (s : Int)) hC (by decide +kernel) rfl 1 rfl ?_
  refine a_iload_n (pc := 7) (q := 2) (i := 2) (x := (a : Int)) hC (by decide +kernel) rfl 2 rfl ?_
  refine g_callV (pc := 8) (idx := 91) (i := 50) (av := [vi ((s : Int)), vi ((a : Int))]) (rest := []) (g := m0 G) (v := vi (mA (m0 G) ((s : Int)) ((a : Int)))) hC hro hty (by decide +kernel) rfl rfl k_M_isAct (by decide +kernel) (by decide +kernel) (by decide +kernel) (ct_M_isAct X.la X.dd K (m0 G) N ((s : Int)) ((a : Int)) (by unfold inI; omega) (by unfold inI; omega) hmm.m0) rfl rfl (by decide) (by first | decide | simp [Value.category]) ?_
  refine g_top (y := 1) (by rw [mA_m0]; exact mA_ok hmm hs ha) ?_
  refine a_if_eq (pc := 11) (off := 11) hC 22 (by decide +kernel) (by decide) (by unfold inI; omega) (fun c11 => ?_) (fun c11 => ?_)
  · skip
    exact absurd c11 (by decide)
  · skip
    refine a_aload_n (pc := 14) (q := 0) (i := 0) (x := 50) hC (by decide +kernel) rfl 0 rfl ?_
    refine a_iload_n (pc := 15) (q := 3) (i := 3) (x := (t : Int)) hC (by decide +kernel) rfl 3 rfl ?_
    refine g_callV (pc := 16) (idx := 79) (i := 50) (av := [vi ((t : Int))]) (rest := []) (g := m0 G) (v := vi (mS (m0 G) ((t : Int)))) hC hro hty (by decide +kernel) rfl rfl k_M_isState (by decide +kernel) (by decide +kernel) (by decide +kernel) (ct_M_isState X.la X.dd K (m0 G) N ((t : Int)) (by unfold inI; omega) hmm.m0) rfl rfl (by decide) (by first | decide | simp [Value.category]) ?_
    refine g_top (y := 1) (by rw [mS_m0]; exact mS_ok hmm ht) ?_
    refine a_if_ne (pc := 19) (off := 5) hC 24 (by decide +kernel) (by decide) (by unfold inI; omega) (fun c19 => ?_) (fun c19 => ?_)
    · skip
      refine a_aload_n (pc := 24) (q := 0) (i := 0) (x := 50) hC (by decide +kernel) rfl 0 rfl ?_
      refine a_iload_n (pc := 25) (q := 1) (i := 1) (x := (s : Int)) hC (by decide +kernel) rfl 1 rfl ?_
      refine a_iload_n (pc := 26) (q := 2) (i := 2) (x := (a : Int)) hC (by decide +kernel) rfl 2 rfl ?_
      refine a_iload_n (pc := 27) (q := 3) (i := 3) (x := (t : Int)) hC (by decide +kernel) rfl 3 rfl ?_
      refine g_callV (pc := 28) (idx := 83) (i := 50) (av := [vi ((s : Int)), vi ((a : Int)), vi ((t : Int))]) (rest := []) (g := m0 G) (v := vi ((m0 G) 54 (wIx s a t))) hC hro hty (by decide +kernel) rfl rfl k_M_weightOf (by decide +kernel) (by decide +kernel) (by decide +kernel) (ct_M_weightOf X.la X.dd K (m0 G) s a t (by omega) (by omega) (by omega)) rfl rfl (by decide) (by first | decide | simp [Value.category]) ?_
      refine g_top (y := G 54 (wIx s a t)) (by rw [m0_n (by decide)]) ?_
      refine a_istore (pc := 31) (q := 0) (i := 5) (lv' := [(5, vi (G 54 (wIx s a t))), (0, .ref 50), (1, vi ((s : Int))), (2, vi ((a : Int))), (3, vi ((t : Int))), (4, vi x)]) hC (by decide +kernel) (by decide) rfl ?_
      refine a_iload (pc := 33) (i := 4) (x := x) hC (by decide +kernel) 5 rfl ?_
      refine a_i2l (pc := 35) hC (by decide +kernel) (by unfold inI; omega) ?_
      refine a_lconst (pc := 36) (c := 0) (z := 0) hC (by decide +kernel) rfl ?_
      refine a_ldc2 (pc := 37) (idx := 95) (z := 6) (v := 6) hC (by decide +kernel) (by decide +kernel) rfl ?_
      refine g_callS (pc := 40) (idx := 75) (av := [vl x, vl 0, vl 6]) (rest := []) (g := m0 G) (v := vi (inZ x 0 6)) hC hro hty (by decide +kernel) k_M_in (by decide +kernel) (by decide +kernel) (ct_M_in X.la X.dd K (m0 G) x 0 6 (by unfold inL; omega) (by unfold inL; omega) (by unfold inL; omega)) rfl rfl (by decide) (by first | decide | simp [Value.category]) ?_
      refine a_if_eq (pc := 43) (off := 20) hC 63 (by decide +kernel) (by decide) (by unfold inI; omega) (fun c43 => ?_) (fun c43 => ?_)
      · skip
        refine a_bipush (pc := 63) (c := -2) hC (by decide +kernel) (by decide +kernel) ?_
        exact g_iret (pc := 65) hC hE (by decide +kernel) rfl rfl
      · skip
        have hx6 : 0 ≤ x ∧ x ≤ 6 := by unfold inZ at c43; split at c43 <;> omega
        refine a_aload_n (pc := 46) (q := 0) (i := 0) (x := 50) hC (by decide +kernel) rfl 1 rfl ?_
        refine a_iload_n (pc := 47) (q := 1) (i := 1) (x := (s : Int)) hC (by decide +kernel) rfl 2 rfl ?_
        refine a_iload_n (pc := 48) (q := 2) (i := 2) (x := (a : Int)) hC (by decide +kernel) rfl 3 rfl ?_
        refine g_callV (pc := 49) (idx := 97) (i := 50) (av := [vi ((s : Int)), vi ((a : Int))]) (rest := []) (g := m0 G) (v := vi (totZ (m0 G) s a 5)) hC hro hty (by decide +kernel) rfl rfl k_M_total (by decide +kernel) (by decide +kernel) (by decide +kernel) (ct_M_total X.la X.dd K (m0 G) s a (by omega) (by omega)) rfl rfl (by decide) (by first | decide | simp [Value.category]) ?_
        refine g_top (y := totZ G s a 5) (totZ_congr (m0_n (by decide)) _ _ _) ?_
        refine a_iload (pc := 52) (i := 5) (x := G 54 (wIx s a t)) hC (by decide +kernel) 0 rfl ?_
        refine a_isub (pc := 54) hC (by decide +kernel) ?_
        refine a_iload (pc := 55) (i := 4) (x := x) hC (by decide +kernel) 5 rfl ?_
        refine a_iadd (pc := 57) hC (by decide +kernel) ?_
        refine a_bipush (pc := 58) (c := 6) hC (by decide +kernel) (by decide +kernel) ?_
        refine a_icmp_le (pc := 60) (off := 6) hC 66 (by decide +kernel) (by decide) (by unfold inI; omega) (by unfold inI; omega) (fun c60 => ?_) (fun c60 => ?_)
        · skip
          exact absurd hbad (by unfold inZ at c43; split at c43 <;> omega)
        · skip
          refine a_bipush (pc := 63) (c := -2) hC (by decide +kernel) (by decide +kernel) ?_
          exact g_iret (pc := 65) hC hE (by decide +kernel) rfl rfl
    · skip
      exact absurd c19 (by decide)

set_option maxRecDepth 100000 in
set_option maxHeartbeats 4000000 in
theorem ct_M_weight (l : Launch) (D : va_G) (K : K5) (G : GT) (N s a t : Nat) (x : Int) (hs : s < N) (ha : (a : Int) < G 52 s) (ht : t < N) (hxi : inI x) (hmm : MM G N) (hok : 0 ≤ x ∧ x ≤ 6 ∧ totZ G s a 5 - G 54 (wIx s a t) + x ≤ 6) : Ct l D K y_M_weight c_M_weight 6 (some .int) 3 68 [.ref 50, vi ((s : Int)), vi ((a : Int)), vi ((t : Int)), vi x] G (some (vi (G 54 (wIx s a t)))) (uG (m0 G) 54 (up (G 54) (wIx s a t) x)) := by
  refine Ct.intro (by decide +kernel) (Nat.le_of_ble_eq_true rfl) ?_
  intro X hro hty hC hE
  obtain ⟨hn, hN5, hsh, hac, hpa, hwe, hth, hch⟩ := id hmm
  have ha3 := hac s (by omega)
  have ha2 : a < 3 := by omega
  unfold inI at hxi
  have hwt := hwe (wIx s a t) (by unfold wIx; omega)
  have htt := totZ_in hmm (by omega : s < 5) ha2 5 (by omega)
  have h06 := inZ_01 x 0 6
  refine a_aload_n (pc := 0) (q := 0) (i := 0) (x := 50) hC (by decide +kernel) rfl 0 rfl ?_
  refine a_iconst (pc := 1) (c := 0) hC (by decide +kernel) ?_
  refine g_put (pc := 2) (idx := 62) (ci := 6) (x := 0) hC 50 0 (by decide +kernel) rfl rfl (congrArg (fun z => vi z) (up_s _ _ _)) rfl wrM (by decide) rfl (by decide +kernel) rfl (ok_int _) ?_
  refine g_G (G' := m0 G) rfl ?_
  refine a_aload_n (pc := 5) (q := 0) (i := 0) (x := 50) hC (by decide +kernel) rfl 0 rfl ?_
  refine a_iload_n (pc := 6) (q := 1) (i := 1) (x := (s : Int)) hC (by decide +kernel) rfl 1 rfl ?_
  refine a_iload_n (pc := 7) (q := 2) (i := 2) (x := (a : Int)) hC (by decide +kernel) rfl 2 rfl ?_
  refine g_callV (pc := 8) (idx := 91) (i := 50) (av := [vi ((s : Int)), vi ((a : Int))]) (rest := []) (g := m0 G) (v := vi (mA (m0 G) ((s : Int)) ((a : Int)))) hC hro hty (by decide +kernel) rfl rfl k_M_isAct (by decide +kernel) (by decide +kernel) (by decide +kernel) (ct_M_isAct X.la X.dd K (m0 G) N ((s : Int)) ((a : Int)) (by unfold inI; omega) (by unfold inI; omega) hmm.m0) rfl rfl (by decide) (by first | decide | simp [Value.category]) ?_
  refine g_top (y := 1) (by rw [mA_m0]; exact mA_ok hmm hs ha) ?_
  refine a_if_eq (pc := 11) (off := 11) hC 22 (by decide +kernel) (by decide) (by unfold inI; omega) (fun c11 => ?_) (fun c11 => ?_)
  · skip
    exact absurd c11 (by decide)
  · skip
    refine a_aload_n (pc := 14) (q := 0) (i := 0) (x := 50) hC (by decide +kernel) rfl 0 rfl ?_
    refine a_iload_n (pc := 15) (q := 3) (i := 3) (x := (t : Int)) hC (by decide +kernel) rfl 3 rfl ?_
    refine g_callV (pc := 16) (idx := 79) (i := 50) (av := [vi ((t : Int))]) (rest := []) (g := m0 G) (v := vi (mS (m0 G) ((t : Int)))) hC hro hty (by decide +kernel) rfl rfl k_M_isState (by decide +kernel) (by decide +kernel) (by decide +kernel) (ct_M_isState X.la X.dd K (m0 G) N ((t : Int)) (by unfold inI; omega) hmm.m0) rfl rfl (by decide) (by first | decide | simp [Value.category]) ?_
    refine g_top (y := 1) (by rw [mS_m0]; exact mS_ok hmm ht) ?_
    refine a_if_ne (pc := 19) (off := 5) hC 24 (by decide +kernel) (by decide) (by unfold inI; omega) (fun c19 => ?_) (fun c19 => ?_)
    · skip
      refine a_aload_n (pc := 24) (q := 0) (i := 0) (x := 50) hC (by decide +kernel) rfl 0 rfl ?_
      refine a_iload_n (pc := 25) (q := 1) (i := 1) (x := (s : Int)) hC (by decide +kernel) rfl 1 rfl ?_
      refine a_iload_n (pc := 26) (q := 2) (i := 2) (x := (a : Int)) hC (by decide +kernel) rfl 2 rfl ?_
      refine a_iload_n (pc := 27) (q := 3) (i := 3) (x := (t : Int)) hC (by decide +kernel) rfl 3 rfl ?_
      refine g_callV (pc := 28) (idx := 83) (i := 50) (av := [vi ((s : Int)), vi ((a : Int)), vi ((t : Int))]) (rest := []) (g := m0 G) (v := vi ((m0 G) 54 (wIx s a t))) hC hro hty (by decide +kernel) rfl rfl k_M_weightOf (by decide +kernel) (by decide +kernel) (by decide +kernel) (ct_M_weightOf X.la X.dd K (m0 G) s a t (by omega) (by omega) (by omega)) rfl rfl (by decide) (by first | decide | simp [Value.category]) ?_
      refine g_top (y := G 54 (wIx s a t)) (by rw [m0_n (by decide)]) ?_
      refine a_istore (pc := 31) (q := 0) (i := 5) (lv' := [(5, vi (G 54 (wIx s a t))), (0, .ref 50), (1, vi ((s : Int))), (2, vi ((a : Int))), (3, vi ((t : Int))), (4, vi x)]) hC (by decide +kernel) (by decide) rfl ?_
      refine a_iload (pc := 33) (i := 4) (x := x) hC (by decide +kernel) 5 rfl ?_
      refine a_i2l (pc := 35) hC (by decide +kernel) (by unfold inI; omega) ?_
      refine a_lconst (pc := 36) (c := 0) (z := 0) hC (by decide +kernel) rfl ?_
      refine a_ldc2 (pc := 37) (idx := 95) (z := 6) (v := 6) hC (by decide +kernel) (by decide +kernel) rfl ?_
      refine g_callS (pc := 40) (idx := 75) (av := [vl x, vl 0, vl 6]) (rest := []) (g := m0 G) (v := vi (inZ x 0 6)) hC hro hty (by decide +kernel) k_M_in (by decide +kernel) (by decide +kernel) (ct_M_in X.la X.dd K (m0 G) x 0 6 (by unfold inL; omega) (by unfold inL; omega) (by unfold inL; omega)) rfl rfl (by decide) (by first | decide | simp [Value.category]) ?_
      refine a_if_eq (pc := 43) (off := 20) hC 63 (by decide +kernel) (by decide) (by unfold inI; omega) (fun c43 => ?_) (fun c43 => ?_)
      · skip
        exact absurd c43 (by unfold inZ; rw [if_pos (by omega)]; decide)
      · skip
        refine a_aload_n (pc := 46) (q := 0) (i := 0) (x := 50) hC (by decide +kernel) rfl 1 rfl ?_
        refine a_iload_n (pc := 47) (q := 1) (i := 1) (x := (s : Int)) hC (by decide +kernel) rfl 2 rfl ?_
        refine a_iload_n (pc := 48) (q := 2) (i := 2) (x := (a : Int)) hC (by decide +kernel) rfl 3 rfl ?_
        refine g_callV (pc := 49) (idx := 97) (i := 50) (av := [vi ((s : Int)), vi ((a : Int))]) (rest := []) (g := m0 G) (v := vi (totZ (m0 G) s a 5)) hC hro hty (by decide +kernel) rfl rfl k_M_total (by decide +kernel) (by decide +kernel) (by decide +kernel) (ct_M_total X.la X.dd K (m0 G) s a (by omega) (by omega)) rfl rfl (by decide) (by first | decide | simp [Value.category]) ?_
        refine g_top (y := totZ G s a 5) (totZ_congr (m0_n (by decide)) _ _ _) ?_
        refine a_iload (pc := 52) (i := 5) (x := G 54 (wIx s a t)) hC (by decide +kernel) 0 rfl ?_
        refine a_isub (pc := 54) hC (by decide +kernel) ?_
        refine a_iload (pc := 55) (i := 4) (x := x) hC (by decide +kernel) 5 rfl ?_
        refine a_iadd (pc := 57) hC (by decide +kernel) ?_
        refine a_bipush (pc := 58) (c := 6) hC (by decide +kernel) (by decide +kernel) ?_
        refine a_icmp_le (pc := 60) (off := 6) hC 66 (by decide +kernel) (by decide) (by unfold inI; omega) (by unfold inI; omega) (fun c60 => ?_) (fun c60 => ?_)
        · skip
          refine a_aload_n (pc := 66) (q := 0) (i := 0) (x := 50) hC (by decide +kernel) rfl 1 rfl ?_
          refine g_get (pc := 67) (idx := 20) (ci := 6) (v := .ref 54) hC 50 5 (by decide +kernel) rfl rfl rfl rfl wrM (by decide) rfl (by decide +kernel) ?_
          refine a_bipush (pc := 70) (c := 15) hC (by decide +kernel) (by decide +kernel) ?_
          refine a_iload_n (pc := 72) (q := 1) (i := 1) (x := (s : Int)) hC (by decide +kernel) rfl 2 rfl ?_
          refine a_imul (pc := 73) hC (by decide +kernel) ?_
          refine a_iconst (pc := 74) (c := 5) hC (by decide +kernel) ?_
          refine a_iload_n (pc := 75) (q := 2) (i := 2) (x := (a : Int)) hC (by decide +kernel) rfl 3 rfl ?_
          refine a_imul (pc := 76) hC (by decide +kernel) ?_
          refine a_iadd (pc := 77) hC (by decide +kernel) ?_
          refine a_iload_n (pc := 78) (q := 3) (i := 3) (x := (t : Int)) hC (by decide +kernel) rfl 4 rfl ?_
          refine a_iadd (pc := 79) hC (by decide +kernel) ?_
          refine a_iload (pc := 80) (i := 4) (x := x) hC (by decide +kernel) 5 rfl ?_
          refine g_snd (y := ((wIx s a t : Nat) : Int)) (by unfold wIx; omega) ?_
          refine g_iast (pc := 82) (a := 54) (j := wIx s a t) (x := x) hC hty (by decide +kernel) rfl (by unfold wIx; omega) (by first | decide | omega) ?_
          refine a_iload (pc := 83) (i := 5) (x := G 54 (wIx s a t)) hC (by decide +kernel) 0 rfl ?_
          exact g_iret (pc := 85) hC hE (by decide +kernel) rfl (by rw [m0_n (a := 54) (by decide)])
        · skip
          exact absurd c60 (by omega)
    · skip
      exact absurd c19 (by decide)

set_option maxRecDepth 100000 in
set_option maxHeartbeats 4000000 in
theorem ct_M_toldPlan (l : Launch) (D : va_G) (K : K5) (G : GT) (N : Nat) (s a : Int) (hsi : inI s) (hmm : MM G N) : Ct l D K y_M_toldPlan c_M_toldPlan 6 (some .int) 0 0 [.ref 50, vi s, vi a] G (some (vi ((tpS G s a N).1))) G := by
  refine Ct.intro (by decide +kernel) (Nat.le_of_ble_eq_true rfl) ?_
  intro X hro hty hC hE
  obtain ⟨hn, hN5, hsh, hac, hpa, hwe, hth, hch⟩ := id hmm
  refine a_iconst (pc := 0) (c := 0) hC (by decide +kernel) ?_
  refine a_istore_n (pc := 1) (q := 3) (i := 3) (lv' := [(3, vi 0), (0, .ref 50), (1, vi s), (2, vi a)]) hC (by decide +kernel) rfl (by decide) rfl ?_
  refine a_iconst (pc := 2) (c := 1) hC (by decide +kernel) ?_
  refine a_istore (pc := 3) (q := 0) (i := 4) (lv' := [(4, vi 1), (3, vi 0), (0, .ref 50), (1, vi s), (2, vi a)]) hC (by decide +kernel) (by decide) rfl ?_
  refine a_iconst (pc := 5) (c := 0) hC (by decide +kernel) ?_
  refine a_istore (pc := 6) (q := 0) (i := 5) (lv' := [(5, vi 0), (4, vi 1), (3, vi 0), (0, .ref 50), (1, vi s), (2, vi a)]) hC (by decide +kernel) (by decide) rfl ?_
  have L8 : ∀ (fuel : Nat) (t : Nat), N - t < fuel → t ≤ N → AW X 6 0 0 8 [(5, vi ((t : Int))), (4, vi ((tpS G s a t).2)), (3, vi ((tpS G s a t).1)), (0, .ref 50), (1, vi s), (2, vi a)] [] (hp K G) := by
    intro fuel
    induction fuel with
    | zero => intro t h; exact absurd h (Nat.not_lt_zero _)
    | succ fuel ih8 =>
      intro t hm ht
      refine a_iload (pc := 8) (i := 5) (x := (t : Int)) hC (by decide +kernel) 0 rfl ?_
      refine a_aload_n (pc := 10) (q := 0) (i := 0) (x := 50) hC (by decide +kernel) rfl 3 rfl ?_
      refine g_get (pc := 11) (idx := 72) (ci := 6) (v := vi (G 50 1)) hC 50 1 (by decide +kernel) rfl rfl rfl rfl wrM (by decide) rfl (by decide +kernel) ?_
      refine a_icmp_ge (pc := 14) (off := 54) hC 68 (by decide +kernel) (by decide) (by unfold inI; omega) (by unfold inI; omega) (fun c14 => ?_) (fun c14 => ?_)
      · skip
        refine a_iload_n (pc := 68) (q := 3) (i := 3) (x := (tpS G s a t).1) hC (by decide +kernel) rfl 2 rfl ?_
        exact g_iret (pc := 69) hC hE (by decide +kernel) (by rw [show t = N by omega]) rfl
      · skip
        have h3 := hac t (by omega)
        refine a_aload_n (pc := 17) (q := 0) (i := 0) (x := 50) hC (by decide +kernel) rfl 3 rfl ?_
        refine g_get (pc := 18) (idx := 13) (ci := 6) (v := .ref 52) hC 50 3 (by decide +kernel) rfl rfl rfl rfl wrM (by decide) rfl (by decide +kernel) ?_
        refine a_iload (pc := 21) (i := 5) (x := (t : Int)) hC (by decide +kernel) 0 rfl ?_
        refine g_iald (pc := 23) (a := 52) (j := t) hC hty (by decide +kernel) rfl (by omega) (by first | decide | omega) ?_
        refine a_if_le (pc := 24) (off := 38) hC 62 (by decide +kernel) (by decide) (by unfold inI; omega) (fun c24 => ?_) (fun c24 => ?_)
        · skip
          have hst : tpS G s a (t + 1) = tpS G s a t := by show (if _ then _ else _) = _; rw [if_neg (by omega)]
          refine a_iinc (pc := 62) (i := 5) (c := 1) (x := (t : Int)) (lv' := [(5, vi (((t : Int)) + 1)), (4, vi ((tpS G s a t).2)), (3, vi ((tpS G s a t).1)), (0, .ref 50), (1, vi s), (2, vi a)]) hC (by decide +kernel) 0 rfl (by decide) rfl ?_
          refine a_goto (pc := 65) (off := -57) hC 8 (by decide +kernel) (by decide) ?_
          refine a_sub (lv' := [(5, vi (((t + 1) : Int))), (4, vi ((tpS G s a (t + 1)).2)), (3, vi ((tpS G s a (t + 1)).1)), (0, .ref 50), (1, vi s), (2, vi a)]) [0, 1, 2, 3, 4, 5] (by rw [hst]; rfl) ?_
          exact ih8 (t + 1) (by omega) (by omega)
        · skip
          refine a_iload_n (pc := 27) (q := 3) (i := 3) (x := (tpS G s a t).1) hC (by decide +kernel) rfl 2 rfl ?_
          refine a_iload (pc := 28) (i := 4) (x := (tpS G s a t).2) hC (by decide +kernel) 1 rfl ?_
          refine a_iload (pc := 30) (i := 5) (x := (t : Int)) hC (by decide +kernel) 0 rfl ?_
          refine a_iload_n (pc := 32) (q := 1) (i := 1) (x := s) hC (by decide +kernel) rfl 4 rfl ?_
          refine a_icmp_ne (pc := 33) (off := 7) hC 40 (by decide +kernel) (by decide) (by unfold inI; omega) hsi (fun c33 => ?_) (fun c33 => ?_)
          · skip
            have hst : tpS G s a (t + 1) = ((tpS G s a t).1 + (tpS G s a t).2 * (G 55 t), (tpS G s a t).2 * (G 52 t)) := by show (if _ then _ else _) = _; rw [if_pos (by omega), if_neg (by omega)]
            refine a_aload_n (pc := 40) (q := 0) (i := 0) (x := 50) hC (by decide +kernel) rfl 3 rfl ?_
            refine g_get (pc := 41) (idx := 23) (ci := 6) (v := .ref 55) hC 50 6 (by decide +kernel) rfl rfl rfl rfl wrM (by decide) rfl (by decide +kernel) ?_
            refine a_iload (pc := 44) (i := 5) (x := (t : Int)) hC (by decide +kernel) 0 rfl ?_
            refine g_iald (pc := 46) (a := 55) (j := t) hC hty (by decide +kernel) rfl (by omega) (by first | decide | omega) ?_
            refine a_imul (pc := 47) hC (by decide +kernel) ?_
            refine a_iadd (pc := 48) hC (by decide +kernel) ?_
            refine a_istore_n (pc := 49) (q := 3) (i := 3) (lv' := [(3, vi (((tpS G s a t).1) + (((tpS G s a t).2) * (G 55 t)))), (5, vi ((t : Int))), (4, vi ((tpS G s a t).2)), (0, .ref 50), (1, vi s), (2, vi a)]) hC (by decide +kernel) rfl (by decide) rfl ?_
            refine a_iload (pc := 50) (i := 4) (x := (tpS G s a t).2) hC (by decide +kernel) 2 rfl ?_
            refine a_aload_n (pc := 52) (q := 0) (i := 0) (x := 50) hC (by decide +kernel) rfl 3 rfl ?_
            refine g_get (pc := 53) (idx := 13) (ci := 6) (v := .ref 52) hC 50 3 (by decide +kernel) rfl rfl rfl rfl wrM (by decide) rfl (by decide +kernel) ?_
            refine a_iload (pc := 56) (i := 5) (x := (t : Int)) hC (by decide +kernel) 1 rfl ?_
            refine g_iald (pc := 58) (a := 52) (j := t) hC hty (by decide +kernel) rfl (by omega) (by first | decide | omega) ?_
            refine a_imul (pc := 59) hC (by decide +kernel) ?_
            refine a_istore (pc := 60) (q := 0) (i := 4) (lv' := [(4, vi (((tpS G s a t).2) * (G 52 t))), (3, vi (((tpS G s a t).1) + (((tpS G s a t).2) * (G 55 t)))), (5, vi ((t : Int))), (0, .ref 50), (1, vi s), (2, vi a)]) hC (by decide +kernel) (by decide) rfl ?_
            refine a_iinc (pc := 62) (i := 5) (c := 1) (x := (t : Int)) (lv' := [(5, vi (((t : Int)) + 1)), (4, vi (((tpS G s a t).2) * (G 52 t))), (3, vi (((tpS G s a t).1) + (((tpS G s a t).2) * (G 55 t)))), (0, .ref 50), (1, vi s), (2, vi a)]) hC (by decide +kernel) 2 rfl (by decide) rfl ?_
            refine a_goto (pc := 65) (off := -57) hC 8 (by decide +kernel) (by decide) ?_
            refine a_sub (lv' := [(5, vi (((t + 1) : Int))), (4, vi ((tpS G s a (t + 1)).2)), (3, vi ((tpS G s a (t + 1)).1)), (0, .ref 50), (1, vi s), (2, vi a)]) [0, 1, 2, 3, 4, 5] (by rw [hst]; rfl) ?_
            exact ih8 (t + 1) (by omega) (by omega)
          · skip
            have hst : tpS G s a (t + 1) = ((tpS G s a t).1 + (tpS G s a t).2 * a, (tpS G s a t).2 * (G 52 t)) := by show (if _ then _ else _) = _; rw [if_pos (by omega), if_pos (by omega)]
            refine a_iload_n (pc := 36) (q := 2) (i := 2) (x := a) hC (by decide +kernel) rfl 5 rfl ?_
            refine a_goto (pc := 37) (off := 10) hC 47 (by decide +kernel) (by decide) ?_
            refine a_imul (pc := 47) hC (by decide +kernel) ?_
            refine a_iadd (pc := 48) hC (by decide +kernel) ?_
            refine a_istore_n (pc := 49) (q := 3) (i := 3) (lv' := [(3, vi (((tpS G s a t).1) + (((tpS G s a t).2) * a))), (5, vi ((t : Int))), (4, vi ((tpS G s a t).2)), (0, .ref 50), (1, vi s), (2, vi a)]) hC (by decide +kernel) rfl (by decide) rfl ?_
            refine a_iload (pc := 50) (i := 4) (x := (tpS G s a t).2) hC (by decide +kernel) 2 rfl ?_
            refine a_aload_n (pc := 52) (q := 0) (i := 0) (x := 50) hC (by decide +kernel) rfl 3 rfl ?_
            refine g_get (pc := 53) (idx := 13) (ci := 6) (v := .ref 52) hC 50 3 (by decide +kernel) rfl rfl rfl rfl wrM (by decide) rfl (by decide +kernel) ?_
            refine a_iload (pc := 56) (i := 5) (x := (t : Int)) hC (by decide +kernel) 1 rfl ?_
            refine g_iald (pc := 58) (a := 52) (j := t) hC hty (by decide +kernel) rfl (by omega) (by first | decide | omega) ?_
            refine a_imul (pc := 59) hC (by decide +kernel) ?_
            refine a_istore (pc := 60) (q := 0) (i := 4) (lv' := [(4, vi (((tpS G s a t).2) * (G 52 t))), (3, vi (((tpS G s a t).1) + (((tpS G s a t).2) * a))), (5, vi ((t : Int))), (0, .ref 50), (1, vi s), (2, vi a)]) hC (by decide +kernel) (by decide) rfl ?_
            refine a_iinc (pc := 62) (i := 5) (c := 1) (x := (t : Int)) (lv' := [(5, vi (((t : Int)) + 1)), (4, vi (((tpS G s a t).2) * (G 52 t))), (3, vi (((tpS G s a t).1) + (((tpS G s a t).2) * a))), (0, .ref 50), (1, vi s), (2, vi a)]) hC (by decide +kernel) 2 rfl (by decide) rfl ?_
            refine a_goto (pc := 65) (off := -57) hC 8 (by decide +kernel) (by decide) ?_
            refine a_sub (lv' := [(5, vi (((t + 1) : Int))), (4, vi ((tpS G s a (t + 1)).2)), (3, vi ((tpS G s a (t + 1)).1)), (0, .ref 50), (1, vi s), (2, vi a)]) [0, 1, 2, 3, 4, 5] (by rw [hst]; rfl) ?_
            exact ih8 (t + 1) (by omega) (by omega)
  refine a_sub (lv' := [(5, vi ((0 : Int))), (4, vi ((tpS G s a 0).2)), (3, vi ((tpS G s a 0).1)), (0, .ref 50), (1, vi s), (2, vi a)]) [0, 1, 2, 3, 4, 5] rfl ?_
  exact L8 _ 0 (Nat.lt_succ_self _) (by omega)

set_option maxRecDepth 100000 in
set_option maxHeartbeats 4000000 in
theorem ct_M_all (l : Launch) (D : va_G) (K : K5) (G : GT) (N : Nat) (pl : Int) (hpl : -1 ≤ pl ∧ pl ≤ 4) (hN5 : N ≤ 5) (hn : G 50 1 = (N : Int)) : Ct l D K y_M_all c_M_all 8 (some .long) 1 22 [.ref 50, vi pl] G (some (vl (allZ G pl N))) (alG G pl N) := by
  refine Ct.intro (by decide +kernel) (Nat.le_of_ble_eq_true rfl) ?_
  intro X hro hty hC hE
  refine a_iconst (pc := 0) (c := 0) hC (by decide +kernel) ?_
  refine a_istore_n (pc := 1) (q := 2) (i := 2) (lv' := [(2, vi 0), (0, .ref 50), (1, vi pl)]) hC (by decide +kernel) rfl (by decide) rfl ?_
  have L2 : ∀ (fuel : Nat) (j : Nat), 32 - j < fuel → j ≤ 32 → AW X 8 0 0 2 [(2, vi ((j : Int))), (0, .ref 50), (1, vi pl)] [] (hp K (uG G 58 (iniF (G 58) j))) := by
    intro fuel
    induction fuel with
    | zero => intro j h; exact absurd h (Nat.not_lt_zero _)
    | succ fuel ih2 =>
      intro j hm hj
      refine a_iload_n (pc := 2) (q := 2) (i := 2) (x := (j : Int)) hC (by decide +kernel) rfl 0 rfl ?_
      refine a_bipush (pc := 3) (c := 32) hC (by decide +kernel) (by decide +kernel) ?_
      refine a_icmp_ge (pc := 5) (off := 24) hC 29 (by decide +kernel) (by decide) (by unfold inI; omega) (by unfold inI; omega) (fun c5 => ?_) (fun c5 => ?_)
      · skip
        have hpN := pw_in (k := N) (by omega)
        have hp1 := pw_1 N
        refine a_iconst (pc := 29) (c := 1) hC (by decide +kernel) ?_
        refine a_aload_n (pc := 30) (q := 0) (i := 0) (x := 50) hC (by decide +kernel) rfl 1 rfl ?_
        refine g_get (pc := 31) (idx := 72) (ci := 6) (v := vi ((uG G 58 (iniF (G 58) j)) 50 1)) hC 50 1 (by decide +kernel) rfl rfl rfl rfl wrM (by decide) rfl (by decide +kernel) ?_
        refine g_top (y := (N : Int)) (by rw [uG_n _ _ (by decide)]; exact hn) ?_
        refine a_ishl (pc := 34) (z := ((pw N : Nat) : Int)) hC (by decide +kernel) (iZ_shl (by omega)) ?_
        refine a_iconst (pc := 35) (c := 1) hC (by decide +kernel) ?_
        refine a_isub (pc := 36) hC (by decide +kernel) ?_
        refine g_top (y := ((pw N - 1 : Nat) : Int)) (by omega) ?_
        refine a_istore_n (pc := 37) (q := 2) (i := 2) (lv' := [(2, vi (((pw N - 1 : Nat) : Int))), (0, .ref 50), (1, vi pl)]) hC (by decide +kernel) rfl (by decide) rfl ?_
        refine a_iconst (pc := 38) (c := 0) hC (by decide +kernel) ?_
        refine a_istore_n (pc := 39) (q := 3) (i := 3) (lv' := [(3, vi 0), (2, vi (((pw N - 1 : Nat) : Int))), (0, .ref 50), (1, vi pl)]) hC (by decide +kernel) rfl (by decide) rfl ?_
        have L40 : ∀ (fuel : Nat) (m : Nat), pw N - 1 - m < fuel → m ≤ pw N - 1 → AW X 8 0 0 40 [(3, vi ((m : Int))), (2, vi (((pw N - 1 : Nat) : Int))), (0, .ref 50), (1, vi pl)] [] (hp K (uG G 58 (aS G pl N m))) := by
          intro fuel
          induction fuel with
          | zero => intro m h; exact absurd h (Nat.not_lt_zero _)
          | succ fuel ih40 =>
            intro m hm hm
            refine a_iload_n (pc := 40) (q := 3) (i := 3) (x := (m : Int)) hC (by decide +kernel) rfl 0 rfl ?_
            refine a_iload_n (pc := 41) (q := 2) (i := 2) (x := ((pw N - 1 : Nat) : Int)) hC (by decide +kernel) rfl 1 rfl ?_
            refine a_icmp_ge (pc := 42) (off := 114) hC 156 (by decide +kernel) (by decide) (by unfold inI; omega) (by unfold inI; omega) (fun c42 => ?_) (fun c42 => ?_)
            · skip
              refine a_aload_n (pc := 156) (q := 0) (i := 0) (x := 50) hC (by decide +kernel) rfl 2 rfl ?_
              refine g_get (pc := 157) (idx := 44) (ci := 6) (v := .ref 58) hC 50 13 (by decide +kernel) rfl rfl rfl rfl wrM (by decide) rfl (by decide +kernel) ?_
              refine a_iload_n (pc := 160) (q := 2) (i := 2) (x := ((pw N - 1 : Nat) : Int)) hC (by decide +kernel) rfl 1 rfl ?_
              refine g_lald (pc := 161) (a := 58) (j := pw N - 1) hC hty (by decide +kernel) rfl (by omega) (by first | decide | omega) ?_
              exact g_lret (pc := 162) hC hE (by decide +kernel) (by rw [uG_s, show m = pw N - 1 by omega]; rfl) (by rw [show m = pw N - 1 by omega]; rfl)
            · skip
              have hmn := mnS_in m 5
              refine a_iload_n (pc := 45) (q := 3) (i := 3) (x := (m : Int)) hC (by decide +kernel) rfl 0 rfl ?_
              obtain ⟨r, hr, hr5⟩ : ∃ r : Nat, mnS m 5 = (r : Int) ∧ r ≤ 5 := ⟨(mnS m 5).toNat, by omega, by omega⟩
              have hrn : (mnS m 5).toNat = r := by omega
              refine g_callS (pc := 46) (idx := 101) (av := [vi ((m : Int))]) (rest := []) (g := uG G 58 (aS G pl N m)) (v := vi (mnS m 5)) hC hro hty (by decide +kernel) k_M_many (by decide +kernel) (by decide +kernel) (ct_M_many X.la X.dd K (uG G 58 (aS G pl N m)) m (by omega)) rfl rfl (by decide) (by first | decide | simp [Value.category]) ?_
              refine g_top (y := (r : Int)) hr ?_
              refine a_istore (pc := 49) (q := 0) (i := 4) (lv' := [(4, vi ((r : Int))), (3, vi ((m : Int))), (2, vi (((pw N - 1 : Nat) : Int))), (0, .ref 50), (1, vi pl)]) hC (by decide +kernel) (by decide) rfl ?_
              refine a_iconst (pc := 51) (c := 0) hC (by decide +kernel) ?_
              refine a_istore (pc := 52) (q := 0) (i := 5) (lv' := [(5, vi 0), (4, vi ((r : Int))), (3, vi ((m : Int))), (2, vi (((pw N - 1 : Nat) : Int))), (0, .ref 50), (1, vi pl)]) hC (by decide +kernel) (by decide) rfl ?_
              have L54 : ∀ (fuel : Nat) (t : Nat), N - t < fuel → t ≤ N → AW X 8 0 0 54 [(5, vi ((t : Int))), (4, vi ((r : Int))), (3, vi ((m : Int))), (2, vi (((pw N - 1 : Nat) : Int))), (0, .ref 50), (1, vi pl)] [] (hp K (uG G 58 (aT G pl m (aS G pl N m) t))) := by
                intro fuel
                induction fuel with
                | zero => intro t h; exact absurd h (Nat.not_lt_zero _)
                | succ fuel ih54 =>
                  intro t hm ht
                  refine a_iload (pc := 54) (i := 5) (x := (t : Int)) hC (by decide +kernel) 0 rfl ?_
                  refine a_aload_n (pc := 56) (q := 0) (i := 0) (x := 50) hC (by decide +kernel) rfl 4 rfl ?_
                  refine g_get (pc := 57) (idx := 72) (ci := 6) (v := vi ((uG G 58 (aT G pl m (aS G pl N m) t)) 50 1)) hC 50 1 (by decide +kernel) rfl rfl rfl rfl wrM (by decide) rfl (by decide +kernel) ?_
                  refine g_top (y := (N : Int)) (by rw [uG_n _ _ (by decide)]; exact hn) ?_
                  refine a_icmp_ge (pc := 60) (off := 90) hC 150 (by decide +kernel) (by decide) (by unfold inI; omega) (by unfold inI; omega) (fun c60 => ?_) (fun c60 => ?_)
                  · skip
                    refine a_iinc (pc := 150) (i := 3) (c := 1) (x := (m : Int)) (lv' := [(3, vi (((m : Int)) + 1)), (5, vi ((t : Int))), (4, vi ((r : Int))), (2, vi (((pw N - 1 : Nat) : Int))), (0, .ref 50), (1, vi pl)]) hC (by decide +kernel) 2 rfl (by decide) rfl ?_
                    refine a_goto (pc := 153) (off := -113) hC 40 (by decide +kernel) (by decide) ?_
                    refine a_sub (lv' := [(3, vi (((m + 1) : Int))), (2, vi (((pw N - 1 : Nat) : Int))), (0, .ref 50), (1, vi pl)]) [0, 3, 4, 5] rfl ?_
                    refine g_G (G' := uG G 58 (aS G pl N (m + 1))) (by rw [show t = N by omega]; rfl) ?_
                    exact ih40 (m + 1) (by omega) (by omega)
                  · skip
                    have hpt := pw_in (k := t) (by omega)
                    have hb2 := bt2_in m t
                    have hsl := sr_lt (m := m) (k := t) (by omega)
                    refine a_iload_n (pc := 63) (q := 3) (i := 3) (x := (m : Int)) hC (by decide +kernel) rfl 2 rfl ?_
                    refine a_iload (pc := 64) (i := 5) (x := (t : Int)) hC (by decide +kernel) 0 rfl ?_
                    refine a_ishr (pc := 66) (z := ((sr m t : Nat) : Int)) hC (by decide +kernel) (shr5 m (by omega) t (by omega)) ?_
                    refine a_iconst (pc := 67) (c := 1) hC (by decide +kernel) ?_
                    refine a_iand (pc := 68) (z := ((bt2 m t : Nat) : Int)) hC (by decide +kernel) (and1 _ hsl) ?_
                    refine a_if_ne (pc := 69) (off := 75) hC 144 (by decide +kernel) (by decide) (by unfold inI; omega) (fun c69 => ?_) (fun c69 => ?_)
                    · skip
                      have hst : (aT G pl m (aS G pl N m) t) = aT G pl m (aS G pl N m) (t + 1) := by show _ = (if _ then _ else _); rw [if_neg (by omega)]
                      refine a_iinc (pc := 144) (i := 5) (c := 1) (x := (t : Int)) (lv' := [(5, vi (((t : Int)) + 1)), (4, vi ((r : Int))), (3, vi ((m : Int))), (2, vi (((pw N - 1 : Nat) : Int))), (0, .ref 50), (1, vi pl)]) hC (by decide +kernel) 0 rfl (by decide) rfl ?_
                      refine a_goto (pc := 147) (off := -93) hC 54 (by decide +kernel) (by decide) ?_
                      refine a_sub (lv' := [(5, vi (((t + 1) : Int))), (4, vi ((r : Int))), (3, vi ((m : Int))), (2, vi (((pw N - 1 : Nat) : Int))), (0, .ref 50), (1, vi pl)]) [0, 1, 2, 3, 4, 5] rfl ?_
                      refine g_G (G' := uG G 58 (aT G pl m (aS G pl N m) (t + 1))) (by first | (rw [← hst]; done) | (rw [← hst, uG_s, uG_uG, ← hsg])) ?_
                      exact ih54 (t + 1) (by omega) (by omega)
                    · skip
                      have hb0 : bt2 m t = 0 := by omega
                      have hr4 : mnS m 5 ≤ 4 := mn4 m (by omega) t (by omega) hb0
                      have hor := orN_lt (m := m) (t := t) (by omega) (by omega)
                      have hst : up (aT G pl m (aS G pl N m) t) (orN m t) (((aT G pl m (aS G pl N m) t) (orN m t)) + (sgZ m t (((aT G pl m (aS G pl N m) t) m) * (alX G pl m t)))) = aT G pl m (aS G pl N m) (t + 1) := by show _ = (if _ then _ else _); rw [if_pos hb0]
                      have hms := mnS_in (sr m t) 5
                      refine a_aload_n (pc := 72) (q := 0) (i := 0) (x := 50) hC (by decide +kernel) rfl 4 rfl ?_
                      refine g_get (pc := 73) (idx := 44) (ci := 6) (v := .ref 58) hC 50 13 (by decide +kernel) rfl rfl rfl rfl wrM (by decide) rfl (by decide +kernel) ?_
                      refine a_iload_n (pc := 76) (q := 3) (i := 3) (x := (m : Int)) hC (by decide +kernel) rfl 2 rfl ?_
                      refine g_lald (pc := 77) (a := 58) (j := m) hC hty (by decide +kernel) rfl (by omega) (by first | decide | omega) ?_
                      refine g_topl (y := (aT G pl m (aS G pl N m) t) m) (by rw [uG_s]) ?_
                      refine a_iload (pc := 78) (i := 5) (x := (t : Int)) hC (by decide +kernel) 0 rfl ?_
                      refine a_iload_n (pc := 80) (q := 1) (i := 1) (x := pl) hC (by decide +kernel) rfl 5 rfl ?_
                      refine a_icmp_ne (pc := 81) (off := 13) hC 94 (by decide +kernel) (by decide) (by unfold inI; omega) (by unfold inI; omega) (fun c81 => ?_) (fun c81 => ?_)
                      · skip
                        refine a_aload_n (pc := 94) (q := 0) (i := 0) (x := 50) hC (by decide +kernel) rfl 4 rfl ?_
                        refine g_get (pc := 95) (idx := 37) (ci := 6) (v := .ref 56) hC 50 11 (by decide +kernel) rfl rfl rfl rfl wrM (by decide) rfl (by decide +kernel) ?_
                        refine a_iconst (pc := 98) (c := 5) hC (by decide +kernel) ?_
                        refine a_iload (pc := 99) (i := 4) (x := (r : Int)) hC (by decide +kernel) 1 rfl ?_
                        refine a_imul (pc := 101) hC (by decide +kernel) ?_
                        refine a_iload (pc := 102) (i := 5) (x := (t : Int)) hC (by decide +kernel) 0 rfl ?_
                        refine a_iadd (pc := 104) hC (by decide +kernel) ?_
                        refine g_top (y := ((5 * r + t : Nat) : Int)) (by omega) ?_
                        refine g_lald (pc := 105) (a := 56) (j := 5 * r + t) hC hty (by decide +kernel) rfl (by omega) (by first | decide | omega) ?_
                        refine g_topl (y := alX G pl m t) (by unfold alX; rw [if_neg (by omega), hrn, uG_n _ _ (by decide)]) ?_
                        refine a_lmul (pc := 106) hC (by decide +kernel) ?_
                        refine a_lstore (pc := 107) (q := 0) (i := 6) (lv' := [(6, vl (((aT G pl m (aS G pl N m) t) m) * (alX G pl m t))), (5, vi ((t : Int))), (4, vi ((r : Int))), (3, vi ((m : Int))), (2, vi (((pw N - 1 : Nat) : Int))), (0, .ref 50), (1, vi pl)]) hC (by decide +kernel) (by decide) rfl ?_
                        refine a_aload_n (pc := 109) (q := 0) (i := 0) (x := 50) hC (by decide +kernel) rfl 5 rfl ?_
                        refine g_get (pc := 110) (idx := 44) (ci := 6) (v := .ref 58) hC 50 13 (by decide +kernel) rfl rfl rfl rfl wrM (by decide) rfl (by decide +kernel) ?_
                        refine a_iload_n (pc := 113) (q := 3) (i := 3) (x := (m : Int)) hC (by decide +kernel) rfl 3 rfl ?_
                        refine a_iconst (pc := 114) (c := 1) hC (by decide +kernel) ?_
                        refine a_iload (pc := 115) (i := 5) (x := (t : Int)) hC (by decide +kernel) 1 rfl ?_
                        refine a_ishl (pc := 117) (z := ((pw t : Nat) : Int)) hC (by decide +kernel) (iZ_shl (by omega)) ?_
                        refine a_ior (pc := 118) (z := ((orN m t : Nat) : Int)) hC (by decide +kernel) or_nat ?_
                        refine a_dup2 (pc := 119) hC (by decide +kernel) rfl rfl ?_
                        refine g_lald (pc := 120) (a := 58) (j := orN m t) hC hty (by decide +kernel) rfl (by omega) (by first | decide | omega) ?_
                        refine g_topl (y := (aT G pl m (aS G pl N m) t) (orN m t)) (by rw [uG_s]) ?_
                        refine a_iload_n (pc := 121) (q := 3) (i := 3) (x := (m : Int)) hC (by decide +kernel) rfl 3 rfl ?_
                        refine a_iload (pc := 122) (i := 5) (x := (t : Int)) hC (by decide +kernel) 1 rfl ?_
                        refine a_ishr (pc := 124) (z := ((sr m t : Nat) : Int)) hC (by decide +kernel) (shr5 m (by omega) t (by omega)) ?_
                        refine g_callS (pc := 125) (idx := 101) (av := [vi (((sr m t : Nat) : Int))]) (rest := [vl ((aT G pl m (aS G pl N m) t) (orN m t)), vi (((orN m t : Nat) : Int)), .ref 58]) (g := uG G 58 (aT G pl m (aS G pl N m) t)) (v := vi (mnS (sr m t) 5)) hC hro hty (by decide +kernel) k_M_many (by decide +kernel) (by decide +kernel) (ct_M_many X.la X.dd K (uG G 58 (aT G pl m (aS G pl N m) t)) (sr m t) (by omega)) rfl rfl (by decide) (by first | decide | simp [Value.category]) ?_
                        refine a_iconst (pc := 128) (c := 2) hC (by decide +kernel) ?_
                        refine a_irem (pc := 129) hC (by decide +kernel) (by unfold inI; omega) (by unfold inI; omega) (by omega) ?_
                        refine a_iconst (pc := 130) (c := 1) hC (by decide +kernel) ?_
                        have htm2 := tmod_in (a := mnS (sr m t) 5) (b := 2) hms.1 (by decide) (by decide)
                        refine a_icmp_ne (pc := 131) (off := 9) hC 140 (by decide +kernel) (by decide) (by unfold inI; omega) (by unfold inI; omega) (fun c131 => ?_) (fun c131 => ?_)
                        · skip
                          have hsg : ((aT G pl m (aS G pl N m) t) m) * (alX G pl m t) = sgZ m t (((aT G pl m (aS G pl N m) t) m) * (alX G pl m t)) := by unfold sgZ; rw [if_neg c131]
                          refine a_lload (pc := 140) (i := 6) (x := ((aT G pl m (aS G pl N m) t) m) * (alX G pl m t)) hC (by decide +kernel) 0 rfl ?_
                          refine a_ladd (pc := 142) hC (by decide +kernel) ?_
                          refine g_last (pc := 143) (a := 58) (j := orN m t) (x := ((aT G pl m (aS G pl N m) t) (orN m t)) + (((aT G pl m (aS G pl N m) t) m) * (alX G pl m t))) hC hty (by decide +kernel) rfl (by omega) (by first | decide | omega) ?_
                          refine a_iinc (pc := 144) (i := 5) (c := 1) (x := (t : Int)) (lv' := [(5, vi (((t : Int)) + 1)), (6, vl (((aT G pl m (aS G pl N m) t) m) * (alX G pl m t))), (4, vi ((r : Int))), (3, vi ((m : Int))), (2, vi (((pw N - 1 : Nat) : Int))), (0, .ref 50), (1, vi pl)]) hC (by decide +kernel) 1 rfl (by decide) rfl ?_
                          refine a_goto (pc := 147) (off := -93) hC 54 (by decide +kernel) (by decide) ?_
                          refine a_sub (lv' := [(5, vi (((t + 1) : Int))), (4, vi ((r : Int))), (3, vi ((m : Int))), (2, vi (((pw N - 1 : Nat) : Int))), (0, .ref 50), (1, vi pl)]) [0, 2, 3, 4, 5, 6] rfl ?_
                          refine g_G (G' := uG G 58 (aT G pl m (aS G pl N m) (t + 1))) (by first | (rw [← hst]; done) | (rw [← hst, uG_s, uG_uG, ← hsg])) ?_
                          exact ih54 (t + 1) (by omega) (by omega)
                        · skip
                          have hsg : -(((aT G pl m (aS G pl N m) t) m) * (alX G pl m t)) = sgZ m t (((aT G pl m (aS G pl N m) t) m) * (alX G pl m t)) := by unfold sgZ; rw [if_pos c131]
                          refine a_lload (pc := 134) (i := 6) (x := ((aT G pl m (aS G pl N m) t) m) * (alX G pl m t)) hC (by decide +kernel) 0 rfl ?_
                          refine a_lneg (pc := 136) hC (by decide +kernel) ?_
                          refine a_goto (pc := 137) (off := 5) hC 142 (by decide +kernel) (by decide) ?_
                          refine a_ladd (pc := 142) hC (by decide +kernel) ?_
                          refine g_last (pc := 143) (a := 58) (j := orN m t) (x := ((aT G pl m (aS G pl N m) t) (orN m t)) + (-(((aT G pl m (aS G pl N m) t) m) * (alX G pl m t)))) hC hty (by decide +kernel) rfl (by omega) (by first | decide | omega) ?_
                          refine a_iinc (pc := 144) (i := 5) (c := 1) (x := (t : Int)) (lv' := [(5, vi (((t : Int)) + 1)), (6, vl (((aT G pl m (aS G pl N m) t) m) * (alX G pl m t))), (4, vi ((r : Int))), (3, vi ((m : Int))), (2, vi (((pw N - 1 : Nat) : Int))), (0, .ref 50), (1, vi pl)]) hC (by decide +kernel) 1 rfl (by decide) rfl ?_
                          refine a_goto (pc := 147) (off := -93) hC 54 (by decide +kernel) (by decide) ?_
                          refine a_sub (lv' := [(5, vi (((t + 1) : Int))), (4, vi ((r : Int))), (3, vi ((m : Int))), (2, vi (((pw N - 1 : Nat) : Int))), (0, .ref 50), (1, vi pl)]) [0, 2, 3, 4, 5, 6] rfl ?_
                          refine g_G (G' := uG G 58 (aT G pl m (aS G pl N m) (t + 1))) (by first | (rw [← hst]; done) | (rw [← hst, uG_s, uG_uG, ← hsg])) ?_
                          exact ih54 (t + 1) (by omega) (by omega)
                      · skip
                        refine a_aload_n (pc := 84) (q := 0) (i := 0) (x := 50) hC (by decide +kernel) rfl 4 rfl ?_
                        refine g_get (pc := 85) (idx := 41) (ci := 6) (v := .ref 57) hC 50 12 (by decide +kernel) rfl rfl rfl rfl wrM (by decide) rfl (by decide +kernel) ?_
                        refine a_iload (pc := 88) (i := 4) (x := (r : Int)) hC (by decide +kernel) 1 rfl ?_
                        refine g_lald (pc := 90) (a := 57) (j := r) hC hty (by decide +kernel) rfl (by omega) (by first | decide | omega) ?_
                        refine g_topl (y := alX G pl m t) (by unfold alX; rw [if_pos (by omega), hrn, uG_n _ _ (by decide)]) ?_
                        refine a_goto (pc := 91) (off := 15) hC 106 (by decide +kernel) (by decide) ?_
                        refine a_lmul (pc := 106) hC (by decide +kernel) ?_
                        refine a_lstore (pc := 107) (q := 0) (i := 6) (lv' := [(6, vl (((aT G pl m (aS G pl N m) t) m) * (alX G pl m t))), (5, vi ((t : Int))), (4, vi ((r : Int))), (3, vi ((m : Int))), (2, vi (((pw N - 1 : Nat) : Int))), (0, .ref 50), (1, vi pl)]) hC (by decide +kernel) (by decide) rfl ?_
                        refine a_aload_n (pc := 109) (q := 0) (i := 0) (x := 50) hC (by decide +kernel) rfl 5 rfl ?_
                        refine g_get (pc := 110) (idx := 44) (ci := 6) (v := .ref 58) hC 50 13 (by decide +kernel) rfl rfl rfl rfl wrM (by decide) rfl (by decide +kernel) ?_
                        refine a_iload_n (pc := 113) (q := 3) (i := 3) (x := (m : Int)) hC (by decide +kernel) rfl 3 rfl ?_
                        refine a_iconst (pc := 114) (c := 1) hC (by decide +kernel) ?_
                        refine a_iload (pc := 115) (i := 5) (x := (t : Int)) hC (by decide +kernel) 1 rfl ?_
                        refine a_ishl (pc := 117) (z := ((pw t : Nat) : Int)) hC (by decide +kernel) (iZ_shl (by omega)) ?_
                        refine a_ior (pc := 118) (z := ((orN m t : Nat) : Int)) hC (by decide +kernel) or_nat ?_
                        refine a_dup2 (pc := 119) hC (by decide +kernel) rfl rfl ?_
                        refine g_lald (pc := 120) (a := 58) (j := orN m t) hC hty (by decide +kernel) rfl (by omega) (by first | decide | omega) ?_
                        refine g_topl (y := (aT G pl m (aS G pl N m) t) (orN m t)) (by rw [uG_s]) ?_
                        refine a_iload_n (pc := 121) (q := 3) (i := 3) (x := (m : Int)) hC (by decide +kernel) rfl 3 rfl ?_
                        refine a_iload (pc := 122) (i := 5) (x := (t : Int)) hC (by decide +kernel) 1 rfl ?_
                        refine a_ishr (pc := 124) (z := ((sr m t : Nat) : Int)) hC (by decide +kernel) (shr5 m (by omega) t (by omega)) ?_
                        refine g_callS (pc := 125) (idx := 101) (av := [vi (((sr m t : Nat) : Int))]) (rest := [vl ((aT G pl m (aS G pl N m) t) (orN m t)), vi (((orN m t : Nat) : Int)), .ref 58]) (g := uG G 58 (aT G pl m (aS G pl N m) t)) (v := vi (mnS (sr m t) 5)) hC hro hty (by decide +kernel) k_M_many (by decide +kernel) (by decide +kernel) (ct_M_many X.la X.dd K (uG G 58 (aT G pl m (aS G pl N m) t)) (sr m t) (by omega)) rfl rfl (by decide) (by first | decide | simp [Value.category]) ?_
                        refine a_iconst (pc := 128) (c := 2) hC (by decide +kernel) ?_
                        refine a_irem (pc := 129) hC (by decide +kernel) (by unfold inI; omega) (by unfold inI; omega) (by omega) ?_
                        refine a_iconst (pc := 130) (c := 1) hC (by decide +kernel) ?_
                        have htm2 := tmod_in (a := mnS (sr m t) 5) (b := 2) hms.1 (by decide) (by decide)
                        refine a_icmp_ne (pc := 131) (off := 9) hC 140 (by decide +kernel) (by decide) (by unfold inI; omega) (by unfold inI; omega) (fun c131 => ?_) (fun c131 => ?_)
                        · skip
                          have hsg : ((aT G pl m (aS G pl N m) t) m) * (alX G pl m t) = sgZ m t (((aT G pl m (aS G pl N m) t) m) * (alX G pl m t)) := by unfold sgZ; rw [if_neg c131]
                          refine a_lload (pc := 140) (i := 6) (x := ((aT G pl m (aS G pl N m) t) m) * (alX G pl m t)) hC (by decide +kernel) 0 rfl ?_
                          refine a_ladd (pc := 142) hC (by decide +kernel) ?_
                          refine g_last (pc := 143) (a := 58) (j := orN m t) (x := ((aT G pl m (aS G pl N m) t) (orN m t)) + (((aT G pl m (aS G pl N m) t) m) * (alX G pl m t))) hC hty (by decide +kernel) rfl (by omega) (by first | decide | omega) ?_
                          refine a_iinc (pc := 144) (i := 5) (c := 1) (x := (t : Int)) (lv' := [(5, vi (((t : Int)) + 1)), (6, vl (((aT G pl m (aS G pl N m) t) m) * (alX G pl m t))), (4, vi ((r : Int))), (3, vi ((m : Int))), (2, vi (((pw N - 1 : Nat) : Int))), (0, .ref 50), (1, vi pl)]) hC (by decide +kernel) 1 rfl (by decide) rfl ?_
                          refine a_goto (pc := 147) (off := -93) hC 54 (by decide +kernel) (by decide) ?_
                          refine a_sub (lv' := [(5, vi (((t + 1) : Int))), (4, vi ((r : Int))), (3, vi ((m : Int))), (2, vi (((pw N - 1 : Nat) : Int))), (0, .ref 50), (1, vi pl)]) [0, 2, 3, 4, 5, 6] rfl ?_
                          refine g_G (G' := uG G 58 (aT G pl m (aS G pl N m) (t + 1))) (by first | (rw [← hst]; done) | (rw [← hst, uG_s, uG_uG, ← hsg])) ?_
                          exact ih54 (t + 1) (by omega) (by omega)
                        · skip
                          have hsg : -(((aT G pl m (aS G pl N m) t) m) * (alX G pl m t)) = sgZ m t (((aT G pl m (aS G pl N m) t) m) * (alX G pl m t)) := by unfold sgZ; rw [if_pos c131]
                          refine a_lload (pc := 134) (i := 6) (x := ((aT G pl m (aS G pl N m) t) m) * (alX G pl m t)) hC (by decide +kernel) 0 rfl ?_
                          refine a_lneg (pc := 136) hC (by decide +kernel) ?_
                          refine a_goto (pc := 137) (off := 5) hC 142 (by decide +kernel) (by decide) ?_
                          refine a_ladd (pc := 142) hC (by decide +kernel) ?_
                          refine g_last (pc := 143) (a := 58) (j := orN m t) (x := ((aT G pl m (aS G pl N m) t) (orN m t)) + (-(((aT G pl m (aS G pl N m) t) m) * (alX G pl m t)))) hC hty (by decide +kernel) rfl (by omega) (by first | decide | omega) ?_
                          refine a_iinc (pc := 144) (i := 5) (c := 1) (x := (t : Int)) (lv' := [(5, vi (((t : Int)) + 1)), (6, vl (((aT G pl m (aS G pl N m) t) m) * (alX G pl m t))), (4, vi ((r : Int))), (3, vi ((m : Int))), (2, vi (((pw N - 1 : Nat) : Int))), (0, .ref 50), (1, vi pl)]) hC (by decide +kernel) 1 rfl (by decide) rfl ?_
                          refine a_goto (pc := 147) (off := -93) hC 54 (by decide +kernel) (by decide) ?_
                          refine a_sub (lv' := [(5, vi (((t + 1) : Int))), (4, vi ((r : Int))), (3, vi ((m : Int))), (2, vi (((pw N - 1 : Nat) : Int))), (0, .ref 50), (1, vi pl)]) [0, 2, 3, 4, 5, 6] rfl ?_
                          refine g_G (G' := uG G 58 (aT G pl m (aS G pl N m) (t + 1))) (by first | (rw [← hst]; done) | (rw [← hst, uG_s, uG_uG, ← hsg])) ?_
                          exact ih54 (t + 1) (by omega) (by omega)
              refine a_sub (lv' := [(5, vi ((0 : Int))), (4, vi ((r : Int))), (3, vi ((m : Int))), (2, vi (((pw N - 1 : Nat) : Int))), (0, .ref 50), (1, vi pl)]) [0, 1, 2, 3, 4, 5] rfl ?_
              refine g_G (G' := uG G 58 (aT G pl m (aS G pl N m) 0)) rfl ?_
              exact L54 _ 0 (Nat.lt_succ_self _) (by omega)
        refine a_sub (lv' := [(3, vi ((0 : Int))), (2, vi (((pw N - 1 : Nat) : Int))), (0, .ref 50), (1, vi pl)]) [0, 1, 2, 3] rfl ?_
        refine g_G (G' := uG G 58 (aS G pl N 0)) (by rw [show j = 32 by omega]; rfl) ?_
        exact L40 _ 0 (Nat.lt_succ_self _) (by omega)
      · skip
        refine a_aload_n (pc := 8) (q := 0) (i := 0) (x := 50) hC (by decide +kernel) rfl 1 rfl ?_
        refine g_get (pc := 9) (idx := 44) (ci := 6) (v := .ref 58) hC 50 13 (by decide +kernel) rfl rfl rfl rfl wrM (by decide) rfl (by decide +kernel) ?_
        refine a_iload_n (pc := 12) (q := 2) (i := 2) (x := (j : Int)) hC (by decide +kernel) rfl 0 rfl ?_
        refine a_iload_n (pc := 13) (q := 2) (i := 2) (x := (j : Int)) hC (by decide +kernel) rfl 0 rfl ?_
        refine a_if_ne (pc := 14) (off := 7) hC 21 (by decide +kernel) (by decide) (by unfold inI; omega) (fun c14 => ?_) (fun c14 => ?_)
        · skip
          have hx : (0 : Int) = if j = 0 then 1 else 0 := by rw [if_neg (by omega)]
          refine a_lconst (pc := 21) (c := 0) (z := 0) hC (by decide +kernel) rfl ?_
          refine g_last (pc := 22) (a := 58) (j := j) (x := 0) hC hty (by decide +kernel) rfl (by omega) (by first | decide | omega) ?_
          refine a_iinc (pc := 23) (i := 2) (c := 1) (x := (j : Int)) (lv' := [(2, vi (((j : Int)) + 1)), (0, .ref 50), (1, vi pl)]) hC (by decide +kernel) 0 rfl (by decide) rfl ?_
          refine a_goto (pc := 26) (off := -24) hC 2 (by decide +kernel) (by decide) ?_
          refine a_sub (lv' := [(2, vi (((j + 1) : Int))), (0, .ref 50), (1, vi pl)]) [0, 1, 2] rfl ?_
          refine g_G (G' := uG G 58 (iniF (G 58) (j + 1))) (by rw [uG_s, uG_uG, iniF_s _ _ _ hx]) ?_
          exact ih2 (j + 1) (by omega) (by omega)
        · skip
          have hx : (1 : Int) = if j = 0 then 1 else 0 := by rw [if_pos (by omega)]
          refine a_lconst (pc := 17) (c := 1) (z := 1) hC (by decide +kernel) rfl ?_
          refine a_goto (pc := 18) (off := 4) hC 22 (by decide +kernel) (by decide) ?_
          refine g_last (pc := 22) (a := 58) (j := j) (x := 1) hC hty (by decide +kernel) rfl (by omega) (by first | decide | omega) ?_
          refine a_iinc (pc := 23) (i := 2) (c := 1) (x := (j : Int)) (lv' := [(2, vi (((j : Int)) + 1)), (0, .ref 50), (1, vi pl)]) hC (by decide +kernel) 0 rfl (by decide) rfl ?_
          refine a_goto (pc := 26) (off := -24) hC 2 (by decide +kernel) (by decide) ?_
          refine a_sub (lv' := [(2, vi (((j + 1) : Int))), (0, .ref 50), (1, vi pl)]) [0, 1, 2] rfl ?_
          refine g_G (G' := uG G 58 (iniF (G 58) (j + 1))) (by rw [uG_s, uG_uG, iniF_s _ _ _ hx]) ?_
          exact ih2 (j + 1) (by omega) (by omega)
  refine a_sub (lv' := [(2, vi ((0 : Int))), (0, .ref 50), (1, vi pl)]) [0, 1, 2] rfl ?_
  refine g_G (G' := uG G 58 (iniF (G 58) 0)) (by rw [iniF_0, uG_self]) ?_
  exact L2 _ 0 (Nat.lt_succ_self _) (by omega)
