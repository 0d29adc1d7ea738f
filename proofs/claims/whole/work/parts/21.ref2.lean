/-! the reference: what is told, the plans' numbers, determinants -/
theorem totZ_congr {G G' : GT} (h : G' 54 = G 54) (s a : Nat) : ∀ t, totZ G' s a t = totZ G s a t
  | 0 => rfl
  | t + 1 => by unfold totZ; rw [totZ_congr h s a t, h]
theorem mS_m0 (G : GT) (s : Int) : mS (m0 G) s = mS G s := by unfold mS; rw [m0_k (by decide)]
theorem mA_m0 (G : GT) (s a : Int) : mA (m0 G) s a = mA G s a := by unfold mA; rw [mS_m0, m0_n (by decide)]
theorem mS_01 (G : GT) (s : Int) : mS G s = 0 ∨ mS G s = 1 := inZ_01 _ _ _
theorem mA_01 (G : GT) (s a : Int) : mA G s a = 0 ∨ mA G s a = 1 := by unfold mA; split <;> omega
theorem mS_ok {G : GT} {N s : Nat} (h : MM G N) (hs : s < N) : mS G (s : Int) = 1 := by unfold mS inZ; rw [if_pos (by have := h.1; omega)]
theorem mA_ok {G : GT} {N s a : Nat} (h : MM G N) (hs : s < N) (ha : (a : Int) < G 52 s) : mA G (s : Int) (a : Int) = 1 := by
  unfold mA; rw [if_pos ⟨mS_ok h hs, by unfold inZ; rw [if_pos (by rw [Int.toNat_natCast]; omega)]⟩]
def clW (f : Nat → Int) (s a t : Nat) : Nat → Int := fun j => if wIx s a 0 ≤ j ∧ j < wIx s a t then 0 else f j
theorem clW_0 (f : Nat → Int) (s a : Nat) : clW f s a 0 = f := by funext j; exact if_neg (by omega)
theorem clW_s (f : Nat → Int) (s a t : Nat) : up (clW f s a t) (wIx s a t) 0 = clW f s a (t + 1) := by
  funext j; unfold up clW
  have e1 : wIx s a t = wIx s a 0 + t := by unfold wIx; omega
  have e2 : wIx s a (t + 1) = wIx s a 0 + t + 1 := by unfold wIx; omega
  by_cases h : j = wIx s a t
  · rw [if_pos h, if_pos (by omega)]
  · rw [if_neg h]
    by_cases h2 : wIx s a 0 ≤ j ∧ j < wIx s a t
    · rw [if_pos h2, if_pos (by omega)]
    · rw [if_neg h2, if_neg (by omega)]
def macG (G : GT) (s A : Nat) (p : Int) : GT := uG (uG (uG (m0 G) 53 (up (G 53) (3 * s + A) p)) 54 (clW (G 54) s A 5)) 52 (up (G 52) s ((A : Int) + 1))
def fxF (f : Nat → Int) (s t : Nat) : Nat → Int := fun j => if 5 * s ≤ j ∧ j < 5 * s + t then (if j = 5 * s + s then 1 else 0) else f j
theorem fxF_0 (f : Nat → Int) (s : Nat) : fxF f s 0 = f := by funext j; exact if_neg (by omega)
theorem fxF_s (f : Nat → Int) (s t : Nat) (x : Int) (hx : x = if t = s then 1 else 0) : up (fxF f s t) (5 * s + t) x = fxF f s (t + 1) := by
  funext j; unfold up fxF
  by_cases h : j = 5 * s + t
  · rw [if_pos h, if_pos (show 5 * s ≤ j ∧ j < 5 * s + (t + 1) by omega), hx]
    by_cases e : t = s
    · rw [if_pos e, if_pos (by omega)]
    · rw [if_neg e, if_neg (by omega)]
  · rw [if_neg h]
    have e : (5 * s ≤ j ∧ j < 5 * s + (t + 1)) ↔ (5 * s ≤ j ∧ j < 5 * s + t) := by omega
    simp only [e]
theorem uG_same {G : GT} {a : Nat} {f : Nat → Int} (h : G a = f) : uG G a f = G := by rw [← h, uG_self]
def fixG (G : GT) (N s : Nat) (v : Int) : GT := uG (uG G 56 (fxF (G 56) s N)) 57 (up (G 57) s v)
def byZ (G : GT) (s a : Nat) : Int := G 50 8 * totZ G s a 5
def lwX (G : GT) (s a t : Nat) : Int := (if t = s then byZ G s a else 0) - G 50 7 * G 54 (wIx s a t)
def lwF (G : GT) (s a t : Nat) : Nat → Int := fun j => if 5 * s ≤ j ∧ j < 5 * s + t then lwX G s a (j - 5 * s) else G 56 j
theorem lwF_0 (G : GT) (s a : Nat) : lwF G s a 0 = G 56 := by funext j; exact if_neg (by omega)
theorem lwF_s (G : GT) (s a t : Nat) : up (lwF G s a t) (5 * s + t) (lwX G s a t) = lwF G s a (t + 1) := by
  funext j; unfold up lwF
  by_cases h : j = 5 * s + t
  · rw [if_pos h, if_pos (by omega), show j - 5 * s = t by omega]
  · rw [if_neg h]
    by_cases h2 : 5 * s ≤ j ∧ j < 5 * s + t
    · rw [if_pos h2, if_pos (by omega)]
    · rw [if_neg h2, if_neg (by omega)]
def lwG (G : GT) (N s : Nat) (a : Int) : GT := if a = -1 then fixG G N s 0 else if totZ G s a.toNat 5 = 0 then fixG G N s (G 53 (3 * s + a.toNat)) else uG (uG G 56 (lwF G s a.toNat N)) 57 (up (G 57) s (byZ G s a.toNat * G 53 (3 * s + a.toNat)))
def aiS (G : GT) (p : Nat) : Nat → Int
  | 0 => (p : Int)
  | t + 1 => if G 52 t = 0 then aiS G p t else Int.tdiv (aiS G p t) (G 52 t)
theorem aiS_in {G : GT} {p : Nat} (h : ∀ s, s < 5 → 0 ≤ G 52 s ∧ G 52 s ≤ 3) : ∀ t, t ≤ 5 → 0 ≤ aiS G p t ∧ aiS G p t ≤ (p : Int)
  | 0, _ => by unfold aiS; omega
  | t + 1, ht => by
    have ih := aiS_in (p := p) h t (by omega)
    have h1 := h t (by omega)
    unfold aiS
    split
    · exact ih
    · next hne =>
      obtain ⟨x, hx⟩ : ∃ x : Nat, aiS G p t = (x : Int) := ⟨(aiS G p t).toNat, by omega⟩
      obtain ⟨y, hy⟩ : ∃ y : Nat, G 52 t = (y : Int) := ⟨(G 52 t).toNat, by omega⟩
      rw [hx, hy, show Int.tdiv (x : Int) (y : Int) = ((x / y : Nat) : Int) from rfl]
      have h8 := Nat.div_le_self x y
      generalize x / y = z at h8 ⊢
      omega
def actZ (G : GT) (p s : Nat) : Int := if G 52 s = 0 then -1 else Int.tmod (aiS G p s) (G 52 s)
theorem actZ_in {G : GT} {p s : Nat} (h : ∀ s, s < 5 → 0 ≤ G 52 s ∧ G 52 s ≤ 3) (hs : s < 5) : (G 52 s = 0 ∧ actZ G p s = -1) ∨ (0 ≤ actZ G p s ∧ actZ G p s < G 52 s) := by
  unfold actZ
  have h1 := h s hs
  have h2 := aiS_in (p := p) h s (by omega)
  split
  · next e => exact Or.inl ⟨e, rfl⟩
  · next e => exact Or.inr (tmod_in h2.1 h1.1 e)
def tpS (G : GT) (s a : Int) : Nat → Int × Int
  | 0 => (0, 1)
  | t + 1 => if 0 < G 52 t then ((tpS G s a t).1 + (tpS G s a t).2 * (if (t : Int) = s then a else G 55 t), (tpS G s a t).2 * G 52 t) else tpS G s a t

set_option maxRecDepth 100000 in
set_option maxHeartbeats 4000000 in
theorem ct_M_act_no (l : Launch) (D : va_G) (K : K5) (G : GT) (N : Nat) (s : Int) (p : Int) (hsi : inI s) (hmm : MM G N) (hno : mS G s = 0) : Ct l D K y_M_act c_M_act 5 (some .int) 2 46 [.ref 50, vi s, vi p] G (some (vi (-1))) (m0 G) := by
  refine Ct.intro (by decide +kernel) (Nat.le_of_ble_eq_true rfl) ?_
  intro X hro hty hC hE
  obtain ⟨hn, hN5, hsh, hac, hpa, hwe, hth, hch⟩ := id hmm
  refine a_aload_n (pc := 0) (q := 0) (i := 0) (x := 50) hC (by decide +kernel) rfl 0 rfl ?_
  refine a_iconst (pc := 1) (c := 0) hC (by decide +kernel) ?_
  refine g_put (pc := 2) (idx := 62) (ci := 6) (x := 0) hC 50 0 (by decide +kernel) rfl rfl (congrArg (fun z => vi z) (up_s _ _ _)) rfl wrM (by decide) rfl (by decide +kernel) rfl (ok_int _) ?_
  refine g_G (G' := m0 G) rfl ?_
  refine a_aload_n (pc := 5) (q := 0) (i := 0) (x := 50) hC (by decide +kernel) rfl 0 rfl ?_
  refine a_iload_n (pc := 6) (q := 1) (i := 1) (x := s) hC (by decide +kernel) rfl 1 rfl ?_
  refine g_callV (pc := 7) (idx := 79) (i := 50) (av := [vi s]) (rest := []) (g := m0 G) (v := vi (mS (m0 G) s)) hC hro hty (by decide +kernel) rfl rfl k_M_isState (by decide +kernel) (by decide +kernel) (by decide +kernel) (ct_M_isState X.la X.dd K (m0 G) N s hsi hmm.m0) rfl rfl (by decide) (by first | decide | simp [Value.category]) ?_
  refine g_top (y := mS G s) (mS_m0 _ _) ?_
  refine a_if_ne (pc := 10) (off := 5) hC 15 (by decide +kernel) (by decide) (by unfold inI; omega) (fun c10 => ?_) (fun c10 => ?_)
  · skip
    exact absurd hno c10
  · skip
    refine a_iconst (pc := 13) (c := -1) hC (by decide +kernel) ?_
    exact g_iret (pc := 14) hC hE (by decide +kernel) rfl rfl

set_option maxRecDepth 100000 in
set_option maxHeartbeats 4000000 in
theorem ct_M_act_pay (l : Launch) (D : va_G) (K : K5) (G : GT) (N s : Nat) (p : Int) (hs : s < N) (hpi : inI p) (hmm : MM G N) (hbad : inZ p (-50) 50 = 0) : Ct l D K y_M_act c_M_act 5 (some .int) 2 46 [.ref 50, vi ((s : Int)), vi p] G (some (vi (-2))) (m0 G) := by
  refine Ct.intro (by decide +kernel) (Nat.le_of_ble_eq_true rfl) ?_
  intro X hro hty hC hE
  obtain ⟨hn, hN5, hsh, hac, hpa, hwe, hth, hch⟩ := id hmm
  unfold inI at hpi
  refine a_aload_n (pc := 0) (q := 0) (i := 0) (x := 50) hC (by decide +kernel) rfl 0 rfl ?_
  refine a_iconst (pc := 1) (c := 0) hC (by decide +kernel) ?_
  refine g_put (pc := 2) (idx := 62) (ci := 6) (x := 0) hC 50 0 (by decide +kernel) rfl rfl (congrArg (fun z => vi z) (up_s _ _ _)) rfl wrM (by decide) rfl (by decide +kernel) rfl (ok_int _) ?_
  refine g_G (G' := m0 G) rfl ?_
  refine a_aload_n (pc := 5) (q := 0) (i := 0) (x := 50) hC (by decide +kernel) rfl 0 rfl ?_
  refine a_iload_n (pc := 6) (q := 1) (i := 1) (x := (s : Int)) hC (by decide +kernel) rfl 1 rfl ?_
  refine g_callV (pc := 7) (idx := 79) (i := 50) (av := [vi ((s : Int))]) (rest := []) (g := m0 G) (v := vi (mS (m0 G) ((s : Int)))) hC hro hty (by decide +kernel) rfl rfl k_M_isState (by decide +kernel) (by decide +kernel) (by decide +kernel) (ct_M_isState X.la X.dd K (m0 G) N ((s : Int)) (by unfold inI; omega) hmm.m0) rfl rfl (by decide) (by first | decide | simp [Value.category]) ?_
  refine g_top (y := 1) (by rw [mS_m0]; exact mS_ok hmm hs) ?_
  refine a_if_ne (pc := 10) (off := 5) hC 15 (by decide +kernel) (by decide) (by unfold inI; omega) (fun c10 => ?_) (fun c10 => ?_)
  · skip
    refine a_iload_n (pc := 15) (q := 2) (i := 2) (x := p) hC (by decide +kernel) rfl 2 rfl ?_
    refine a_i2l (pc := 16) hC (by decide +kernel) (by unfold inI; omega) ?_
    refine a_ldc2 (pc := 17) (idx := 87) (z := -50) (v := -50) hC (by decide +kernel) (by decide +kernel) rfl ?_
    refine a_ldc2 (pc := 20) (idx := 89) (z := 50) (v := 50) hC (by decide +kernel) (by decide +kernel) rfl ?_
    refine g_callS (pc := 23) (idx := 75) (av := [vl p, vl (-50), vl 50]) (rest := []) (g := m0 G) (v := vi (inZ p (-50) 50)) hC hro hty (by decide +kernel) k_M_in (by decide +kernel) (by decide +kernel) (ct_M_in X.la X.dd K (m0 G) p (-50) 50 (by unfold inL; omega) (by unfold inL; omega) (by unfold inL; omega)) rfl rfl (by decide) (by first | decide | simp [Value.category]) ?_
    refine a_if_ne (pc := 26) (off := 6) hC 32 (by decide +kernel) (by decide) (by unfold inI; have := inZ_01 p (-50) 50; omega) (fun c26 => ?_) (fun c26 => ?_)
    · skip
      exact absurd hbad c26
    · skip
      refine a_bipush (pc := 29) (c := -2) hC (by decide +kernel) (by decide +kernel) ?_
      exact g_iret (pc := 31) hC hE (by decide +kernel) rfl rfl
  · skip
    exact absurd c10 (by decide)

set_option maxRecDepth 100000 in
set_option maxHeartbeats 4000000 in
theorem ct_M_act_full (l : Launch) (D : va_G) (K : K5) (G : GT) (N s : Nat) (p : Int) (hs : s < N) (hpi : inI p) (hmm : MM G N) (hok : ¬ inZ p (-50) 50 = 0) (hfull : G 52 s = 3) : Ct l D K y_M_act c_M_act 5 (some .int) 2 46 [.ref 50, vi ((s : Int)), vi p] G (some (vi (-4))) (m0 G) := by
  refine Ct.intro (by decide +kernel) (Nat.le_of_ble_eq_true rfl) ?_
  intro X hro hty hC hE
  obtain ⟨hn, hN5, hsh, hac, hpa, hwe, hth, hch⟩ := id hmm
  unfold inI at hpi
  refine a_aload_n (pc := 0) (q := 0) (i := 0) (x := 50) hC (by decide +kernel) rfl 0 rfl ?_
  refine a_iconst (pc := 1) (c := 0) hC (by decide +kernel) ?_
  refine g_put (pc := 2) (idx := 62) (ci := 6) (x := 0) hC 50 0 (by decide +kernel) rfl rfl (congrArg (fun z => vi z) (up_s _ _ _)) rfl wrM (by decide) rfl (by decide +kernel) rfl (ok_int _) ?_
  refine g_G (G' := m0 G) rfl ?_
  refine a_aload_n (pc := 5) (q := 0) (i := 0) (x := 50) hC (by decide +kernel) rfl 0 rfl ?_
  refine a_iload_n (pc := 6) (q := 1) (i := 1) (x := (s : Int)) hC (by decide +kernel) rfl 1 rfl ?_
  refine g_callV (pc := 7) (idx := 79) (i := 50) (av := [vi ((s : Int))]) (rest := []) (g := m0 G) (v := vi (mS (m0 G) ((s : Int)))) hC hro hty (by decide +kernel) rfl rfl k_M_isState (by decide +kernel) (by decide +kernel) (by decide +kernel) (ct_M_isState X.la X.dd K (m0 G) N ((s : Int)) (by unfold inI; omega) hmm.m0) rfl rfl (by decide) (by first | decide | simp [Value.category]) ?_
  refine g_top (y := 1) (by rw [mS_m0]; exact mS_ok hmm hs) ?_
  refine a_if_ne (pc := 10) (off := 5) hC 15 (by decide +kernel) (by decide) (by unfold inI; omega) (fun c10 => ?_) (fun c10 => ?_)
  · skip
    refine a_iload_n (pc := 15) (q := 2) (i := 2) (x := p) hC (by decide +kernel) rfl 2 rfl ?_
    refine a_i2l (pc := 16) hC (by decide +kernel) (by unfold inI; omega) ?_
    refine a_ldc2 (pc := 17) (idx := 87) (z := -50) (v := -50) hC (by decide +kernel) (by decide +kernel) rfl ?_
    refine a_ldc2 (pc := 20) (idx := 89) (z := 50) (v := 50) hC (by decide +kernel) (by decide +kernel) rfl ?_
    refine g_callS (pc := 23) (idx := 75) (av := [vl p, vl (-50), vl 50]) (rest := []) (g := m0 G) (v := vi (inZ p (-50) 50)) hC hro hty (by decide +kernel) k_M_in (by decide +kernel) (by decide +kernel) (ct_M_in X.la X.dd K (m0 G) p (-50) 50 (by unfold inL; omega) (by unfold inL; omega) (by unfold inL; omega)) rfl rfl (by decide) (by first | decide | simp [Value.category]) ?_
    refine a_if_ne (pc := 26) (off := 6) hC 32 (by decide +kernel) (by decide) (by unfold inI; have := inZ_01 p (-50) 50; omega) (fun c26 => ?_) (fun c26 => ?_)
    · skip
      refine a_aload_n (pc := 32) (q := 0) (i := 0) (x := 50) hC (by decide +kernel) rfl 0 rfl ?_
      refine g_get (pc := 33) (idx := 13) (ci := 6) (v := .ref 52) hC 50 3 (by decide +kernel) rfl rfl rfl rfl wrM (by decide) rfl (by decide +kernel) ?_
      refine a_iload_n (pc := 36) (q := 1) (i := 1) (x := (s : Int)) hC (by decide +kernel) rfl 1 rfl ?_
      refine g_iald (pc := 37) (a := 52) (j := s) hC hty (by decide +kernel) rfl (by omega) (by first | decide | omega) ?_
      refine g_top (y := G 52 s) (by rw [m0_n (by decide)]) ?_
      refine a_iconst (pc := 38) (c := 3) hC (by decide +kernel) ?_
      refine a_icmp_ne (pc := 39) (off := 6) hC 45 (by decide +kernel) (by decide) (by unfold inI; omega) (by unfold inI; omega) (fun c39 => ?_) (fun c39 => ?_)
      · skip
        exact absurd hfull c39
      · skip
        refine a_bipush (pc := 42) (c := -4) hC (by decide +kernel) (by decide +kernel) ?_
        exact g_iret (pc := 44) hC hE (by decide +kernel) rfl rfl
    · skip
      exact absurd c26 hok
  · skip
    exact absurd c10 (by decide)

set_option maxRecDepth 100000 in
set_option maxHeartbeats 4000000 in
theorem ct_M_act (l : Launch) (D : va_G) (K : K5) (G : GT) (N s A : Nat) (p : Int) (hs : s < N) (hpi : inI p) (hmm : MM G N) (hok : ¬ inZ p (-50) 50 = 0) (hA : G 52 s = (A : Int)) (hA3 : A < 3) : Ct l D K y_M_act c_M_act 5 (some .int) 2 46 [.ref 50, vi ((s : Int)), vi p] G (some (vi ((A : Int)))) (macG G s A p) := by
  refine Ct.intro (by decide +kernel) (Nat.le_of_ble_eq_true rfl) ?_
  intro X hro hty hC hE
  obtain ⟨hn, hN5, hsh, hac, hpa, hwe, hth, hch⟩ := id hmm
  unfold inI at hpi
  refine a_aload_n (pc := 0) (q := 0) (i := 0) (x := 50) hC (by decide +kernel) rfl 0 rfl ?_
  refine a_iconst (pc := 1) (c := 0) hC (by decide +kernel) ?_
  refine g_put (pc := 2) (idx := 62) (ci := 6) (x := 0) hC 50 0 (by decide +kernel) rfl rfl (congrArg (fun z => vi z) (up_s _ _ _)) rfl wrM (by decide) rfl (by decide +kernel) rfl (ok_int _) ?_
  refine g_G (G' := m0 G) rfl ?_
  refine a_aload_n (pc := 5) (q := 0) (i := 0) (x := 50) hC (by decide +kernel) rfl 0 rfl ?_
  refine a_iload_n (pc := 6) (q := 1) (i := 1) (x := (s : Int)) hC (by decide +kernel) rfl 1 rfl ?_
  refine g_callV (pc := 7) (idx := 79) (i := 50) (av := [vi ((s : Int))]) (rest := []) (g := m0 G) (v := vi (mS (m0 G) ((s : Int)))) hC hro hty (by decide +kernel) rfl rfl k_M_isState (by decide +kernel) (by decide +kernel) (by decide +kernel) (ct_M_isState X.la X.dd K (m0 G) N ((s : Int)) (by unfold inI; omega) hmm.m0) rfl rfl (by decide) (by first | decide | simp [Value.category]) ?_
  refine g_top (y := 1) (by rw [mS_m0]; exact mS_ok hmm hs) ?_
  refine a_if_ne (pc := 10) (off := 5) hC 15 (by decide +kernel) (by decide) (by unfold inI; omega) (fun c10 => ?_) (fun c10 => ?_)
  · skip
    refine a_iload_n (pc := 15) (q := 2) (i := 2) (x := p) hC (by decide +kernel) rfl 2 rfl ?_
    refine a_i2l (pc := 16) hC (by decide +kernel) (by unfold inI; omega) ?_
    refine a_ldc2 (pc := 17) (idx := 87) (z := -50) (v := -50) hC (by decide +kernel) (by decide +kernel) rfl ?_
    refine a_ldc2 (pc := 20) (idx := 89) (z := 50) (v := 50) hC (by decide +kernel) (by decide +kernel) rfl ?_
    refine g_callS (pc := 23) (idx := 75) (av := [vl p, vl (-50), vl 50]) (rest := []) (g := m0 G) (v := vi (inZ p (-50) 50)) hC hro hty (by decide +kernel) k_M_in (by decide +kernel) (by decide +kernel) (ct_M_in X.la X.dd K (m0 G) p (-50) 50 (by unfold inL; omega) (by unfold inL; omega) (by unfold inL; omega)) rfl rfl (by decide) (by first | decide | simp [Value.category]) ?_
    refine a_if_ne (pc := 26) (off := 6) hC 32 (by decide +kernel) (by decide) (by unfold inI; have := inZ_01 p (-50) 50; omega) (fun c26 => ?_) (fun c26 => ?_)
    · skip
      refine a_aload_n (pc := 32) (q := 0) (i := 0) (x := 50) hC (by decide +kernel) rfl 0 rfl ?_
      refine g_get (pc := 33) (idx := 13) (ci := 6) (v := .ref 52) hC 50 3 (by decide +kernel) rfl rfl rfl rfl wrM (by decide) rfl (by decide +kernel) ?_
      refine a_iload_n (pc := 36) (q := 1) (i := 1) (x := (s : Int)) hC (by decide +kernel) rfl 1 rfl ?_
      refine g_iald (pc := 37) (a := 52) (j := s) hC hty (by decide +kernel) rfl (by omega) (by first | decide | omega) ?_
      refine g_top (y := (A : Int)) (by rw [m0_n (by decide)]; exact hA) ?_
      refine a_iconst (pc := 38) (c := 3) hC (by decide +kernel) ?_
      refine a_icmp_ne (pc := 39) (off := 6) hC 45 (by decide +kernel) (by decide) (by unfold inI; omega) (by unfold inI; omega) (fun c39 => ?_) (fun c39 => ?_)
      · skip
        refine a_aload_n (pc := 45) (q := 0) (i := 0) (x := 50) hC (by decide +kernel) rfl 0 rfl ?_
        refine g_get (pc := 46) (idx := 13) (ci := 6) (v := .ref 52) hC 50 3 (by decide +kernel) rfl rfl rfl rfl wrM (by decide) rfl (by decide +kernel) ?_
        refine a_iload_n (pc := 49) (q := 1) (i := 1) (x := (s : Int)) hC (by decide +kernel) rfl 1 rfl ?_
        refine g_iald (pc := 50) (a := 52) (j := s) hC hty (by decide +kernel) rfl (by omega) (by first | decide | omega) ?_
        refine g_top (y := (A : Int)) (by rw [m0_n (by decide)]; exact hA) ?_
        refine a_istore_n (pc := 51) (q := 3) (i := 3) (lv' := [(3, vi ((A : Int))), (0, .ref 50), (1, vi ((s : Int))), (2, vi p)]) hC (by decide +kernel) rfl (by decide) rfl ?_
        refine a_aload_n (pc := 52) (q := 0) (i := 0) (x := 50) hC (by decide +kernel) rfl 1 rfl ?_
        refine g_get (pc := 53) (idx := 17) (ci := 6) (v := .ref 53) hC 50 4 (by decide +kernel) rfl rfl rfl rfl wrM (by decide) rfl (by decide +kernel) ?_
        refine a_iconst (pc := 56) (c := 3) hC (by decide +kernel) ?_
        refine a_iload_n (pc := 57) (q := 1) (i := 1) (x := (s : Int)) hC (by decide +kernel) rfl 2 rfl ?_
        refine a_imul (pc := 58) hC (by decide +kernel) ?_
        refine a_iload_n (pc := 59) (q := 3) (i := 3) (x := (A : Int)) hC (by decide +kernel) rfl 0 rfl ?_
        refine a_iadd (pc := 60) hC (by decide +kernel) ?_
        refine a_iload_n (pc := 61) (q := 2) (i := 2) (x := p) hC (by decide +kernel) rfl 3 rfl ?_
        refine g_snd (y := ((3 * s + A : Nat) : Int)) (by omega) ?_
        refine g_iast (pc := 62) (a := 53) (j := 3 * s + A) (x := p) hC hty (by decide +kernel) rfl (by omega) (by first | decide | omega) ?_
        refine g_G (G' := uG (m0 G) 53 (up (G 53) (3 * s + A) p)) (by rw [m0_n (by decide)]) ?_
        refine a_iconst (pc := 63) (c := 0) hC (by decide +kernel) ?_
        refine a_istore (pc := 64) (q := 0) (i := 4) (lv' := [(4, vi 0), (3, vi ((A : Int))), (0, .ref 50), (1, vi ((s : Int))), (2, vi p)]) hC (by decide +kernel) (by decide) rfl ?_
        have L66 : ∀ (fuel : Nat) (t : Nat), 5 - t < fuel → t ≤ 5 → AW X 5 0 0 66 [(4, vi ((t : Int))), (3, vi ((A : Int))), (0, .ref 50), (1, vi ((s : Int))), (2, vi p)] [] (hp K (uG (uG (m0 G) 53 (up (G 53) (3 * s + A) p)) 54 (clW (G 54) s A t))) := by
          intro fuel
          induction fuel with
          | zero => intro t h; exact absurd h (Nat.not_lt_zero _)
          | succ fuel ih66 =>
            intro t hm ht
            refine a_iload (pc := 66) (i := 4) (x := (t : Int)) hC (by decide +kernel) 0 rfl ?_
            refine a_iconst (pc := 68) (c := 5) hC (by decide +kernel) ?_
            refine a_icmp_ge (pc := 69) (off := 26) hC 95 (by decide +kernel) (by decide) (by unfold inI; omega) (by unfold inI; omega) (fun c69 => ?_) (fun c69 => ?_)
            · skip
              refine a_aload_n (pc := 95) (q := 0) (i := 0) (x := 50) hC (by decide +kernel) rfl 2 rfl ?_
              refine g_get (pc := 96) (idx := 13) (ci := 6) (v := .ref 52) hC 50 3 (by decide +kernel) rfl rfl rfl rfl wrM (by decide) rfl (by decide +kernel) ?_
              refine a_iload_n (pc := 99) (q := 1) (i := 1) (x := (s : Int)) hC (by decide +kernel) rfl 3 rfl ?_
              refine a_dup2 (pc := 100) hC (by decide +kernel) rfl rfl ?_
              refine g_iald (pc := 101) (a := 52) (j := s) hC hty (by decide +kernel) rfl (by omega) (by first | decide | omega) ?_
              refine g_top (y := (A : Int)) (by rw [uG_n _ _ (by decide), uG_n _ _ (by decide), m0_n (by decide)]; exact hA) ?_
              refine a_iconst (pc := 102) (c := 1) hC (by decide +kernel) ?_
              refine a_iadd (pc := 103) hC (by decide +kernel) ?_
              refine g_iast (pc := 104) (a := 52) (j := s) (x := ((A : Int)) + 1) hC hty (by decide +kernel) rfl (by omega) (by first | decide | omega) ?_
              refine a_iload_n (pc := 105) (q := 3) (i := 3) (x := (A : Int)) hC (by decide +kernel) rfl 1 rfl ?_
              exact g_iret (pc := 106) hC hE (by decide +kernel) rfl (by rw [show t = 5 by omega, uG_n _ _ (by decide), uG_n _ _ (by decide), m0_n (by decide)]; rfl)
            · skip
              refine a_aload_n (pc := 72) (q := 0) (i := 0) (x := 50) hC (by decide +kernel) rfl 2 rfl ?_
              refine g_get (pc := 73) (idx := 20) (ci := 6) (v := .ref 54) hC 50 5 (by decide +kernel) rfl rfl rfl rfl wrM (by decide) rfl (by decide +kernel) ?_
              refine a_bipush (pc := 76) (c := 15) hC (by decide +kernel) (by decide +kernel) ?_
              refine a_iload_n (pc := 78) (q := 1) (i := 1) (x := (s : Int)) hC (by decide +kernel) rfl 3 rfl ?_
              refine a_imul (pc := 79) hC (by decide +kernel) ?_
              refine a_iconst (pc := 80) (c := 5) hC (by decide +kernel) ?_
              refine a_iload_n (pc := 81) (q := 3) (i := 3) (x := (A : Int)) hC (by decide +kernel) rfl 1 rfl ?_
              refine a_imul (pc := 82) hC (by decide +kernel) ?_
              refine a_iadd (pc := 83) hC (by decide +kernel) ?_
              refine a_iload (pc := 84) (i := 4) (x := (t : Int)) hC (by decide +kernel) 0 rfl ?_
              refine a_iadd (pc := 86) hC (by decide +kernel) ?_
              refine a_iconst (pc := 87) (c := 0) hC (by decide +kernel) ?_
              refine g_snd (y := ((wIx s A t : Nat) : Int)) (by unfold wIx; omega) ?_
              refine g_iast (pc := 88) (a := 54) (j := wIx s A t) (x := 0) hC hty (by decide +kernel) rfl (by unfold wIx; omega) (by first | decide | omega) ?_
              refine a_iinc (pc := 89) (i := 4) (c := 1) (x := (t : Int)) (lv' := [(4, vi (((t : Int)) + 1)), (3, vi ((A : Int))), (0, .ref 50), (1, vi ((s : Int))), (2, vi p)]) hC (by decide +kernel) 0 rfl (by decide) rfl ?_
              refine a_goto (pc := 92) (off := -26) hC 66 (by decide +kernel) (by decide) ?_
              refine a_sub (lv' := [(4, vi (((t + 1) : Int))), (3, vi ((A : Int))), (0, .ref 50), (1, vi ((s : Int))), (2, vi p)]) [0, 1, 2, 3, 4] rfl ?_
              refine g_G (G' := uG (uG (m0 G) 53 (up (G 53) (3 * s + A) p)) 54 (clW (G 54) s A (t + 1))) (by rw [uG_s, uG_uG, clW_s]) ?_
              exact ih66 (t + 1) (by omega) (by omega)
        refine a_sub (lv' := [(4, vi ((0 : Int))), (3, vi ((A : Int))), (0, .ref 50), (1, vi ((s : Int))), (2, vi p)]) [0, 1, 2, 3, 4] rfl ?_
        refine g_G (G' := uG (uG (m0 G) 53 (up (G 53) (3 * s + A) p)) 54 (clW (G 54) s A 0)) (by rw [clW_0]; exact (uG_same (by rw [uG_n _ _ (by decide), m0_n (by decide)])).symm) ?_
        exact L66 _ 0 (Nat.lt_succ_self _) (by omega)
      · skip
        exact absurd c39 (by omega)
    · skip
      exact absurd c26 hok
  · skip
    exact absurd c10 (by decide)

set_option maxRecDepth 100000 in
set_option maxHeartbeats 4000000 in
theorem ct_M_pay_no (l : Launch) (D : va_G) (K : K5) (G : GT) (N : Nat) (s a : Int) (p : Int) (hsi : inI s) (hai : inI a) (hmm : MM G N) (hno : mA G s a = 0) : Ct l D K y_M_pay c_M_pay 5 (some .int) 3 68 [.ref 50, vi s, vi a, vi p] G (some (vi (-1))) (m0 G) := by
  refine Ct.intro (by decide +kernel) (Nat.le_of_ble_eq_true rfl) ?_
  intro X hro hty hC hE
  obtain ⟨hn, hN5, hsh, hac, hpa, hwe, hth, hch⟩ := id hmm
  refine a_aload_n (pc := 0) (q := 0) (i := 0) (x := 50) hC (by decide +kernel) rfl 0 rfl ?_
  refine a_iconst (pc := 1) (c := 0) hC (by decide +kernel) ?_
  refine g_put (pc := 2) (idx := 62) (ci := 6) (x := 0) hC 50 0 (by decide +kernel) rfl rfl (congrArg (fun z => vi z) (up_s _ _ _)) rfl wrM (by decide) rfl (by decide +kernel) rfl (ok_int _) ?_
  refine g_G (G' := m0 G) rfl ?_
  refine a_aload_n (pc := 5) (q := 0) (i := 0) (x := 50) hC (by decide +kernel) rfl 0 rfl ?_
  refine a_iload_n (pc := 6) (q := 1) (i := 1) (x := s) hC (by decide +kernel) rfl 1 rfl ?_
  refine a_iload_n (pc := 7) (q := 2) (i := 2) (x := a) hC (by decide +kernel) rfl 2 rfl ?_
  refine g_callV (pc := 8) (idx := 91) (i := 50) (av := [vi s, vi a]) (rest := []) (g := m0 G) (v := vi (mA (m0 G) s a)) hC hro hty (by decide +kernel) rfl rfl k_M_isAct (by decide +kernel) (by decide +kernel) (by decide +kernel) (ct_M_isAct X.la X.dd K (m0 G) N s a hsi hai hmm.m0) rfl rfl (by decide) (by first | decide | simp [Value.category]) ?_
  refine g_top (y := mA G s a) (mA_m0 _ _ _) ?_
  refine a_if_ne (pc := 11) (off := 5) hC 16 (by decide +kernel) (by decide) (by unfold inI; omega) (fun c11 => ?_) (fun c11 => ?_)
  · skip
    exact absurd hno c11
  · skip
    refine a_iconst (pc := 14) (c := -1) hC (by decide +kernel) ?_
    exact g_iret (pc := 15) hC hE (by decide +kernel) rfl rfl

set_option maxRecDepth 100000 in
set_option maxHeartbeats 4000000 in
theorem ct_M_pay_bad (l : Launch) (D : va_G) (K : K5) (G : GT) (N s a : Nat) (p : Int) (hs : s < N) (ha : (a : Int) < G 52 s) (hpi : inI p) (hmm : MM G N) (hbad : inZ p (-50) 50 = 0) : Ct l D K y_M_pay c_M_pay 5 (some .int) 3 68 [.ref 50, vi ((s : Int)), vi ((a : Int)), vi p] G (some (vi (-2))) (m0 G) := by
  refine Ct.intro (by decide +kernel) (Nat.le_of_ble_eq_true rfl) ?_
  intro X hro hty hC hE
  obtain ⟨hn, hN5, hsh, hac, hpa, hwe, hth, hch⟩ := id hmm
  have ha3 := hac s (by omega)
  have ha2 : a < 3 := by omega
  unfold inI at hpi
  refine a_aload_n (pc := 0) (q := 0) (i := 0) (x := 50) hC (by decide +kernel) rfl 0 rfl ?_
  refine a_iconst (pc := 1) (c := 0) hC (by decide +kernel) ?_
  refine g_put (pc := 2) (idx := 62) (ci := 6) (x := 0) hC 50 0 (by decide +kernel) rfl rfl (congrArg (fun z => vi z) (up_s _ _ _)) rfl wrM (by decide) rfl (by decide +kernel) rfl (ok_int _) ?_
  refine g_G (G' := m0 G) rfl ?_
  refine a_aload_n (pc := 5) (q := 0) (i := 0) (x := 50) hC (by decide +kernel) rfl 0 rfl ?_
  refine a_iload_n (pc := 6) (q := 1) (i := 1) (x := (s : Int)) hC (by decide +kernel) rfl 1 rfl ?_
  refine a_iload_n (pc := 7) (q := 2) (i := 2) (x := (a : Int)) hC (by decide +kernel) rfl 2 rfl ?_
  refine g_callV (pc := 8) (idx := 91) (i := 50) (av := [vi ((s : Int)), vi ((a : Int))]) (rest := []) (g := m0 G) (v := vi (mA (m0 G) ((s : Int)) ((a : Int)))) hC hro hty (by decide +kernel) rfl rfl k_M_isAct (by decide +kernel) (by decide +kernel) (by decide +kernel) (ct_M_isAct X.la X.dd K (m0 G) N ((s : Int)) ((a : Int)) (by unfold inI; omega) (by unfold inI; omega) hmm.m0) rfl rfl (by decide) (by first | decide | simp [Value.category]) ?_
  refine g_top (y := 1) (by rw [mA_m0]; exact mA_ok hmm hs ha) ?_
  refine a_if_ne (pc := 11) (off := 5) hC 16 (by decide +kernel) (by decide) (by unfold inI; omega) (fun c11 => ?_) (fun c11 => ?_)
  · skip
    refine a_iload_n (pc := 16) (q := 3) (i := 3) (x := p) hC (by decide +kernel) rfl 3 rfl ?_
    refine a_i2l (pc := 17) hC (by decide +kernel) (by unfold inI; omega) ?_
    refine a_ldc2 (pc := 18) (idx := 87) (z := -50) (v := -50) hC (by decide +kernel) (by decide +kernel) rfl ?_
    refine a_ldc2 (pc := 21) (idx := 89) (z := 50) (v := 50) hC (by decide +kernel) (by decide +kernel) rfl ?_
    refine g_callS (pc := 24) (idx := 75) (av := [vl p, vl (-50), vl 50]) (rest := []) (g := m0 G) (v := vi (inZ p (-50) 50)) hC hro hty (by decide +kernel) k_M_in (by decide +kernel) (by decide +kernel) (ct_M_in X.la X.dd K (m0 G) p (-50) 50 (by unfold inL; omega) (by unfold inL; omega) (by unfold inL; omega)) rfl rfl (by decide) (by first | decide | simp [Value.category]) ?_
    refine a_if_ne (pc := 27) (off := 6) hC 33 (by decide +kernel) (by decide) (by unfold inI; have := inZ_01 p (-50) 50; omega) (fun c27 => ?_) (fun c27 => ?_)
    · skip
      exact absurd hbad c27
    · skip
      refine a_bipush (pc := 30) (c := -2) hC (by decide +kernel) (by decide +kernel) ?_
      exact g_iret (pc := 32) hC hE (by decide +kernel) rfl rfl
  · skip
    exact absurd c11 (by decide)

set_option maxRecDepth 100000 in
set_option maxHeartbeats 4000000 in
theorem ct_M_pay (l : Launch) (D : va_G) (K : K5) (G : GT) (N s a : Nat) (p : Int) (hs : s < N) (ha : (a : Int) < G 52 s) (hpi : inI p) (hmm : MM G N) (hok : ¬ inZ p (-50) 50 = 0) : Ct l D K y_M_pay c_M_pay 5 (some .int) 3 68 [.ref 50, vi ((s : Int)), vi ((a : Int)), vi p] G (some (vi (G 53 (3 * s + a) + 50))) (uG (m0 G) 53 (up (G 53) (3 * s + a) p)) := by
  refine Ct.intro (by decide +kernel) (Nat.le_of_ble_eq_true rfl) ?_
  intro X hro hty hC hE
  obtain ⟨hn, hN5, hsh, hac, hpa, hwe, hth, hch⟩ := id hmm
  have ha3 := hac s (by omega)
  have ha2 : a < 3 := by omega
  unfold inI at hpi
  refine a_aload_n (pc := 0) (q := 0) (i := 0) (x := 50) hC (by decide +kernel) rfl 0 rfl ?_
  refine a_iconst (pc := 1) (c := 0) hC (by decide +kernel) ?_
  refine g_put (pc := 2) (idx := 62) (ci := 6) (x := 0) hC 50 0 (by decide +kernel) rfl rfl (congrArg (fun z => vi z) (up_s _ _ _)) rfl wrM (by decide) rfl (by decide +kernel) rfl (ok_int _) ?_
  refine g_G (G' := m0 G) rfl ?_
  refine a_aload_n (pc := 5) (q := 0) (i := 0) (x := 50) hC (by decide +kernel) rfl 0 rfl ?_
  refine a_iload_n (pc := 6) (q := 1) (i := 1) (x := (s : Int)) hC (by decide +kernel) rfl 1 rfl ?_
  refine a_iload_n (pc := 7) (q := 2) (i := 2) (x := (a : Int)) hC (by decide +kernel) rfl 2 rfl ?_
  refine g_callV (pc := 8) (idx := 91) (i := 50) (av := [vi ((s : Int)), vi ((a : Int))]) (rest := []) (g := m0 G) (v := vi (mA (m0 G) ((s : Int)) ((a : Int)))) hC hro hty (by decide +kernel) rfl rfl k_M_isAct (by decide +kernel) (by decide +kernel) (by decide +kernel) (ct_M_isAct X.la X.dd K (m0 G) N ((s : Int)) ((a : Int)) (by unfold inI; omega) (by unfold inI; omega) hmm.m0) rfl rfl (by decide) (by first | decide | simp [Value.category]) ?_
  refine g_top (y := 1) (by rw [mA_m0]; exact mA_ok hmm hs ha) ?_
  refine a_if_ne (pc := 11) (off := 5) hC 16 (by decide +kernel) (by decide) (by unfold inI; omega) (fun c11 => ?_) (fun c11 => ?_)
  · skip
    refine a_iload_n (pc := 16) (q := 3) (i := 3) (x := p) hC (by decide +kernel) rfl 3 rfl ?_
    refine a_i2l (pc := 17) hC (by decide +kernel) (by unfold inI; omega) ?_
    refine a_ldc2 (pc := 18) (idx := 87) (z := -50) (v := -50) hC (by decide +kernel) (by decide +kernel) rfl ?_
    refine a_ldc2 (pc := 21) (idx := 89) (z := 50) (v := 50) hC (by decide +kernel) (by decide +kernel) rfl ?_
    refine g_callS (pc := 24) (idx := 75) (av := [vl p, vl (-50), vl 50]) (rest := []) (g := m0 G) (v := vi (inZ p (-50) 50)) hC hro hty (by decide +kernel) k_M_in (by decide +kernel) (by decide +kernel) (ct_M_in X.la X.dd K (m0 G) p (-50) 50 (by unfold inL; omega) (by unfold inL; omega) (by unfold inL; omega)) rfl rfl (by decide) (by first | decide | simp [Value.category]) ?_
    refine a_if_ne (pc := 27) (off := 6) hC 33 (by decide +kernel) (by decide) (by unfold inI; have := inZ_01 p (-50) 50; omega) (fun c27 => ?_) (fun c27 => ?_)
    · skip
      refine a_aload_n (pc := 33) (q := 0) (i := 0) (x := 50) hC (by decide +kernel) rfl 0 rfl ?_
      refine g_get (pc := 34) (idx := 17) (ci := 6) (v := .ref 53) hC 50 4 (by decide +kernel) rfl rfl rfl rfl wrM (by decide) rfl (by decide +kernel) ?_
      refine a_iconst (pc := 37) (c := 3) hC (by decide +kernel) ?_
      refine a_iload_n (pc := 38) (q := 1) (i := 1) (x := (s : Int)) hC (by decide +kernel) rfl 1 rfl ?_
      refine a_imul (pc := 39) hC (by decide +kernel) ?_
      refine a_iload_n (pc := 40) (q := 2) (i := 2) (x := (a : Int)) hC (by decide +kernel) rfl 2 rfl ?_
      refine a_iadd (pc := 41) hC (by decide +kernel) ?_
      refine g_top (y := ((3 * s + a : Nat) : Int)) (by omega) ?_
      refine g_iald (pc := 42) (a := 53) (j := 3 * s + a) hC hty (by decide +kernel) rfl (by omega) (by first | decide | omega) ?_
      refine g_top (y := G 53 (3 * s + a)) (by rw [m0_n (by decide)]) ?_
      refine a_istore (pc := 43) (q := 0) (i := 4) (lv' := [(4, vi (G 53 (3 * s + a))), (0, .ref 50), (1, vi ((s : Int))), (2, vi ((a : Int))), (3, vi p)]) hC (by decide +kernel) (by decide) rfl ?_
      refine a_aload_n (pc := 45) (q := 0) (i := 0) (x := 50) hC (by decide +kernel) rfl 1 rfl ?_
      refine g_get (pc := 46) (idx := 17) (ci := 6) (v := .ref 53) hC 50 4 (by decide +kernel) rfl rfl rfl rfl wrM (by decide) rfl (by decide +kernel) ?_
      refine a_iconst (pc := 49) (c := 3) hC (by decide +kernel) ?_
      refine a_iload_n (pc := 50) (q := 1) (i := 1) (x := (s : Int)) hC (by decide +kernel) rfl 2 rfl ?_
      refine a_imul (pc := 51) hC (by decide +kernel) ?_
      refine a_iload_n (pc := 52) (q := 2) (i := 2) (x := (a : Int)) hC (by decide +kernel) rfl 3 rfl ?_
      refine a_iadd (pc := 53) hC (by decide +kernel) ?_
      refine a_iload_n (pc := 54) (q := 3) (i := 3) (x := p) hC (by decide +kernel) rfl 4 rfl ?_
      refine g_snd (y := ((3 * s + a : Nat) : Int)) (by omega) ?_
      refine g_iast (pc := 55) (a := 53) (j := 3 * s + a) (x := p) hC hty (by decide +kernel) rfl (by omega) (by first | decide | omega) ?_
      refine a_iload (pc := 56) (i := 4) (x := G 53 (3 * s + a)) hC (by decide +kernel) 0 rfl ?_
      refine a_bipush (pc := 58) (c := 50) hC (by decide +kernel) (by decide +kernel) ?_
      refine a_iadd (pc := 60) hC (by decide +kernel) ?_
      exact g_iret (pc := 61) hC hE (by decide +kernel) rfl (by rw [m0_n (a := 53) (by decide)])
    · skip
      exact absurd c27 hok
  · skip
    exact absurd c11 (by decide)

set_option maxRecDepth 100000 in
set_option maxHeartbeats 4000000 in
theorem ct_M_tell_no (l : Launch) (D : va_G) (K : K5) (G : GT) (N : Nat) (s a : Int)  (hsi : inI s) (hai : inI a) (hmm : MM G N) (hno : mA G s a = 0) : Ct l D K y_M_tell c_M_tell 4 (some .int) 3 68 [.ref 50, vi s, vi a] G (some (vi (-1))) (m0 G) := by
  refine Ct.intro (by decide +kernel) (Nat.le_of_ble_eq_true rfl) ?_
  intro X hro hty hC hE
  obtain ⟨hn, hN5, hsh, hac, hpa, hwe, hth, hch⟩ := id hmm
  refine a_aload_n (pc := 0) (q := 0) (i := 0) (x := 50) hC (by decide +kernel) rfl 0 rfl ?_
  refine a_iconst (pc := 1) (c := 0) hC (by decide +kernel) ?_
  refine g_put (pc := 2) (idx := 62) (ci := 6) (x := 0) hC 50 0 (by decide +kernel) rfl rfl (congrArg (fun z => vi z) (up_s _ _ _)) rfl wrM (by decide) rfl (by decide +kernel) rfl (ok_int _) ?_
  refine g_G (G' := m0 G) rfl ?_
  refine a_aload_n (pc := 5) (q := 0) (i := 0) (x := 50) hC (by decide +kernel) rfl 0 rfl ?_
  refine a_iload_n (pc := 6) (q := 1) (i := 1) (x := s) hC (by decide +kernel) rfl 1 rfl ?_
  refine a_iload_n (pc := 7) (q := 2) (i := 2) (x := a) hC (by decide +kernel) rfl 2 rfl ?_
  refine g_callV (pc := 8) (idx := 91) (i := 50) (av := [vi s, vi a]) (rest := []) (g := m0 G) (v := vi (mA (m0 G) s a)) hC hro hty (by decide +kernel) rfl rfl k_M_isAct (by decide +kernel) (by decide +kernel) (by decide +kernel) (ct_M_isAct X.la X.dd K (m0 G) N s a hsi hai hmm.m0) rfl rfl (by decide) (by first | decide | simp [Value.category]) ?_
  refine g_top (y := mA G s a) (mA_m0 _ _ _) ?_
  refine a_if_ne (pc := 11) (off := 5) hC 16 (by decide +kernel) (by decide) (by unfold inI; omega) (fun c11 => ?_) (fun c11 => ?_)
  · skip
    exact absurd hno c11
  · skip
    refine a_iconst (pc := 14) (c := -1) hC (by decide +kernel) ?_
    exact g_iret (pc := 15) hC hE (by decide +kernel) rfl rfl

set_option maxRecDepth 100000 in
set_option maxHeartbeats 4000000 in
theorem ct_M_tell (l : Launch) (D : va_G) (K : K5) (G : GT) (N s a : Nat) (hs : s < N) (ha : (a : Int) < G 52 s) (hmm : MM G N) : Ct l D K y_M_tell c_M_tell 4 (some .int) 3 68 [.ref 50, vi ((s : Int)), vi ((a : Int))] G (some (vi (G 55 s))) (uG (m0 G) 55 (up (G 55) s (a : Int))) := by
  refine Ct.intro (by decide +kernel) (Nat.le_of_ble_eq_true rfl) ?_
  intro X hro hty hC hE
  obtain ⟨hn, hN5, hsh, hac, hpa, hwe, hth, hch⟩ := id hmm
  have ha3 := hac s (by omega)
  have ha2 : a < 3 := by omega
  refine a_aload_n (pc := 0) (q := 0) (i := 0) (x := 50) hC (by decide +kernel) rfl 0 rfl ?_
  refine a_iconst (pc := 1) (c := 0) hC (by decide +kernel) ?_
  refine g_put (pc := 2) (idx := 62) (ci := 6) (x := 0) hC 50 0 (by decide +kernel) rfl rfl (congrArg (fun z => vi z) (up_s _ _ _)) rfl wrM (by decide) rfl (by decide +kernel) rfl (ok_int _) ?_
  refine g_G (G' := m0 G) rfl ?_
  refine a_aload_n (pc := 5) (q := 0) (i := 0) (x := 50) hC (by decide +kernel) rfl 0 rfl ?_
  refine a_iload_n (pc := 6) (q := 1) (i := 1) (x := (s : Int)) hC (by decide +kernel) rfl 1 rfl ?_
  refine a_iload_n (pc := 7) (q := 2) (i := 2) (x := (a : Int)) hC (by decide +kernel) rfl 2 rfl ?_
  refine g_callV (pc := 8) (idx := 91) (i := 50) (av := [vi ((s : Int)), vi ((a : Int))]) (rest := []) (g := m0 G) (v := vi (mA (m0 G) ((s : Int)) ((a : Int)))) hC hro hty (by decide +kernel) rfl rfl k_M_isAct (by decide +kernel) (by decide +kernel) (by decide +kernel) (ct_M_isAct X.la X.dd K (m0 G) N ((s : Int)) ((a : Int)) (by unfold inI; omega) (by unfold inI; omega) hmm.m0) rfl rfl (by decide) (by first | decide | simp [Value.category]) ?_
  refine g_top (y := 1) (by rw [mA_m0]; exact mA_ok hmm hs ha) ?_
  refine a_if_ne (pc := 11) (off := 5) hC 16 (by decide +kernel) (by decide) (by unfold inI; omega) (fun c11 => ?_) (fun c11 => ?_)
  · skip
    refine a_aload_n (pc := 16) (q := 0) (i := 0) (x := 50) hC (by decide +kernel) rfl 0 rfl ?_
    refine g_get (pc := 17) (idx := 23) (ci := 6) (v := .ref 55) hC 50 6 (by decide +kernel) rfl rfl rfl rfl wrM (by decide) rfl (by decide +kernel) ?_
    refine a_iload_n (pc := 20) (q := 1) (i := 1) (x := (s : Int)) hC (by decide +kernel) rfl 1 rfl ?_
    refine g_iald (pc := 21) (a := 55) (j := s) hC hty (by decide +kernel) rfl (by omega) (by first | decide | omega) ?_
    refine g_top (y := G 55 s) (by rw [m0_n (by decide)]) ?_
    refine a_istore_n (pc := 22) (q := 3) (i := 3) (lv' := [(3, vi (G 55 s)), (0, .ref 50), (1, vi ((s : Int))), (2, vi ((a : Int)))]) hC (by decide +kernel) rfl (by decide) rfl ?_
    refine a_aload_n (pc := 23) (q := 0) (i := 0) (x := 50) hC (by decide +kernel) rfl 1 rfl ?_
    refine g_get (pc := 24) (idx := 23) (ci := 6) (v := .ref 55) hC 50 6 (by decide +kernel) rfl rfl rfl rfl wrM (by decide) rfl (by decide +kernel) ?_
    refine a_iload_n (pc := 27) (q := 1) (i := 1) (x := (s : Int)) hC (by decide +kernel) rfl 2 rfl ?_
    refine a_iload_n (pc := 28) (q := 2) (i := 2) (x := (a : Int)) hC (by decide +kernel) rfl 3 rfl ?_
    refine g_iast (pc := 29) (a := 55) (j := s) (x := (a : Int)) hC hty (by decide +kernel) rfl (by omega) (by first | decide | omega) ?_
    refine a_iload_n (pc := 30) (q := 3) (i := 3) (x := G 55 s) hC (by decide +kernel) rfl 0 rfl ?_
    exact g_iret (pc := 31) hC hE (by decide +kernel) rfl (by rw [m0_n (a := 55) (by decide)])
  · skip
    exact absurd c11 (by decide)


set_option maxRecDepth 100000 in
set_option maxHeartbeats 4000000 in
theorem ct_M_share (l : Launch) (D : va_G) (K : K5) (G : GT) (u d : Int) (hui : inI u) (hdi : inI d) (hok : 1 ≤ d ∧ d ≤ 6 ∧ 0 ≤ u ∧ u < d) : Ct l D K y_M_share c_M_share 3 (some .int) 1 25 [.ref 50, vi u, vi d] G (some (vi 1)) (uG (m0 G) 50 (up (up ((m0 G) 50) 7 u) 8 d)) := by
  refine Ct.intro (by decide +kernel) (Nat.le_of_ble_eq_true rfl) ?_
  intro X hro hty hC hE
  unfold inI at hui hdi
  refine a_aload_n (pc := 0) (q := 0) (i := 0) (x := 50) hC (by decide +kernel) rfl 0 rfl ?_
  refine a_iconst (pc := 1) (c := 0) hC (by decide +kernel) ?_
  refine g_put (pc := 2) (idx := 62) (ci := 6) (x := 0) hC 50 0 (by decide +kernel) rfl rfl (congrArg (fun z => vi z) (up_s _ _ _)) rfl wrM (by decide) rfl (by decide +kernel) rfl (ok_int _) ?_
  refine g_G (G' := m0 G) rfl ?_
  refine a_iload_n (pc := 5) (q := 2) (i := 2) (x := d) hC (by decide +kernel) rfl 2 rfl ?_
  refine a_i2l (pc := 6) hC (by decide +kernel) (by unfold inI; omega) ?_
  refine a_lconst (pc := 7) (c := 1) (z := 1) hC (by decide +kernel) rfl ?_
  refine a_ldc2 (pc := 8) (idx := 95) (z := 6) (v := 6) hC (by decide +kernel) (by decide +kernel) rfl ?_
  refine g_callS (pc := 11) (idx := 75) (av := [vl d, vl 1, vl 6]) (rest := []) (g := m0 G) (v := vi (inZ d 1 6)) hC hro hty (by decide +kernel) k_M_in (by decide +kernel) (by decide +kernel) (ct_M_in X.la X.dd K (m0 G) d 1 6 (by unfold inL; omega) (by unfold inL; omega) (by unfold inL; omega)) rfl rfl (by decide) (by first | decide | simp [Value.category]) ?_
  refine a_if_eq (pc := 14) (off := 16) hC 30 (by decide +kernel) (by decide) (by unfold inI; have := inZ_01 d 1 6; omega) (fun c14 => ?_) (fun c14 => ?_)
  · skip
    exact absurd c14 (by unfold inZ; rw [if_pos (by omega)]; decide)
  · skip
    refine a_iload_n (pc := 17) (q := 1) (i := 1) (x := u) hC (by decide +kernel) rfl 1 rfl ?_
    refine a_i2l (pc := 18) hC (by decide +kernel) (by unfold inI; omega) ?_
    refine a_lconst (pc := 19) (c := 0) (z := 0) hC (by decide +kernel) rfl ?_
    refine a_iload_n (pc := 20) (q := 2) (i := 2) (x := d) hC (by decide +kernel) rfl 2 rfl ?_
    refine a_iconst (pc := 21) (c := 1) hC (by decide +kernel) ?_
    refine a_isub (pc := 22) hC (by decide +kernel) ?_
    refine a_i2l (pc := 23) hC (by decide +kernel) (by unfold inI; omega) ?_
    refine g_callS (pc := 24) (idx := 75) (av := [vl u, vl 0, vl (d - 1)]) (rest := []) (g := m0 G) (v := vi (inZ u 0 (d - 1))) hC hro hty (by decide +kernel) k_M_in (by decide +kernel) (by decide +kernel) (ct_M_in X.la X.dd K (m0 G) u 0 (d - 1) (by unfold inL; omega) (by unfold inL; omega) (by unfold inL; omega)) rfl rfl (by decide) (by first | decide | simp [Value.category]) ?_
    refine a_if_ne (pc := 27) (off := 6) hC 33 (by decide +kernel) (by decide) (by unfold inI; have := inZ_01 u 0 (d - 1); omega) (fun c27 => ?_) (fun c27 => ?_)
    · skip
      refine a_aload_n (pc := 33) (q := 0) (i := 0) (x := 50) hC (by decide +kernel) rfl 0 rfl ?_
      refine a_iload_n (pc := 34) (q := 1) (i := 1) (x := u) hC (by decide +kernel) rfl 1 rfl ?_
      refine g_put (pc := 35) (idx := 26) (ci := 6) (x := u) hC 50 7 (by decide +kernel) rfl rfl (congrArg (fun z => vi z) (up_s _ _ _)) rfl wrM (by decide) rfl (by decide +kernel) rfl (ok_int _) ?_
      refine a_aload_n (pc := 38) (q := 0) (i := 0) (x := 50) hC (by decide +kernel) rfl 0 rfl ?_
      refine a_iload_n (pc := 39) (q := 2) (i := 2) (x := d) hC (by decide +kernel) rfl 2 rfl ?_
      refine g_put (pc := 40) (idx := 30) (ci := 6) (x := d) hC 50 8 (by decide +kernel) rfl rfl (congrArg (fun z => vi z) (up_s _ _ _)) rfl wrM (by decide) rfl (by decide +kernel) rfl (ok_int _) ?_
      refine a_iconst (pc := 43) (c := 1) hC (by decide +kernel) ?_
      exact g_iret (pc := 44) hC hE (by decide +kernel) rfl (by rw [uG_s, uG_uG])
    · skip
      exact absurd c27 (by unfold inZ; rw [if_pos (by omega)]; decide)

set_option maxRecDepth 100000 in
set_option maxHeartbeats 4000000 in
theorem ct_M_actIn (l : Launch) (D : va_G) (K : K5) (G : GT) (p s : Nat) (hp0 : p < 300) (hs : s < 5) (hac : ∀ s, s < 5 → 0 ≤ G 52 s ∧ G 52 s ≤ 3) : Ct l D K y_M_actIn c_M_actIn 5 (some .int) 0 0 [.ref 50, vi ((p : Int)), vi ((s : Int))] G (some (vi (actZ G p s))) G := by
  refine Ct.intro (by decide +kernel) (Nat.le_of_ble_eq_true rfl) ?_
  intro X hro hty hC hE
  refine a_iload_n (pc := 0) (q := 1) (i := 1) (x := (p : Int)) hC (by decide +kernel) rfl 1 rfl ?_
  refine a_istore_n (pc := 1) (q := 3) (i := 3) (lv' := [(3, vi ((p : Int))), (0, .ref 50), (1, vi ((p : Int))), (2, vi ((s : Int)))]) hC (by decide +kernel) rfl (by decide) rfl ?_
  refine a_iconst (pc := 2) (c := 0) hC (by decide +kernel) ?_
  refine a_istore (pc := 3) (q := 0) (i := 4) (lv' := [(4, vi 0), (3, vi ((p : Int))), (0, .ref 50), (1, vi ((p : Int))), (2, vi ((s : Int)))]) hC (by decide +kernel) (by decide) rfl ?_
  have L5 : ∀ (fuel : Nat) (t : Nat), s - t < fuel → t ≤ s → AW X 5 0 0 5 [(4, vi ((t : Int))), (3, vi (aiS G p t)), (0, .ref 50), (1, vi ((p : Int))), (2, vi ((s : Int)))] [] (hp K G) := by
    intro fuel
    induction fuel with
    | zero => intro t h; exact absurd h (Nat.not_lt_zero _)
    | succ fuel ih5 =>
      intro t hm ht
      have hai := aiS_in (p := p) hac t (by omega)
      have h5 := hac t (by omega)
      refine a_iload (pc := 5) (i := 4) (x := (t : Int)) hC (by decide +kernel) 0 rfl ?_
      refine a_iload_n (pc := 7) (q := 2) (i := 2) (x := (s : Int)) hC (by decide +kernel) rfl 4 rfl ?_
      refine a_icmp_ge (pc := 8) (off := 33) hC 41 (by decide +kernel) (by decide) (by unfold inI; omega) (by unfold inI; omega) (fun c8 => ?_) (fun c8 => ?_)
      · skip
        have hts : t = s := by omega
        have h6 := hac s hs
        refine a_aload_n (pc := 41) (q := 0) (i := 0) (x := 50) hC (by decide +kernel) rfl 2 rfl ?_
        refine g_get (pc := 42) (idx := 13) (ci := 6) (v := .ref 52) hC 50 3 (by decide +kernel) rfl rfl rfl rfl wrM (by decide) rfl (by decide +kernel) ?_
        refine a_iload_n (pc := 45) (q := 2) (i := 2) (x := (s : Int)) hC (by decide +kernel) rfl 4 rfl ?_
        refine g_iald (pc := 46) (a := 52) (j := s) hC hty (by decide +kernel) rfl (by omega) (by first | decide | omega) ?_
        refine a_if_ne (pc := 47) (off := 7) hC 54 (by decide +kernel) (by decide) (by unfold inI; omega) (fun c47 => ?_) (fun c47 => ?_)
        · skip
          refine a_iload_n (pc := 54) (q := 3) (i := 3) (x := aiS G p t) hC (by decide +kernel) rfl 1 rfl ?_
          refine a_aload_n (pc := 55) (q := 0) (i := 0) (x := 50) hC (by decide +kernel) rfl 2 rfl ?_
          refine g_get (pc := 56) (idx := 13) (ci := 6) (v := .ref 52) hC 50 3 (by decide +kernel) rfl rfl rfl rfl wrM (by decide) rfl (by decide +kernel) ?_
          refine a_iload_n (pc := 59) (q := 2) (i := 2) (x := (s : Int)) hC (by decide +kernel) rfl 4 rfl ?_
          refine g_iald (pc := 60) (a := 52) (j := s) hC hty (by decide +kernel) rfl (by omega) (by first | decide | omega) ?_
          refine a_irem (pc := 61) hC (by decide +kernel) (by unfold inI; omega) (by unfold inI; omega) c47 ?_
          exact g_iret (pc := 62) hC hE (by decide +kernel) (by unfold actZ; first | rw [if_pos c47] | rw [if_neg c47, hts]) rfl
        · skip
          refine a_iconst (pc := 50) (c := -1) hC (by decide +kernel) ?_
          refine a_goto (pc := 51) (off := 11) hC 62 (by decide +kernel) (by decide) ?_
          exact g_iret (pc := 62) hC hE (by decide +kernel) (by unfold actZ; first | rw [if_pos c47] | rw [if_neg c47, hts]) rfl
      · skip
        refine a_aload_n (pc := 11) (q := 0) (i := 0) (x := 50) hC (by decide +kernel) rfl 2 rfl ?_
        refine g_get (pc := 12) (idx := 13) (ci := 6) (v := .ref 52) hC 50 3 (by decide +kernel) rfl rfl rfl rfl wrM (by decide) rfl (by decide +kernel) ?_
        refine a_iload (pc := 15) (i := 4) (x := (t : Int)) hC (by decide +kernel) 0 rfl ?_
        refine g_iald (pc := 17) (a := 52) (j := t) hC hty (by decide +kernel) rfl (by omega) (by first | decide | omega) ?_
        refine a_if_ne (pc := 18) (off := 7) hC 25 (by decide +kernel) (by decide) (by unfold inI; omega) (fun c18 => ?_) (fun c18 => ?_)
        · skip
          have hst : Int.tdiv (aiS G p t) (G 52 t) = aiS G p (t + 1) := by show _ = (if _ then _ else _); rw [if_neg c18]
          refine a_iload_n (pc := 25) (q := 3) (i := 3) (x := aiS G p t) hC (by decide +kernel) rfl 1 rfl ?_
          refine a_aload_n (pc := 26) (q := 0) (i := 0) (x := 50) hC (by decide +kernel) rfl 2 rfl ?_
          refine g_get (pc := 27) (idx := 13) (ci := 6) (v := .ref 52) hC 50 3 (by decide +kernel) rfl rfl rfl rfl wrM (by decide) rfl (by decide +kernel) ?_
          refine a_iload (pc := 30) (i := 4) (x := (t : Int)) hC (by decide +kernel) 0 rfl ?_
          refine g_iald (pc := 32) (a := 52) (j := t) hC hty (by decide +kernel) rfl (by omega) (by first | decide | omega) ?_
          refine a_idiv (pc := 33) hC (by decide +kernel) (by unfold inI; omega) (by unfold inI; omega) c18 ?_
          refine a_istore_n (pc := 34) (q := 3) (i := 3) (lv' := [(3, vi (Int.tdiv (aiS G p t) (G 52 t))), (4, vi ((t : Int))), (0, .ref 50), (1, vi ((p : Int))), (2, vi ((s : Int)))]) hC (by decide +kernel) rfl (by decide) rfl ?_
          refine a_iinc (pc := 35) (i := 4) (c := 1) (x := (t : Int)) (lv' := [(4, vi (((t : Int)) + 1)), (3, vi (Int.tdiv (aiS G p t) (G 52 t))), (0, .ref 50), (1, vi ((p : Int))), (2, vi ((s : Int)))]) hC (by decide +kernel) 1 rfl (by decide) rfl ?_
          refine a_goto (pc := 38) (off := -33) hC 5 (by decide +kernel) (by decide) ?_
          refine a_sub (lv' := [(4, vi (((t + 1) : Int))), (3, vi (aiS G p (t + 1))), (0, .ref 50), (1, vi ((p : Int))), (2, vi ((s : Int)))]) [0, 1, 2, 3, 4] (by rw [← hst]; rfl) ?_
          exact ih5 (t + 1) (by omega) (by omega)
        · skip
          have hst : aiS G p t = aiS G p (t + 1) := by show _ = (if _ then _ else _); rw [if_pos c18]
          refine a_iload_n (pc := 21) (q := 3) (i := 3) (x := aiS G p t) hC (by decide +kernel) rfl 1 rfl ?_
          refine a_goto (pc := 22) (off := 12) hC 34 (by decide +kernel) (by decide) ?_
          refine a_istore_n (pc := 34) (q := 3) (i := 3) (lv' := [(3, vi (aiS G p t)), (4, vi ((t : Int))), (0, .ref 50), (1, vi ((p : Int))), (2, vi ((s : Int)))]) hC (by decide +kernel) rfl (by decide) rfl ?_
          refine a_iinc (pc := 35) (i := 4) (c := 1) (x := (t : Int)) (lv' := [(4, vi (((t : Int)) + 1)), (3, vi (aiS G p t)), (0, .ref 50), (1, vi ((p : Int))), (2, vi ((s : Int)))]) hC (by decide +kernel) 1 rfl (by decide) rfl ?_
          refine a_goto (pc := 38) (off := -33) hC 5 (by decide +kernel) (by decide) ?_
          refine a_sub (lv' := [(4, vi (((t + 1) : Int))), (3, vi (aiS G p (t + 1))), (0, .ref 50), (1, vi ((p : Int))), (2, vi ((s : Int)))]) [0, 1, 2, 3, 4] (by rw [← hst]; rfl) ?_
          exact ih5 (t + 1) (by omega) (by omega)
  refine a_sub (lv' := [(4, vi ((0 : Int))), (3, vi (aiS G p 0)), (0, .ref 50), (1, vi ((p : Int))), (2, vi ((s : Int)))]) [0, 1, 2, 3, 4] rfl ?_
  exact L5 _ 0 (Nat.lt_succ_self _) (by omega)

set_option maxRecDepth 100000 in
set_option maxHeartbeats 4000000 in
theorem ct_M_fix (l : Launch) (D : va_G) (K : K5) (G : GT) (N s : Nat) (v : Int) (hN5 : N ≤ 5) (hs : s < 5) (hn : G 50 1 = (N : Int)) : Ct l D K y_M_fix c_M_fix 5 none 0 0 [.ref 50, vi ((s : Int)), vl v] G none (fixG G N s v) := by
  refine Ct.intro (by decide +kernel) (Nat.le_of_ble_eq_true rfl) ?_
  intro X hro hty hC hE
  refine a_iconst (pc := 0) (c := 0) hC (by decide +kernel) ?_
  refine a_istore (pc := 1) (q := 0) (i := 4) (lv' := [(4, vi 0), (0, .ref 50), (1, vi ((s : Int))), (2, vl v)]) hC (by decide +kernel) (by decide) rfl ?_
  have L3 : ∀ (fuel : Nat) (t : Nat), N - t < fuel → t ≤ N → AW X 5 0 0 3 [(4, vi ((t : Int))), (0, .ref 50), (1, vi ((s : Int))), (2, vl v)] [] (hp K (uG G 56 (fxF (G 56) s t))) := by
    intro fuel
    induction fuel with
    | zero => intro t h; exact absurd h (Nat.not_lt_zero _)
    | succ fuel ih3 =>
      intro t hm ht
      refine a_iload (pc := 3) (i := 4) (x := (t : Int)) hC (by decide +kernel) 0 rfl ?_
      refine a_aload_n (pc := 5) (q := 0) (i := 0) (x := 50) hC (by decide +kernel) rfl 1 rfl ?_
      refine g_get (pc := 6) (idx := 72) (ci := 6) (v := vi ((uG G 56 (fxF (G 56) s t)) 50 1)) hC 50 1 (by decide +kernel) rfl rfl rfl rfl wrM (by decide) rfl (by decide +kernel) ?_
      refine g_top (y := (N : Int)) (by rw [uG_n _ _ (by decide)]; exact hn) ?_
      refine a_icmp_ge (pc := 9) (off := 31) hC 40 (by decide +kernel) (by decide) (by unfold inI; omega) (by unfold inI; omega) (fun c9 => ?_) (fun c9 => ?_)
      · skip
        refine a_aload_n (pc := 40) (q := 0) (i := 0) (x := 50) hC (by decide +kernel) rfl 1 rfl ?_
        refine g_get (pc := 41) (idx := 41) (ci := 6) (v := .ref 57) hC 50 12 (by decide +kernel) rfl rfl rfl rfl wrM (by decide) rfl (by decide +kernel) ?_
        refine a_iload_n (pc := 44) (q := 1) (i := 1) (x := (s : Int)) hC (by decide +kernel) rfl 2 rfl ?_
        refine a_lload_n (pc := 45) (q := 2) (i := 2) (x := v) hC (by decide +kernel) rfl 3 rfl ?_
        refine g_last (pc := 46) (a := 57) (j := s) (x := v) hC hty (by decide +kernel) rfl (by omega) (by first | decide | omega) ?_
        exact g_vret (pc := 47) hC hE (by decide +kernel) (by rw [show t = N by omega]; rfl)
      · skip
        refine a_aload_n (pc := 12) (q := 0) (i := 0) (x := 50) hC (by decide +kernel) rfl 1 rfl ?_
        refine g_get (pc := 13) (idx := 37) (ci := 6) (v := .ref 56) hC 50 11 (by decide +kernel) rfl rfl rfl rfl wrM (by decide) rfl (by decide +kernel) ?_
        refine a_iconst (pc := 16) (c := 5) hC (by decide +kernel) ?_
        refine a_iload_n (pc := 17) (q := 1) (i := 1) (x := (s : Int)) hC (by decide +kernel) rfl 2 rfl ?_
        refine a_imul (pc := 18) hC (by decide +kernel) ?_
        refine a_iload (pc := 19) (i := 4) (x := (t : Int)) hC (by decide +kernel) 0 rfl ?_
        refine a_iadd (pc := 21) hC (by decide +kernel) ?_
        refine a_iload (pc := 22) (i := 4) (x := (t : Int)) hC (by decide +kernel) 0 rfl ?_
        refine a_iload_n (pc := 24) (q := 1) (i := 1) (x := (s : Int)) hC (by decide +kernel) rfl 2 rfl ?_
        refine a_icmp_ne (pc := 25) (off := 7) hC 32 (by decide +kernel) (by decide) (by unfold inI; omega) (by unfold inI; omega) (fun c25 => ?_) (fun c25 => ?_)
        · skip
          have hx : (0 : Int) = if t = s then 1 else 0 := by rw [if_neg (by omega)]
          refine a_lconst (pc := 32) (c := 0) (z := 0) hC (by decide +kernel) rfl ?_
          refine g_snd (y := ((5 * s + t : Nat) : Int)) (by omega) ?_
          refine g_last (pc := 33) (a := 56) (j := 5 * s + t) (x := 0) hC hty (by decide +kernel) rfl (by omega) (by first | decide | omega) ?_
          refine a_iinc (pc := 34) (i := 4) (c := 1) (x := (t : Int)) (lv' := [(4, vi (((t : Int)) + 1)), (0, .ref 50), (1, vi ((s : Int))), (2, vl v)]) hC (by decide +kernel) 0 rfl (by decide) rfl ?_
          refine a_goto (pc := 37) (off := -34) hC 3 (by decide +kernel) (by decide) ?_
          refine a_sub (lv' := [(4, vi (((t + 1) : Int))), (0, .ref 50), (1, vi ((s : Int))), (2, vl v)]) [0, 1, 2, 3] rfl ?_
          refine g_G (G' := uG G 56 (fxF (G 56) s (t + 1))) (by rw [uG_s, uG_uG, fxF_s _ _ _ _ hx]) ?_
          exact ih3 (t + 1) (by omega) (by omega)
        · skip
          have hx : (1 : Int) = if t = s then 1 else 0 := by rw [if_pos (by omega)]
          refine a_lconst (pc := 28) (c := 1) (z := 1) hC (by decide +kernel) rfl ?_
          refine a_goto (pc := 29) (off := 4) hC 33 (by decide +kernel) (by decide) ?_
          refine g_snd (y := ((5 * s + t : Nat) : Int)) (by omega) ?_
          refine g_last (pc := 33) (a := 56) (j := 5 * s + t) (x := 1) hC hty (by decide +kernel) rfl (by omega) (by first | decide | omega) ?_
          refine a_iinc (pc := 34) (i := 4) (c := 1) (x := (t : Int)) (lv' := [(4, vi (((t : Int)) + 1)), (0, .ref 50), (1, vi ((s : Int))), (2, vl v)]) hC (by decide +kernel) 0 rfl (by decide) rfl ?_
          refine a_goto (pc := 37) (off := -34) hC 3 (by decide +kernel) (by decide) ?_
          refine a_sub (lv' := [(4, vi (((t + 1) : Int))), (0, .ref 50), (1, vi ((s : Int))), (2, vl v)]) [0, 1, 2, 3] rfl ?_
          refine g_G (G' := uG G 56 (fxF (G 56) s (t + 1))) (by rw [uG_s, uG_uG, fxF_s _ _ _ _ hx]) ?_
          exact ih3 (t + 1) (by omega) (by omega)
  refine a_sub (lv' := [(4, vi ((0 : Int))), (0, .ref 50), (1, vi ((s : Int))), (2, vl v)]) [0, 1, 2, 3] rfl ?_
  refine g_G (G' := uG G 56 (fxF (G 56) s 0)) (by rw [fxF_0, uG_self]) ?_
  exact L3 _ 0 (Nat.lt_succ_self _) (by omega)

set_option maxRecDepth 100000 in
set_option maxHeartbeats 4000000 in
theorem ct_M_layWorth_none (l : Launch) (D : va_G) (K : K5) (G : GT) (N s : Nat) (hs : s < 5) (hmm : MM G N) : Ct l D K y_M_layWorth c_M_layWorth 5 none 2 47 [.ref 50, vi ((s : Int)), vi (-1)] G none (lwG G N s (-1)) := by
  refine Ct.intro (by decide +kernel) (Nat.le_of_ble_eq_true rfl) ?_
  intro X hro hty hC hE
  obtain ⟨hn, hN5, hsh, hac, hpa, hwe, hth, hch⟩ := id hmm
  refine a_iload_n (pc := 0) (q := 2) (i := 2) (x := -1) hC (by decide +kernel) rfl 2 rfl ?_
  refine a_iconst (pc := 1) (c := -1) hC (by decide +kernel) ?_
  refine a_icmp_eq (pc := 2) (off := 12) hC 14 (by decide +kernel) (by decide) (by unfold inI; omega) (by unfold inI; omega) (fun c2 => ?_) (fun c2 => ?_)
  · skip
    refine a_aload_n (pc := 14) (q := 0) (i := 0) (x := 50) hC (by decide +kernel) rfl 0 rfl ?_
    refine a_iload_n (pc := 15) (q := 1) (i := 1) (x := (s : Int)) hC (by decide +kernel) rfl 1 rfl ?_
    refine a_iload_n (pc := 16) (q := 2) (i := 2) (x := -1) hC (by decide +kernel) rfl 2 rfl ?_
    refine a_iconst (pc := 17) (c := -1) hC (by decide +kernel) ?_
    refine a_icmp_ne (pc := 18) (off := 7) hC 25 (by decide +kernel) (by decide) (by unfold inI; omega) (by unfold inI; omega) (fun c18 => ?_) (fun c18 => ?_)
    · skip
      exact absurd rfl c18
    · skip
      refine a_lconst (pc := 21) (c := 0) (z := 0) hC (by decide +kernel) rfl ?_
      refine a_goto (pc := 22) (off := 14) hC 36 (by decide +kernel) (by decide) ?_
      refine g_callV0 (pc := 36) (idx := 105) (i := 50) (av := [vi ((s : Int)), vl 0]) (rest := []) (g := fixG G N s 0) hC hro hty (by decide +kernel) rfl rfl k_M_fix (by decide +kernel) (by decide +kernel) (by decide +kernel) (ct_M_fix X.la X.dd K G N s 0 (by omega) (by omega) hn) rfl rfl (by decide) (by first | decide | simp [Value.category]) ?_
      exact g_vret (pc := 39) hC hE (by decide +kernel) rfl
  · skip
    exact absurd rfl c2

set_option maxRecDepth 100000 in
set_option maxHeartbeats 4000000 in
theorem ct_M_layWorth (l : Launch) (D : va_G) (K : K5) (G : GT) (N s a : Nat) (hs : s < 5) (ha : a < 3) (hmm : MM G N) : Ct l D K y_M_layWorth c_M_layWorth 5 none 2 47 [.ref 50, vi ((s : Int)), vi ((a : Int))] G none (lwG G N s (a : Int)) := by
  refine Ct.intro (by decide +kernel) (Nat.le_of_ble_eq_true rfl) ?_
  intro X hro hty hC hE
  obtain ⟨hn, hN5, hsh, hac, hpa, hwe, hth, hch⟩ := id hmm
  have htt := totZ_in hmm hs ha 5 (by omega)
  have hps := hpa (3 * s + a) (by omega)
  have hlw : lwG G N s (a : Int) = if totZ G s a 5 = 0 then fixG G N s (G 53 (3 * s + a)) else uG (uG G 56 (lwF G s a N)) 57 (up (G 57) s (byZ G s a * G 53 (3 * s + a))) := by unfold lwG; rw [if_neg (by omega)]; rfl
  have hby : 0 ≤ byZ G s a ∧ byZ G s a ≤ 180 := by
    have := mul_in (x := totZ G s a 5) (y := G 50 8) (A := 30) (B := 6) (by omega) (by omega) (by decide)
    have h2 : 0 ≤ totZ G s a 5 * G 50 8 := Int.mul_nonneg htt.1 (by omega)
    unfold byZ; rw [Int.mul_comm]; omega
  refine a_iload_n (pc := 0) (q := 2) (i := 2) (x := (a : Int)) hC (by decide +kernel) rfl 2 rfl ?_
  refine a_iconst (pc := 1) (c := -1) hC (by decide +kernel) ?_
  refine a_icmp_eq (pc := 2) (off := 12) hC 14 (by decide +kernel) (by decide) (by unfold inI; omega) (by unfold inI; omega) (fun c2 => ?_) (fun c2 => ?_)
  · skip
    exact absurd c2 (by omega)
  · skip
    refine a_aload_n (pc := 5) (q := 0) (i := 0) (x := 50) hC (by decide +kernel) rfl 0 rfl ?_
    refine a_iload_n (pc := 6) (q := 1) (i := 1) (x := (s : Int)) hC (by decide +kernel) rfl 1 rfl ?_
    refine a_iload_n (pc := 7) (q := 2) (i := 2) (x := (a : Int)) hC (by decide +kernel) rfl 2 rfl ?_
    refine g_callV (pc := 8) (idx := 97) (i := 50) (av := [vi ((s : Int)), vi ((a : Int))]) (rest := []) (g := G) (v := vi (totZ G s a 5)) hC hro hty (by decide +kernel) rfl rfl k_M_total (by decide +kernel) (by decide +kernel) (by decide +kernel) (ct_M_total X.la X.dd K G s a (by omega) (by omega)) rfl rfl (by decide) (by first | decide | simp [Value.category]) ?_
    refine a_if_ne (pc := 11) (off := 29) hC 40 (by decide +kernel) (by decide) (by unfold inI; omega) (fun c11 => ?_) (fun c11 => ?_)
    · skip
      refine a_aload_n (pc := 40) (q := 0) (i := 0) (x := 50) hC (by decide +kernel) rfl 0 rfl ?_
      refine g_get (pc := 41) (idx := 30) (ci := 6) (v := vi (G 50 8)) hC 50 8 (by decide +kernel) rfl rfl rfl rfl wrM (by decide) rfl (by decide +kernel) ?_
      refine a_aload_n (pc := 44) (q := 0) (i := 0) (x := 50) hC (by decide +kernel) rfl 0 rfl ?_
      refine a_iload_n (pc := 45) (q := 1) (i := 1) (x := (s : Int)) hC (by decide +kernel) rfl 1 rfl ?_
      refine a_iload_n (pc := 46) (q := 2) (i := 2) (x := (a : Int)) hC (by decide +kernel) rfl 2 rfl ?_
      refine g_callV (pc := 47) (idx := 97) (i := 50) (av := [vi ((s : Int)), vi ((a : Int))]) (rest := [vi (G 50 8)]) (g := G) (v := vi (totZ G s a 5)) hC hro hty (by decide +kernel) rfl rfl k_M_total (by decide +kernel) (by decide +kernel) (by decide +kernel) (ct_M_total X.la X.dd K G s a (by omega) (by omega)) rfl rfl (by decide) (by first | decide | simp [Value.category]) ?_
      refine a_imul (pc := 50) hC (by decide +kernel) ?_
      refine g_top (y := byZ G s a) rfl ?_
      refine a_istore_n (pc := 51) (q := 3) (i := 3) (lv' := [(3, vi (byZ G s a)), (0, .ref 50), (1, vi ((s : Int))), (2, vi ((a : Int)))]) hC (by decide +kernel) rfl (by decide) rfl ?_
      refine a_iconst (pc := 52) (c := 0) hC (by decide +kernel) ?_
      refine a_istore (pc := 53) (q := 0) (i := 4) (lv' := [(4, vi 0), (3, vi (byZ G s a)), (0, .ref 50), (1, vi ((s : Int))), (2, vi ((a : Int)))]) hC (by decide +kernel) (by decide) rfl ?_
      have L55 : ∀ (fuel : Nat) (t : Nat), N - t < fuel → t ≤ N → AW X 5 0 0 55 [(4, vi ((t : Int))), (3, vi (byZ G s a)), (0, .ref 50), (1, vi ((s : Int))), (2, vi ((a : Int)))] [] (hp K (uG G 56 (lwF G s a t))) := by
        intro fuel
        induction fuel with
        | zero => intro t h; exact absurd h (Nat.not_lt_zero _)
        | succ fuel ih55 =>
          intro t hm ht
          refine a_iload (pc := 55) (i := 4) (x := (t : Int)) hC (by decide +kernel) 0 rfl ?_
          refine a_aload_n (pc := 57) (q := 0) (i := 0) (x := 50) hC (by decide +kernel) rfl 2 rfl ?_
          refine g_get (pc := 58) (idx := 72) (ci := 6) (v := vi ((uG G 56 (lwF G s a t)) 50 1)) hC 50 1 (by decide +kernel) rfl rfl rfl rfl wrM (by decide) rfl (by decide +kernel) ?_
          refine g_top (y := (N : Int)) (by rw [uG_n _ _ (by decide)]; exact hn) ?_
          refine a_icmp_ge (pc := 61) (off := 46) hC 107 (by decide +kernel) (by decide) (by unfold inI; omega) (by unfold inI; omega) (fun c61 => ?_) (fun c61 => ?_)
          · skip
            refine a_aload_n (pc := 107) (q := 0) (i := 0) (x := 50) hC (by decide +kernel) rfl 2 rfl ?_
            refine g_get (pc := 108) (idx := 41) (ci := 6) (v := .ref 57) hC 50 12 (by decide +kernel) rfl rfl rfl rfl wrM (by decide) rfl (by decide +kernel) ?_
            refine a_iload_n (pc := 111) (q := 1) (i := 1) (x := (s : Int)) hC (by decide +kernel) rfl 3 rfl ?_
            refine a_iload_n (pc := 112) (q := 3) (i := 3) (x := byZ G s a) hC (by decide +kernel) rfl 1 rfl ?_
            refine a_i2l (pc := 113) hC (by decide +kernel) (by unfold inI; omega) ?_
            refine a_aload_n (pc := 114) (q := 0) (i := 0) (x := 50) hC (by decide +kernel) rfl 2 rfl ?_
            refine g_get (pc := 115) (idx := 17) (ci := 6) (v := .ref 53) hC 50 4 (by decide +kernel) rfl rfl rfl rfl wrM (by decide) rfl (by decide +kernel) ?_
            refine a_iconst (pc := 118) (c := 3) hC (by decide +kernel) ?_
            refine a_iload_n (pc := 119) (q := 1) (i := 1) (x := (s : Int)) hC (by decide +kernel) rfl 3 rfl ?_
            refine a_imul (pc := 120) hC (by decide +kernel) ?_
            refine a_iload_n (pc := 121) (q := 2) (i := 2) (x := (a : Int)) hC (by decide +kernel) rfl 4 rfl ?_
            refine a_iadd (pc := 122) hC (by decide +kernel) ?_
            refine g_top (y := ((3 * s + a : Nat) : Int)) (by omega) ?_
            refine g_iald (pc := 123) (a := 53) (j := 3 * s + a) hC hty (by decide +kernel) rfl (by omega) (by first | decide | omega) ?_
            refine g_top (y := G 53 (3 * s + a)) (by rw [uG_n _ _ (by decide)]) ?_
            refine a_i2l (pc := 124) hC (by decide +kernel) (by unfold inI; omega) ?_
            refine a_lmul (pc := 125) hC (by decide +kernel) ?_
            refine g_last (pc := 126) (a := 57) (j := s) (x := (byZ G s a) * (G 53 (3 * s + a))) hC hty (by decide +kernel) rfl (by omega) (by first | decide | omega) ?_
            exact g_vret (pc := 127) hC hE (by decide +kernel) (by rw [hlw, if_neg c11, show t = N by omega]; rfl)
          · skip
            have hwt := hwe (wIx s a t) (by unfold wIx; omega)
            have hmu := mul_in (x := G 54 (wIx s a t)) (y := G 50 7) (A := 6) (B := 6) (by omega) (by omega) (by decide)
            have hmu2 : G 50 7 * G 54 (wIx s a t) = G 54 (wIx s a t) * G 50 7 := Int.mul_comm _ _
            refine a_aload_n (pc := 64) (q := 0) (i := 0) (x := 50) hC (by decide +kernel) rfl 2 rfl ?_
            refine g_get (pc := 65) (idx := 37) (ci := 6) (v := .ref 56) hC 50 11 (by decide +kernel) rfl rfl rfl rfl wrM (by decide) rfl (by decide +kernel) ?_
            refine a_iconst (pc := 68) (c := 5) hC (by decide +kernel) ?_
            refine a_iload_n (pc := 69) (q := 1) (i := 1) (x := (s : Int)) hC (by decide +kernel) rfl 3 rfl ?_
            refine a_imul (pc := 70) hC (by decide +kernel) ?_
            refine a_iload (pc := 71) (i := 4) (x := (t : Int)) hC (by decide +kernel) 0 rfl ?_
            refine a_iadd (pc := 73) hC (by decide +kernel) ?_
            refine a_iload (pc := 74) (i := 4) (x := (t : Int)) hC (by decide +kernel) 0 rfl ?_
            refine a_iload_n (pc := 76) (q := 1) (i := 1) (x := (s : Int)) hC (by decide +kernel) rfl 3 rfl ?_
            refine a_icmp_ne (pc := 77) (off := 7) hC 84 (by decide +kernel) (by decide) (by unfold inI; omega) (by unfold inI; omega) (fun c77 => ?_) (fun c77 => ?_)
            · skip
              refine a_iconst (pc := 84) (c := 0) hC (by decide +kernel) ?_
              refine a_aload_n (pc := 85) (q := 0) (i := 0) (x := 50) hC (by decide +kernel) rfl 2 rfl ?_
              refine g_get (pc := 86) (idx := 26) (ci := 6) (v := vi ((uG G 56 (lwF G s a t)) 50 7)) hC 50 7 (by decide +kernel) rfl rfl rfl rfl wrM (by decide) rfl (by decide +kernel) ?_
              refine g_top (y := G 50 7) (by rw [uG_n _ _ (by decide)]) ?_
              refine a_aload_n (pc := 89) (q := 0) (i := 0) (x := 50) hC (by decide +kernel) rfl 2 rfl ?_
              refine a_iload_n (pc := 90) (q := 1) (i := 1) (x := (s : Int)) hC (by decide +kernel) rfl 3 rfl ?_
              refine a_iload_n (pc := 91) (q := 2) (i := 2) (x := (a : Int)) hC (by decide +kernel) rfl 4 rfl ?_
              refine a_iload (pc := 92) (i := 4) (x := (t : Int)) hC (by decide +kernel) 0 rfl ?_
              refine g_callV (pc := 94) (idx := 83) (i := 50) (av := [vi ((s : Int)), vi ((a : Int)), vi ((t : Int))]) (rest := [vi (G 50 7), vi 0, vi ((5 * ((s : Int))) + ((t : Int))), .ref 56]) (g := uG G 56 (lwF G s a t)) (v := vi ((uG G 56 (lwF G s a t)) 54 (wIx s a t))) hC hro hty (by decide +kernel) rfl rfl k_M_weightOf (by decide +kernel) (by decide +kernel) (by decide +kernel) (ct_M_weightOf X.la X.dd K (uG G 56 (lwF G s a t)) s a t (by omega) (by omega) (by omega)) rfl rfl (by decide) (by first | decide | simp [Value.category]) ?_
              refine g_top (y := G 54 (wIx s a t)) (by rw [uG_n _ _ (by decide)]) ?_
              refine a_imul (pc := 97) hC (by decide +kernel) ?_
              refine a_isub (pc := 98) hC (by decide +kernel) ?_
              refine g_top (y := lwX G s a t) (by unfold lwX; first | rw [if_pos (by omega)] | rw [if_neg (by omega)]) ?_
              refine a_i2l (pc := 99) hC (by decide +kernel) (by unfold inI lwX; split <;> omega) ?_
              refine g_snd (y := ((5 * s + t : Nat) : Int)) (by omega) ?_
              refine g_last (pc := 100) (a := 56) (j := 5 * s + t) (x := lwX G s a t) hC hty (by decide +kernel) rfl (by omega) (by first | decide | omega) ?_
              refine a_iinc (pc := 101) (i := 4) (c := 1) (x := (t : Int)) (lv' := [(4, vi (((t : Int)) + 1)), (3, vi (byZ G s a)), (0, .ref 50), (1, vi ((s : Int))), (2, vi ((a : Int)))]) hC (by decide +kernel) 0 rfl (by decide) rfl ?_
              refine a_goto (pc := 104) (off := -49) hC 55 (by decide +kernel) (by decide) ?_
              refine a_sub (lv' := [(4, vi (((t + 1) : Int))), (3, vi (byZ G s a)), (0, .ref 50), (1, vi ((s : Int))), (2, vi ((a : Int)))]) [0, 1, 2, 3, 4] rfl ?_
              refine g_G (G' := uG G 56 (lwF G s a (t + 1))) (by rw [uG_s, uG_uG, lwF_s]) ?_
              exact ih55 (t + 1) (by omega) (by omega)
            · skip
              refine a_iload_n (pc := 80) (q := 3) (i := 3) (x := byZ G s a) hC (by decide +kernel) rfl 1 rfl ?_
              refine a_goto (pc := 81) (off := 4) hC 85 (by decide +kernel) (by decide) ?_
              refine a_aload_n (pc := 85) (q := 0) (i := 0) (x := 50) hC (by decide +kernel) rfl 2 rfl ?_
              refine g_get (pc := 86) (idx := 26) (ci := 6) (v := vi ((uG G 56 (lwF G s a t)) 50 7)) hC 50 7 (by decide +kernel) rfl rfl rfl rfl wrM (by decide) rfl (by decide +kernel) ?_
              refine g_top (y := G 50 7) (by rw [uG_n _ _ (by decide)]) ?_
              refine a_aload_n (pc := 89) (q := 0) (i := 0) (x := 50) hC (by decide +kernel) rfl 2 rfl ?_
              refine a_iload_n (pc := 90) (q := 1) (i := 1) (x := (s : Int)) hC (by decide +kernel) rfl 3 rfl ?_
              refine a_iload_n (pc := 91) (q := 2) (i := 2) (x := (a : Int)) hC (by decide +kernel) rfl 4 rfl ?_
              refine a_iload (pc := 92) (i := 4) (x := (t : Int)) hC (by decide +kernel) 0 rfl ?_
              refine g_callV (pc := 94) (idx := 83) (i := 50) (av := [vi ((s : Int)), vi ((a : Int)), vi ((t : Int))]) (rest := [vi (G 50 7), vi (byZ G s a), vi ((5 * ((s : Int))) + ((t : Int))), .ref 56]) (g := uG G 56 (lwF G s a t)) (v := vi ((uG G 56 (lwF G s a t)) 54 (wIx s a t))) hC hro hty (by decide +kernel) rfl rfl k_M_weightOf (by decide +kernel) (by decide +kernel) (by decide +kernel) (ct_M_weightOf X.la X.dd K (uG G 56 (lwF G s a t)) s a t (by omega) (by omega) (by omega)) rfl rfl (by decide) (by first | decide | simp [Value.category]) ?_
              refine g_top (y := G 54 (wIx s a t)) (by rw [uG_n _ _ (by decide)]) ?_
              refine a_imul (pc := 97) hC (by decide +kernel) ?_
              refine a_isub (pc := 98) hC (by decide +kernel) ?_
              refine g_top (y := lwX G s a t) (by unfold lwX; first | rw [if_pos (by omega)] | rw [if_neg (by omega)]) ?_
              refine a_i2l (pc := 99) hC (by decide +kernel) (by unfold inI lwX; split <;> omega) ?_
              refine g_snd (y := ((5 * s + t : Nat) : Int)) (by omega) ?_
              refine g_last (pc := 100) (a := 56) (j := 5 * s + t) (x := lwX G s a t) hC hty (by decide +kernel) rfl (by omega) (by first | decide | omega) ?_
              refine a_iinc (pc := 101) (i := 4) (c := 1) (x := (t : Int)) (lv' := [(4, vi (((t : Int)) + 1)), (3, vi (byZ G s a)), (0, .ref 50), (1, vi ((s : Int))), (2, vi ((a : Int)))]) hC (by decide +kernel) 0 rfl (by decide) rfl ?_
              refine a_goto (pc := 104) (off := -49) hC 55 (by decide +kernel) (by decide) ?_
              refine a_sub (lv' := [(4, vi (((t + 1) : Int))), (3, vi (byZ G s a)), (0, .ref 50), (1, vi ((s : Int))), (2, vi ((a : Int)))]) [0, 1, 2, 3, 4] rfl ?_
              refine g_G (G' := uG G 56 (lwF G s a (t + 1))) (by rw [uG_s, uG_uG, lwF_s]) ?_
              exact ih55 (t + 1) (by omega) (by omega)
      refine a_sub (lv' := [(4, vi ((0 : Int))), (3, vi (byZ G s a)), (0, .ref 50), (1, vi ((s : Int))), (2, vi ((a : Int)))]) [0, 1, 2, 3, 4] rfl ?_
      refine g_G (G' := uG G 56 (lwF G s a 0)) (by rw [lwF_0, uG_self]) ?_
      exact L55 _ 0 (Nat.lt_succ_self _) (by omega)
    · skip
      refine a_aload_n (pc := 14) (q := 0) (i := 0) (x := 50) hC (by decide +kernel) rfl 0 rfl ?_
      refine a_iload_n (pc := 15) (q := 1) (i := 1) (x := (s : Int)) hC (by decide +kernel) rfl 1 rfl ?_
      refine a_iload_n (pc := 16) (q := 2) (i := 2) (x := (a : Int)) hC (by decide +kernel) rfl 2 rfl ?_
      refine a_iconst (pc := 17) (c := -1) hC (by decide +kernel) ?_
      refine a_icmp_ne (pc := 18) (off := 7) hC 25 (by decide +kernel) (by decide) (by unfold inI; omega) (by unfold inI; omega) (fun c18 => ?_) (fun c18 => ?_)
      · skip
        refine a_aload_n (pc := 25) (q := 0) (i := 0) (x := 50) hC (by decide +kernel) rfl 0 rfl ?_
        refine g_get (pc := 26) (idx := 17) (ci := 6) (v := .ref 53) hC 50 4 (by decide +kernel) rfl rfl rfl rfl wrM (by decide) rfl (by decide +kernel) ?_
        refine a_iconst (pc := 29) (c := 3) hC (by decide +kernel) ?_
        refine a_iload_n (pc := 30) (q := 1) (i := 1) (x := (s : Int)) hC (by decide +kernel) rfl 1 rfl ?_
        refine a_imul (pc := 31) hC (by decide +kernel) ?_
        refine a_iload_n (pc := 32) (q := 2) (i := 2) (x := (a : Int)) hC (by decide +kernel) rfl 2 rfl ?_
        refine a_iadd (pc := 33) hC (by decide +kernel) ?_
        refine g_top (y := ((3 * s + a : Nat) : Int)) (by omega) ?_
        refine g_iald (pc := 34) (a := 53) (j := 3 * s + a) hC hty (by decide +kernel) rfl (by omega) (by first | decide | omega) ?_
        refine a_i2l (pc := 35) hC (by decide +kernel) (by unfold inI; omega) ?_
        refine g_callV0 (pc := 36) (idx := 105) (i := 50) (av := [vi ((s : Int)), vl (G 53 (3 * s + a))]) (rest := []) (g := fixG G N s (G 53 (3 * s + a))) hC hro hty (by decide +kernel) rfl rfl k_M_fix (by decide +kernel) (by decide +kernel) (by decide +kernel) (ct_M_fix X.la X.dd K G N s (G 53 (3 * s + a)) (by omega) (by omega) hn) rfl rfl (by decide) (by first | decide | simp [Value.category]) ?_
        exact g_vret (pc := 39) hC hE (by decide +kernel) (by rw [hlw, if_pos c11])
      · skip
        exact absurd c18 (by omega)
