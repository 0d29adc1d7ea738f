/-! the reference: its public methods that calculate -/
/-- the plans' numbers are those of worths -/
def RNum (G : GT) (N P : Nat) : Prop := P ≤ 243 ∧ ∀ p, p < P → (1 ≤ G 60 p ∧ G 60 p ≤ 60466176) ∧ ∀ s, s < N → -18139852800 ≤ G 59 (5 * p + s) ∧ G 59 (5 * p + s) ≤ 18139852800
theorem RNum.cm {G : GT} {N P : Nat} (h : RNum G N P) : CmOk G N P := ⟨h.1, fun s p q hs hp hq => by
  have h1 := (h.2 p hp).2 s hs
  have h2 := (h.2 q hq).1
  have := mul_in (x := G 59 (5 * p + s)) (y := G 60 q) (A := 18139852800) (B := 60466176) h1 (by omega) (by decide)
  unfold inL; omega⟩
theorem RNum.congr {G G' : GT} {N P : Nat} (h : RNum G N P) (h1 : G' 59 = G 59) (h2 : G' 60 = G 60) : RNum G' N P := ⟨h.1, fun p hp => by rw [h1, h2]; exact h.2 p hp⟩
/-- what the arithmetic must give for the reference: all plans' numbers are in their ranges -/
def RefOk (G : GT) (N : Nat) : Prop := RNum (layP G N) N (nPl G N)
theorem layV_off {G : GT} {N b : Nat} (h : b ≠ 50) (h2 : b ≠ 61) : layV G N b = layP G N b := by unfold layV; rw [coG_n h]; exact uG_n _ _ h2
theorem layV_61 (G : GT) (N : Nat) : layV G N 61 = vaF (layP G N) N (nPl G N) N := by unfold layV; rw [coG_n (by decide)]; exact uG_s _ _ _
theorem layV_k {G : GT} {N k : Nat} (h : k ≠ 18) (h2 : k ≠ 19) (h3 : k ≠ 14) : layV G N 50 k = G 50 k := by
  unfold layV; rw [coG_k h h2]; show vaG G N 50 k = _; unfold vaG; rw [uG_n _ _ (by decide), layP_50, pl0_k h3]
theorem MM.layV {G : GT} {N : Nat} (h : MM G N) : MM (layV G N) N := h.keep (fun a ha => by rw [layV_off (by omega) (by omega), layP_off (by omega)]) (fun k hk => layV_k (by omega) (by omega) (by omega))
theorem layV_va {G : GT} {N s : Nat} (hP : 1 ≤ nPl G N) (hs : s < N) : 0 ≤ layV G N 61 s ∧ layV G N 61 s < (nPl G N : Int) := by
  rw [layV_61]; unfold vaF; rw [if_pos hs]; exact ⟨vaS_nn _ hP, (vaS_in _ (Nat.le_refl _)).2⟩
theorem nPl_in {G : GT} {N : Nat} (h : MM G N) : 1 ≤ nPl G N ∧ nPl G N ≤ 243 ∧ plS G N = (nPl G N : Int) := by
  have := plS_243 h.2.2.2.1 h.2.1
  unfold nPl; omega
/-- the told plan's number is a plan's -/
theorem tpS_in {G : GT} {s a : Int} (hac : ∀ t, t < 5 → 0 ≤ G 52 t ∧ G 52 t ≤ 3) (hch : ∀ t, t < 5 → 0 < G 52 t → 0 ≤ G 55 t ∧ G 55 t < G 52 t) (ha : ∀ t : Nat, t < 5 → (t : Int) = s → 0 < G 52 t → 0 ≤ a ∧ a < G 52 t) : ∀ t, t ≤ 5 → (tpS G s a t).2 = plS G t ∧ 0 ≤ (tpS G s a t).1 ∧ (tpS G s a t).1 < plS G t
  | 0, _ => ⟨rfl, by show (0 : Int) ≤ 0; decide, by show (0 : Int) < 1; decide⟩
  | t + 1, ht => by
    have ih := tpS_in hac hch ha t (by omega)
    have h1 := hac t (by omega)
    have h2 := plS_in hac t (by omega)
    unfold tpS plS
    by_cases h0 : 0 < G 52 t
    · rw [if_pos h0, if_neg (show ¬ G 52 t = 0 by omega)]
      have hx : 0 ≤ (if (t : Int) = s then a else G 55 t) ∧ (if (t : Int) = s then a else G 55 t) < G 52 t := by
        split
        · next e => exact ha t (by omega) e h0
        · exact hch t (by omega) h0
      generalize (if (t : Int) = s then a else G 55 t) = x at hx ⊢
      refine ⟨by show (tpS G s a t).2 * G 52 t = _; rw [ih.1], ?_, ?_⟩
      · show 0 ≤ (tpS G s a t).1 + (tpS G s a t).2 * x
        rw [ih.1]
        have := Int.mul_nonneg (by omega : 0 ≤ plS G t) hx.1
        omega
      · show (tpS G s a t).1 + (tpS G s a t).2 * x < plS G t * G 52 t
        rw [ih.1]
        have h3 : plS G t * x ≤ plS G t * (G 52 t - 1) := Int.mul_le_mul_of_nonneg_left (by omega) (by omega)
        rw [Int.mul_sub, Int.mul_one] at h3
        omega
    · rw [if_neg h0, if_pos (show G 52 t = 0 by omega)]
      exact ih
/-- the chosen acts are acts -/
def ChOk (G : GT) : Prop := ∀ t, t < 5 → 0 < G 52 t → 0 ≤ G 55 t ∧ G 55 t < G 52 t
def tpN (G : GT) (N : Nat) (s a : Int) : Nat := (tpS G s a N).1.toNat
theorem tpS_congr {G G' : GT} (h2 : G' 52 = G 52) (h5 : G' 55 = G 55) (s a : Int) : ∀ t, tpS G' s a t = tpS G s a t
  | 0 => rfl
  | t + 1 => by unfold tpS; rw [tpS_congr h2 h5 s a t, h2, h5]
theorem plS_congr {G G' : GT} (h : G' 52 = G 52) : ∀ n, plS G' n = plS G n
  | 0 => rfl
  | n + 1 => by unfold plS; rw [plS_congr h n, h]

set_option maxRecDepth 100000 in
set_option maxHeartbeats 4000000 in
theorem ct_M_answerWorth (l : Launch) (D : va_G) (K : K5) (G : GT) (N P s p : Nat) (hs : s < N) (hN5 : N ≤ 5) (hp0 : p < P) (hrn : RNum G N P) : Ct l D K y_M_answerWorth c_M_answerWorth 3 (some .int) 2 55 [.ref 50, vi ((s : Int)), vi ((p : Int))] G (some (vi 1)) (mansG G (G 59 (5 * p + s)) (G 60 p)) := by
  refine Ct.intro (by decide +kernel) (Nat.le_of_ble_eq_true rfl) ?_
  intro X hro hty hC hE
  have hP := hrn.1
  have hr := hrn.2 p hp0
  have hra := abs_in (hr.2 s hs) (by decide)
  refine a_aload_n (pc := 0) (q := 0) (i := 0) (x := 50) hC (by decide +kernel) rfl 0 rfl ?_
  refine a_aload_n (pc := 1) (q := 0) (i := 0) (x := 50) hC (by decide +kernel) rfl 0 rfl ?_
  refine g_get (pc := 2) (idx := 47) (ci := 6) (v := .ref 59) hC 50 15 (by decide +kernel) rfl rfl rfl rfl wrM (by decide) rfl (by decide +kernel) ?_
  refine a_iconst (pc := 5) (c := 5) hC (by decide +kernel) ?_
  refine a_iload_n (pc := 6) (q := 2) (i := 2) (x := (p : Int)) hC (by decide +kernel) rfl 2 rfl ?_
  refine a_imul (pc := 7) hC (by decide +kernel) ?_
  refine a_iload_n (pc := 8) (q := 1) (i := 1) (x := (s : Int)) hC (by decide +kernel) rfl 1 rfl ?_
  refine a_iadd (pc := 9) hC (by decide +kernel) ?_
  refine g_top (y := ((5 * p + s : Nat) : Int)) (by omega) ?_
  refine g_lald (pc := 10) (a := 59) (j := 5 * p + s) hC hty (by decide +kernel) rfl (by omega) (by first | decide | omega) ?_
  refine a_aload_n (pc := 11) (q := 0) (i := 0) (x := 50) hC (by decide +kernel) rfl 0 rfl ?_
  refine g_get (pc := 12) (idx := 50) (ci := 6) (v := .ref 60) hC 50 16 (by decide +kernel) rfl rfl rfl rfl wrM (by decide) rfl (by decide +kernel) ?_
  refine a_iload_n (pc := 15) (q := 2) (i := 2) (x := (p : Int)) hC (by decide +kernel) rfl 2 rfl ?_
  refine g_lald (pc := 16) (a := 60) (j := p) hC hty (by decide +kernel) rfl (by omega) (by first | decide | omega) ?_
  refine g_callV (pc := 17) (idx := 149) (i := 50) (av := [vl (G 59 (5 * p + s)), vl (G 60 p)]) (rest := []) (g := mansG G (G 59 (5 * p + s)) (G 60 p)) (v := vi 1) hC hro hty (by decide +kernel) rfl rfl k_M_answer (by decide +kernel) (by decide +kernel) (by decide +kernel) (ct_M_answer X.la X.dd K G (G 59 (5 * p + s)) (G 60 p) hra ⟨hr.1.1, by have := hr.1; unfold inL; omega⟩) rfl rfl (by decide) (by first | decide | simp [Value.category]) ?_
  exact g_iret (pc := 20) hC hE (by decide +kernel) rfl rfl

set_option maxRecDepth 100000 in
set_option maxHeartbeats 4000000 in
theorem ct_M_value_no (l : Launch) (D : va_G) (K : K5) (G : GT) (N : Nat) (s : Int)  (hsi : inI s) (hmm : MM G N) (hno : mS G s = 0) : Ct l D K y_M_value c_M_value 2 (some .int) 5 117 [.ref 50, vi s] G (some (vi (-1))) (m0 G) := by
  refine Ct.intro (by decide +kernel) (Nat.le_of_ble_eq_true rfl) ?_
  intro X hro hty hC hE
  obtain ⟨hn, hN5, hsh, hac, hpa, hwe, hth, hch⟩ := id hmm
  refine a_aload_n (pc := 0) (q := 0) (i := 0) (x := 50) hC (by decide +kernel) rfl 0 rfl ?_
  refine a_iconst (pc := 1) (c := 0) hC (by decide +kernel) ?_
  refine g_put (pc := 2) (idx := 62) (ci := 6) (x := 0) hC 50 0 (by decide +kernel) rfl rfl (congrArg (fun z => vi z) (up_s _ _ _)) rfl wrM (by decide) rfl (by decide +kernel) rfl (ok_int _) ?_
  refine g_G (G' := m0 G) rfl ?_
  refine a_aload_n (pc := 5) (q := 0) (i := 0) (x := 50) hC (by decide +kernel) rfl 0 rfl ?_
  refine a_iload_n (pc := 6) (q := 1) (i := 1) (x := s) hC (by decide +kernel) rfl 1 rfl ?_
  refine g_callV (pc := 7) (idx := 79) (i := 50) (av := [vi s]) (rest := []) (g := m0 G) (v := vi (mS (m0 G) s)) hC hro hty (by decide +kernel) rfl rfl k_M_isState (by decide +kernel) (by decide +kernel) (by decide +kernel) (ct_M_isState X.la X.dd K (m0 G) N s hsi hmm.m0) rfl rfl (by decide) (by first | decide | simp [Value.category]) ?_
  refine g_top (y := mS G s) (mS_m0 _ _) ?_
  refine a_if_ne (pc := 10) (off := 5) hC 15 (by decide +kernel) (by decide) (by unfold inI; omega) (fun c10 => ?_) (fun c10 => ?_)
  · skip
    exact absurd hno c10
  · skip
    refine a_iconst (pc := 13) (c := -1) hC (by decide +kernel) ?_
    exact g_iret (pc := 14) hC hE (by decide +kernel) rfl rfl

set_option maxRecDepth 100000 in
set_option maxHeartbeats 4000000 in
theorem ct_M_value (l : Launch) (D : va_G) (K : K5) (G : GT) (N s : Nat) (hs : s < N) (hmm : MM G N) (hro0 : RefOk (m0 G) N) : Ct l D K y_M_value c_M_value 2 (some .int) 5 117 [.ref 50, vi ((s : Int))] G (some (vi 1)) (mansG (layV (m0 G) N) ((layV (m0 G) N) 59 (5 * ((layV (m0 G) N) 61 s).toNat + s)) ((layV (m0 G) N) 60 ((layV (m0 G) N) 61 s).toNat)) := by
  refine Ct.intro (by decide +kernel) (Nat.le_of_ble_eq_true rfl) ?_
  intro X hro hty hC hE
  obtain ⟨hn, hN5, hsh, hac, hpa, hwe, hth, hch⟩ := id hmm
  have hm1 := hmm.m0
  obtain ⟨hP1, hP2, hP3⟩ := nPl_in hm1
  obtain ⟨P, hPe⟩ : ∃ P : Nat, nPl (m0 G) N = P := ⟨_, rfl⟩
  have hrnV : RNum (layV (m0 G) N) N (nPl (m0 G) N) := hro0.congr (layV_off (by decide) (by decide)) (layV_off (by decide) (by decide))
  rw [hPe] at hP1 hP2 hP3 hrnV
  obtain ⟨v, hv, hvP⟩ : ∃ v : Nat, (layV (m0 G) N) 61 s = (v : Int) ∧ v < P := ⟨((layV (m0 G) N) 61 s).toNat, by have := layV_va (G := m0 G) (by omega) hs; omega, by have := layV_va (G := m0 G) (by omega) hs; omega⟩
  have hvn : ((layV (m0 G) N) 61 s).toNat = v := by omega
  refine a_aload_n (pc := 0) (q := 0) (i := 0) (x := 50) hC (by decide +kernel) rfl 0 rfl ?_
  refine a_iconst (pc := 1) (c := 0) hC (by decide +kernel) ?_
  refine g_put (pc := 2) (idx := 62) (ci := 6) (x := 0) hC 50 0 (by decide +kernel) rfl rfl (congrArg (fun z => vi z) (up_s _ _ _)) rfl wrM (by decide) rfl (by decide +kernel) rfl (ok_int _) ?_
  refine g_G (G' := m0 G) rfl ?_
  refine a_aload_n (pc := 5) (q := 0) (i := 0) (x := 50) hC (by decide +kernel) rfl 0 rfl ?_
  refine a_iload_n (pc := 6) (q := 1) (i := 1) (x := (s : Int)) hC (by decide +kernel) rfl 1 rfl ?_
  refine g_callV (pc := 7) (idx := 79) (i := 50) (av := [vi ((s : Int))]) (rest := []) (g := m0 G) (v := vi (mS (m0 G) ((s : Int)))) hC hro hty (by decide +kernel) rfl rfl k_M_isState (by decide +kernel) (by decide +kernel) (by decide +kernel) (ct_M_isState X.la X.dd K (m0 G) N ((s : Int)) (by unfold inI; omega) hmm.m0) rfl rfl (by decide) (by first | decide | simp [Value.category]) ?_
  refine g_top (y := 1) (by rw [mS_m0]; exact mS_ok hmm hs) ?_
  refine a_if_ne (pc := 10) (off := 5) hC 15 (by decide +kernel) (by decide) (by unfold inI; omega) (fun c10 => ?_) (fun c10 => ?_)
  · skip
    refine a_aload_n (pc := 15) (q := 0) (i := 0) (x := 50) hC (by decide +kernel) rfl 0 rfl ?_
    refine g_callV0 (pc := 16) (idx := 153) (i := 50) (av := []) (rest := []) (g := layV (m0 G) N) hC hro hty (by decide +kernel) rfl rfl k_M_layValues (by decide +kernel) (by decide +kernel) (by decide +kernel) (ct_M_layValues X.la X.dd K (m0 G) N hm1 hro0.cm) rfl rfl (by decide) (by first | decide | simp [Value.category]) ?_
    refine a_aload_n (pc := 19) (q := 0) (i := 0) (x := 50) hC (by decide +kernel) rfl 0 rfl ?_
    refine a_iload_n (pc := 20) (q := 1) (i := 1) (x := (s : Int)) hC (by decide +kernel) rfl 1 rfl ?_
    refine a_aload_n (pc := 21) (q := 0) (i := 0) (x := 50) hC (by decide +kernel) rfl 0 rfl ?_
    refine g_get (pc := 22) (idx := 53) (ci := 6) (v := .ref 61) hC 50 17 (by decide +kernel) rfl rfl rfl rfl wrM (by decide) rfl (by decide +kernel) ?_
    refine a_iload_n (pc := 25) (q := 1) (i := 1) (x := (s : Int)) hC (by decide +kernel) rfl 1 rfl ?_
    refine g_iald (pc := 26) (a := 61) (j := s) hC hty (by decide +kernel) rfl (by omega) (by first | decide | omega) ?_
    refine g_top (y := (v : Int)) hv ?_
    refine g_callV (pc := 27) (idx := 156) (i := 50) (av := [vi ((s : Int)), vi ((v : Int))]) (rest := []) (g := mansG (layV (m0 G) N) ((layV (m0 G) N) 59 (5 * v + s)) ((layV (m0 G) N) 60 v)) (v := vi 1) hC hro hty (by decide +kernel) rfl rfl k_M_answerWorth (by decide +kernel) (by decide +kernel) (by decide +kernel) (ct_M_answerWorth X.la X.dd K (layV (m0 G) N) N P s v (by omega) (by omega) (by omega) hrnV) rfl rfl (by decide) (by first | decide | simp [Value.category]) ?_
    exact g_iret (pc := 30) hC hE (by decide +kernel) rfl (by rw [hvn])
  · skip
    exact absurd c10 (by decide)

set_option maxRecDepth 100000 in
set_option maxHeartbeats 4000000 in
theorem ct_M_worth_no (l : Launch) (D : va_G) (K : K5) (G : GT) (N : Nat) (s : Int)  (hsi : inI s) (hmm : MM G N) (hno : mS G s = 0) : Ct l D K y_M_worth c_M_worth 2 (some .int) 4 93 [.ref 50, vi s] G (some (vi (-1))) (m0 G) := by
  refine Ct.intro (by decide +kernel) (Nat.le_of_ble_eq_true rfl) ?_
  intro X hro hty hC hE
  obtain ⟨hn, hN5, hsh, hac, hpa, hwe, hth, hch⟩ := id hmm
  refine a_aload_n (pc := 0) (q := 0) (i := 0) (x := 50) hC (by decide +kernel) rfl 0 rfl ?_
  refine a_iconst (pc := 1) (c := 0) hC (by decide +kernel) ?_
  refine g_put (pc := 2) (idx := 62) (ci := 6) (x := 0) hC 50 0 (by decide +kernel) rfl rfl (congrArg (fun z => vi z) (up_s _ _ _)) rfl wrM (by decide) rfl (by decide +kernel) rfl (ok_int _) ?_
  refine g_G (G' := m0 G) rfl ?_
  refine a_aload_n (pc := 5) (q := 0) (i := 0) (x := 50) hC (by decide +kernel) rfl 0 rfl ?_
  refine a_iload_n (pc := 6) (q := 1) (i := 1) (x := s) hC (by decide +kernel) rfl 1 rfl ?_
  refine g_callV (pc := 7) (idx := 79) (i := 50) (av := [vi s]) (rest := []) (g := m0 G) (v := vi (mS (m0 G) s)) hC hro hty (by decide +kernel) rfl rfl k_M_isState (by decide +kernel) (by decide +kernel) (by decide +kernel) (ct_M_isState X.la X.dd K (m0 G) N s hsi hmm.m0) rfl rfl (by decide) (by first | decide | simp [Value.category]) ?_
  refine g_top (y := mS G s) (mS_m0 _ _) ?_
  refine a_if_ne (pc := 10) (off := 5) hC 15 (by decide +kernel) (by decide) (by unfold inI; omega) (fun c10 => ?_) (fun c10 => ?_)
  · skip
    exact absurd hno c10
  · skip
    refine a_iconst (pc := 13) (c := -1) hC (by decide +kernel) ?_
    exact g_iret (pc := 14) hC hE (by decide +kernel) rfl rfl

set_option maxRecDepth 100000 in
set_option maxHeartbeats 4000000 in
theorem ct_M_worth (l : Launch) (D : va_G) (K : K5) (G : GT) (N s : Nat) (hs : s < N) (hmm : MM G N) (hch2 : ChOk G) (hro0 : RefOk (m0 G) N) : Ct l D K y_M_worth c_M_worth 2 (some .int) 4 93 [.ref 50, vi ((s : Int))] G (some (vi 1)) (mansG (layP (m0 G) N) ((layP (m0 G) N) 59 (5 * tpN G N (-1) 0 + s)) ((layP (m0 G) N) 60 (tpN G N (-1) 0))) := by
  refine Ct.intro (by decide +kernel) (Nat.le_of_ble_eq_true rfl) ?_
  intro X hro hty hC hE
  obtain ⟨hn, hN5, hsh, hac, hpa, hwe, hth, hch⟩ := id hmm
  have hm1 := hmm.m0
  obtain ⟨hP1, hP2, hP3⟩ := nPl_in hm1
  obtain ⟨P, hPe⟩ : ∃ P : Nat, nPl (m0 G) N = P := ⟨_, rfl⟩
  have hrnP : RNum (layP (m0 G) N) N (nPl (m0 G) N) := hro0
  rw [hPe] at hP1 hP2 hP3 hrnP
  have hpl0 : plS G N = (P : Int) := by rw [← hP3]; exact (plS_congr (m0_n (by decide)) N).symm
  obtain ⟨t, ht, htP⟩ : ∃ t : Nat, (tpS G (-1) 0 N).1 = (t : Int) ∧ t < P := ⟨(tpS G (-1) 0 N).1.toNat, by have := (tpS_in (s := (-1)) (a := 0) hac hch2 (fun t _ e _ => by omega) N hN5).2; omega, by have := (tpS_in (s := (-1)) (a := 0) hac hch2 (fun t _ e _ => by omega) N hN5).2; omega⟩
  have htn : tpN G N (-1) 0 = t := by unfold tpN; omega
  refine a_aload_n (pc := 0) (q := 0) (i := 0) (x := 50) hC (by decide +kernel) rfl 0 rfl ?_
  refine a_iconst (pc := 1) (c := 0) hC (by decide +kernel) ?_
  refine g_put (pc := 2) (idx := 62) (ci := 6) (x := 0) hC 50 0 (by decide +kernel) rfl rfl (congrArg (fun z => vi z) (up_s _ _ _)) rfl wrM (by decide) rfl (by decide +kernel) rfl (ok_int _) ?_
  refine g_G (G' := m0 G) rfl ?_
  refine a_aload_n (pc := 5) (q := 0) (i := 0) (x := 50) hC (by decide +kernel) rfl 0 rfl ?_
  refine a_iload_n (pc := 6) (q := 1) (i := 1) (x := (s : Int)) hC (by decide +kernel) rfl 1 rfl ?_
  refine g_callV (pc := 7) (idx := 79) (i := 50) (av := [vi ((s : Int))]) (rest := []) (g := m0 G) (v := vi (mS (m0 G) ((s : Int)))) hC hro hty (by decide +kernel) rfl rfl k_M_isState (by decide +kernel) (by decide +kernel) (by decide +kernel) (ct_M_isState X.la X.dd K (m0 G) N ((s : Int)) (by unfold inI; omega) hmm.m0) rfl rfl (by decide) (by first | decide | simp [Value.category]) ?_
  refine g_top (y := 1) (by rw [mS_m0]; exact mS_ok hmm hs) ?_
  refine a_if_ne (pc := 10) (off := 5) hC 15 (by decide +kernel) (by decide) (by unfold inI; omega) (fun c10 => ?_) (fun c10 => ?_)
  · skip
    refine a_aload_n (pc := 15) (q := 0) (i := 0) (x := 50) hC (by decide +kernel) rfl 0 rfl ?_
    refine g_callV0 (pc := 16) (idx := 130) (i := 50) (av := []) (rest := []) (g := layP (m0 G) N) hC hro hty (by decide +kernel) rfl rfl k_M_layPlans (by decide +kernel) (by decide +kernel) (by decide +kernel) (ct_M_layPlans X.la X.dd K (m0 G) N hm1) rfl rfl (by decide) (by first | decide | simp [Value.category]) ?_
    refine a_aload_n (pc := 19) (q := 0) (i := 0) (x := 50) hC (by decide +kernel) rfl 0 rfl ?_
    refine a_iload_n (pc := 20) (q := 1) (i := 1) (x := (s : Int)) hC (by decide +kernel) rfl 1 rfl ?_
    refine a_aload_n (pc := 21) (q := 0) (i := 0) (x := 50) hC (by decide +kernel) rfl 0 rfl ?_
    refine a_iconst (pc := 22) (c := -1) hC (by decide +kernel) ?_
    refine a_iconst (pc := 23) (c := 0) hC (by decide +kernel) ?_
    refine g_callV (pc := 24) (idx := 168) (i := 50) (av := [vi (-1), vi 0]) (rest := [vi ((s : Int)), .ref 50]) (g := layP (m0 G) N) (v := vi ((tpS (layP (m0 G) N) (-1) 0 N).1)) hC hro hty (by decide +kernel) rfl rfl k_M_toldPlan (by decide +kernel) (by decide +kernel) (by decide +kernel) (ct_M_toldPlan X.la X.dd K (layP (m0 G) N) N (-1) 0 ⟨by decide, by decide⟩ hm1.lay) rfl rfl (by decide) (by first | decide | simp [Value.category]) ?_
    refine g_top (y := (t : Int)) (by rw [tpS_congr (by rw [layP_off (by omega), m0_n (by decide)]) (by rw [layP_off (by omega), m0_n (by decide)])]; exact ht) ?_
    refine g_callV (pc := 27) (idx := 156) (i := 50) (av := [vi ((s : Int)), vi ((t : Int))]) (rest := []) (g := mansG (layP (m0 G) N) ((layP (m0 G) N) 59 (5 * t + s)) ((layP (m0 G) N) 60 t)) (v := vi 1) hC hro hty (by decide +kernel) rfl rfl k_M_answerWorth (by decide +kernel) (by decide +kernel) (by decide +kernel) (ct_M_answerWorth X.la X.dd K (layP (m0 G) N) N P s t (by omega) (by omega) (by omega) hrnP) rfl rfl (by decide) (by first | decide | simp [Value.category]) ?_
    exact g_iret (pc := 30) hC hE (by decide +kernel) rfl (by rw [htn])
  · skip
    exact absurd c10 (by decide)

set_option maxRecDepth 100000 in
set_option maxHeartbeats 4000000 in
theorem ct_M_settled (l : Launch) (D : va_G) (K : K5) (G : GT) (N : Nat) (hmm : MM G N) (hch2 : ChOk G) (hro0 : RefOk (m0 G) N) : Ct l D K y_M_settled c_M_settled 1 (some .int) 5 117 [.ref 50] G (some (vi (bZ (haS (layV (m0 G) N) (tpN G N (-1) 0) N)))) (layV (m0 G) N) := by
  refine Ct.intro (by decide +kernel) (Nat.le_of_ble_eq_true rfl) ?_
  intro X hro hty hC hE
  obtain ⟨hn, hN5, hsh, hac, hpa, hwe, hth, hch⟩ := id hmm
  have hm1 := hmm.m0
  obtain ⟨hP1, hP2, hP3⟩ := nPl_in hm1
  obtain ⟨P, hPe⟩ : ∃ P : Nat, nPl (m0 G) N = P := ⟨_, rfl⟩
  have hrnV : RNum (layV (m0 G) N) N (nPl (m0 G) N) := hro0.congr (layV_off (by decide) (by decide)) (layV_off (by decide) (by decide))
  rw [hPe] at hP1 hP2 hP3 hrnV
  have hpl0 : plS G N = (P : Int) := by rw [← hP3]; exact (plS_congr (m0_n (by decide)) N).symm
  obtain ⟨t, ht, htP⟩ : ∃ t : Nat, (tpS G (-1) 0 N).1 = (t : Int) ∧ t < P := ⟨(tpS G (-1) 0 N).1.toNat, by have := (tpS_in (s := (-1)) (a := 0) hac hch2 (fun t _ e _ => by omega) N hN5).2; omega, by have := (tpS_in (s := (-1)) (a := 0) hac hch2 (fun t _ e _ => by omega) N hN5).2; omega⟩
  have htn : tpN G N (-1) 0 = t := by unfold tpN; omega
  have hb1 := bZ_01 (haS (layV (m0 G) N) t N)
  refine a_aload_n (pc := 0) (q := 0) (i := 0) (x := 50) hC (by decide +kernel) rfl 0 rfl ?_
  refine a_iconst (pc := 1) (c := 0) hC (by decide +kernel) ?_
  refine g_put (pc := 2) (idx := 62) (ci := 6) (x := 0) hC 50 0 (by decide +kernel) rfl rfl (congrArg (fun z => vi z) (up_s _ _ _)) rfl wrM (by decide) rfl (by decide +kernel) rfl (ok_int _) ?_
  refine g_G (G' := m0 G) rfl ?_
  refine a_aload_n (pc := 5) (q := 0) (i := 0) (x := 50) hC (by decide +kernel) rfl 0 rfl ?_
  refine g_callV0 (pc := 6) (idx := 153) (i := 50) (av := []) (rest := []) (g := layV (m0 G) N) hC hro hty (by decide +kernel) rfl rfl k_M_layValues (by decide +kernel) (by decide +kernel) (by decide +kernel) (ct_M_layValues X.la X.dd K (m0 G) N hm1 hro0.cm) rfl rfl (by decide) (by first | decide | simp [Value.category]) ?_
  refine a_aload_n (pc := 9) (q := 0) (i := 0) (x := 50) hC (by decide +kernel) rfl 0 rfl ?_
  refine a_aload_n (pc := 10) (q := 0) (i := 0) (x := 50) hC (by decide +kernel) rfl 0 rfl ?_
  refine a_iconst (pc := 11) (c := -1) hC (by decide +kernel) ?_
  refine a_iconst (pc := 12) (c := 0) hC (by decide +kernel) ?_
  refine g_callV (pc := 13) (idx := 168) (i := 50) (av := [vi (-1), vi 0]) (rest := [.ref 50]) (g := layV (m0 G) N) (v := vi ((tpS (layV (m0 G) N) (-1) 0 N).1)) hC hro hty (by decide +kernel) rfl rfl k_M_toldPlan (by decide +kernel) (by decide +kernel) (by decide +kernel) (ct_M_toldPlan X.la X.dd K (layV (m0 G) N) N (-1) 0 ⟨by decide, by decide⟩ hm1.layV) rfl rfl (by decide) (by first | decide | simp [Value.category]) ?_
  refine g_top (y := (t : Int)) (by rw [tpS_congr (by rw [layV_off (by decide) (by decide), layP_off (by omega), m0_n (by decide)]) (by rw [layV_off (by decide) (by decide), layP_off (by omega), m0_n (by decide)])]; exact ht) ?_
  refine g_callV (pc := 16) (idx := 146) (i := 50) (av := [vi ((t : Int))]) (rest := []) (g := layV (m0 G) N) (v := vi (bZ (haS (layV (m0 G) N) t N))) hC hro hty (by decide +kernel) rfl rfl k_M_hasAllValues (by decide +kernel) (by decide +kernel) (by decide +kernel) (ct_M_hasAllValues X.la X.dd K (layV (m0 G) N) N P t htP hm1.layV hrnV.cm (fun z hz => by rw [← hPe]; exact layV_va (by omega) hz)) rfl rfl (by decide) (by first | decide | simp [Value.category]) ?_
  refine a_if_eq (pc := 19) (off := 7) hC 26 (by decide +kernel) (by decide) (by unfold inI; omega) (fun c19 => ?_) (fun c19 => ?_)
  · skip
    refine a_iconst (pc := 26) (c := 0) hC (by decide +kernel) ?_
    exact g_iret (pc := 27) hC hE (by decide +kernel) (by rw [htn]; omega) rfl
  · skip
    refine a_iconst (pc := 22) (c := 1) hC (by decide +kernel) ?_
    refine a_goto (pc := 23) (off := 4) hC 27 (by decide +kernel) (by decide) ?_
    exact g_iret (pc := 27) hC hE (by decide +kernel) (by rw [htn]; omega) rfl

set_option maxRecDepth 100000 in
set_option maxHeartbeats 4000000 in
theorem ct_M_upper (l : Launch) (D : va_G) (K : K5) (G : GT)  : Ct l D K y_M_upper c_M_upper 1 (some .long) 0 0 [.ref 50] G (some (vl (G 50 9))) (m0 G) := by
  refine Ct.intro (by decide +kernel) (Nat.le_of_ble_eq_true rfl) ?_
  intro X hro hty hC hE
  refine a_aload_n (pc := 0) (q := 0) (i := 0) (x := 50) hC (by decide +kernel) rfl 0 rfl ?_
  refine a_iconst (pc := 1) (c := 0) hC (by decide +kernel) ?_
  refine g_put (pc := 2) (idx := 62) (ci := 6) (x := 0) hC 50 0 (by decide +kernel) rfl rfl (congrArg (fun z => vi z) (up_s _ _ _)) rfl wrM (by decide) rfl (by decide +kernel) rfl (ok_int _) ?_
  refine g_G (G' := m0 G) rfl ?_
  refine a_aload_n (pc := 5) (q := 0) (i := 0) (x := 50) hC (by decide +kernel) rfl 0 rfl ?_
  refine g_get (pc := 6) (idx := 69) (ci := 6) (v := vl ((m0 G) 50 9)) hC 50 9 (by decide +kernel) rfl rfl rfl rfl wrM (by decide) rfl (by decide +kernel) ?_
  refine g_topl (y := G 50 9) (m0_k (by decide)) ?_
  exact g_lret (pc := 9) hC hE (by decide +kernel) rfl rfl

set_option maxRecDepth 100000 in
set_option maxHeartbeats 4000000 in
theorem ct_M_lower (l : Launch) (D : va_G) (K : K5) (G : GT)  : Ct l D K y_M_lower c_M_lower 1 (some .long) 0 0 [.ref 50] G (some (vl (G 50 10))) (m0 G) := by
  refine Ct.intro (by decide +kernel) (Nat.le_of_ble_eq_true rfl) ?_
  intro X hro hty hC hE
  refine a_aload_n (pc := 0) (q := 0) (i := 0) (x := 50) hC (by decide +kernel) rfl 0 rfl ?_
  refine a_iconst (pc := 1) (c := 0) hC (by decide +kernel) ?_
  refine g_put (pc := 2) (idx := 62) (ci := 6) (x := 0) hC 50 0 (by decide +kernel) rfl rfl (congrArg (fun z => vi z) (up_s _ _ _)) rfl wrM (by decide) rfl (by decide +kernel) rfl (ok_int _) ?_
  refine g_G (G' := m0 G) rfl ?_
  refine a_aload_n (pc := 5) (q := 0) (i := 0) (x := 50) hC (by decide +kernel) rfl 0 rfl ?_
  refine g_get (pc := 6) (idx := 33) (ci := 6) (v := vl ((m0 G) 50 10)) hC 50 10 (by decide +kernel) rfl rfl rfl rfl wrM (by decide) rfl (by decide +kernel) ?_
  refine g_topl (y := G 50 10) (m0_k (by decide)) ?_
  exact g_lret (pc := 9) hC hE (by decide +kernel) rfl rfl
