/-! the reference: reply, change, told -/
def mcS (L : GT) (G : GT) (N s : Nat) : Nat → Nat
  | 0 => 0
  | j + 1 => if G 51 s = 0 then (if 0 < cmU L s (tpN G N (s : Int) ((j + 1 : Nat) : Int)) (tpN G N (s : Int) ((mcS L G N s j : Nat) : Int)) then j + 1 else mcS L G N s j) else (if cmU L s (tpN G N (s : Int) ((j + 1 : Nat) : Int)) (tpN G N (s : Int) ((mcS L G N s j : Nat) : Int)) < 0 then j + 1 else mcS L G N s j)
theorem mcS_le (L G : GT) (N s : Nat) : ∀ j, mcS L G N s j ≤ j
  | 0 => Nat.le_refl _
  | j + 1 => by
    have ih := mcS_le L G N s j
    unfold mcS
    split
    · split <;> omega
    · split <;> omega
def sumM (G : GT) : Nat → Int
  | 0 => 0
  | s + 1 => sumM G s + G 52 s
def sumMT (G : GT) : Nat → Int
  | 0 => 0
  | s + 1 => sumMT G s + (if G 51 s = 0 then 0 else 1)

set_option maxRecDepth 100000 in
set_option maxHeartbeats 4000000 in
theorem ct_M_reply_no (l : Launch) (D : va_G) (K : K5) (G : GT) (N : Nat) (s : Int) (z : Int) (hsi : inI s) (hmm : MM G N) (hno : mS G s = 0) : Ct l D K y_M_reply c_M_reply 3 (some .int) 4 93 [.ref 50, vi s, vi z] G (some (vi (-1))) (m0 G) := by
  refine Ct.intro (by decide +kernel) (Nat.le_of_ble_eq_true rfl) ?_
  intro X hro hty hC hE
  obtain ⟨hn, hN5, hsh, hac, hpa, hwe, hth, hch⟩ := id hmm
  refine a_aload_n (pc := 0) (q := 0) (i := 0) (x := 50) hC (by decide +kernel) rfl 0 rfl ?_
  refine a_iconst (pc := 1) (c := 0) hC (by decide +kernel) ?_
  refine g_put (pc := 2) (idx := 62) (ci := 6) (x := 0) hC 50 0 (by decide +kernel) rfl rfl (congrArg (fun z => vi z) (up_s _ _ _)) rfl wrM (by decide) rfl (by decide +kernel) rfl (ok_int _) ?_
  refine g_G (G' := m0 G) rfl ?_
  refine a_aload_n (pc := 5) (q := 0) (i := 0) (x := 50) hC (by decide +kernel) rfl 0 rfl ?_
  refine a_iload_n (pc := 6) (q := 1) (i := 1) (x := s) hC (by decide +kernel) rfl 1 rfl ?_
  refine g_callV (pc := 7) (idx := 79) (i := 50) (av := [vi s]) (rest := []) (g := m0 G) (v := vi (mS (m0 G) s)) hC hro hty (by decide +kernel) rfl rfl k_M_isState (by decide +kernel) (by decide +kernel) (by decide +kernel) (ct_M_isState X.la X.dd K (m0 G) N s hsi hmm.m0) rfl rfl (by decide) (by first | decide | simp [Value.category]) ?_
  refine g_top (y := mS G s) (mS_m0 _ _) ?_
  refine a_if_ne (pc := 10) (off := 5) hC 15 (by decide +kernel) (by decide) (by unfold inI; omega) (fun c10 => ?_) (fun c10 => ?_)
  · skip
    exact absurd hno c10
  · skip
    refine a_iconst (pc := 13) (c := -1) hC (by decide +kernel) ?_
    exact g_iret (pc := 14) hC hE (by decide +kernel) rfl rfl

set_option maxRecDepth 100000 in
set_option maxHeartbeats 4000000 in
theorem ct_M_reply_bad (l : Launch) (D : va_G) (K : K5) (G : GT) (N s : Nat) (z : Int) (hs : s < N) (hzi : inI z) (hmm : MM G N) (hbad : ¬ (z = 0 ∨ z = 1)) : Ct l D K y_M_reply c_M_reply 3 (some .int) 4 93 [.ref 50, vi ((s : Int)), vi z] G (some (vi (-2))) (m0 G) := by
  refine Ct.intro (by decide +kernel) (Nat.le_of_ble_eq_true rfl) ?_
  intro X hro hty hC hE
  obtain ⟨hn, hN5, hsh, hac, hpa, hwe, hth, hch⟩ := id hmm
  unfold inI at hzi
  have h01 := inZ_01 z 0 1
  have hz0 : inZ z 0 1 = 0 := by unfold inZ; rw [if_neg (by omega)]
  refine a_aload_n (pc := 0) (q := 0) (i := 0) (x := 50) hC (by decide +kernel) rfl 0 rfl ?_
  refine a_iconst (pc := 1) (c := 0) hC (by decide +kernel) ?_
  refine g_put (pc := 2) (idx := 62) (ci := 6) (x := 0) hC 50 0 (by decide +kernel) rfl rfl (congrArg (fun z => vi z) (up_s _ _ _)) rfl wrM (by decide) rfl (by decide +kernel) rfl (ok_int _) ?_
  refine g_G (G' := m0 G) rfl ?_
  refine a_aload_n (pc := 5) (q := 0) (i := 0) (x := 50) hC (by decide +kernel) rfl 0 rfl ?_
  refine a_iload_n (pc := 6) (q := 1) (i := 1) (x := (s : Int)) hC (by decide +kernel) rfl 1 rfl ?_
  refine g_callV (pc := 7) (idx := 79) (i := 50) (av := [vi ((s : Int))]) (rest := []) (g := m0 G) (v := vi (mS (m0 G) ((s : Int)))) hC hro hty (by decide +kernel) rfl rfl k_M_isState (by decide +kernel) (by decide +kernel) (by decide +kernel) (ct_M_isState X.la X.dd K (m0 G) N ((s : Int)) (by unfold inI; omega) hmm.m0) rfl rfl (by decide) (by first | decide | simp [Value.category]) ?_
  refine g_top (y := 1) (by rw [mS_m0]; exact mS_ok hmm hs) ?_
  refine a_if_ne (pc := 10) (off := 5) hC 15 (by decide +kernel) (by decide) (by unfold inI; omega) (fun c10 => ?_) (fun c10 => ?_)
  · skip
    refine a_iload_n (pc := 15) (q := 2) (i := 2) (x := z) hC (by decide +kernel) rfl 2 rfl ?_
    refine a_i2l (pc := 16) hC (by decide +kernel) (by unfold inI; omega) ?_
    refine a_lconst (pc := 17) (c := 0) (z := 0) hC (by decide +kernel) rfl ?_
    refine a_lconst (pc := 18) (c := 1) (z := 1) hC (by decide +kernel) rfl ?_
    refine g_callS (pc := 19) (idx := 75) (av := [vl z, vl 0, vl 1]) (rest := []) (g := m0 G) (v := vi (inZ z 0 1)) hC hro hty (by decide +kernel) k_M_in (by decide +kernel) (by decide +kernel) (ct_M_in X.la X.dd K (m0 G) z 0 1 (by unfold inL; omega) (by unfold inL; omega) (by unfold inL; omega)) rfl rfl (by decide) (by first | decide | simp [Value.category]) ?_
    refine a_if_ne (pc := 22) (off := 6) hC 28 (by decide +kernel) (by decide) (by unfold inI; omega) (fun c22 => ?_) (fun c22 => ?_)
    · skip
      exact absurd hz0 c22
    · skip
      refine a_bipush (pc := 25) (c := -2) hC (by decide +kernel) (by decide +kernel) ?_
      exact g_iret (pc := 27) hC hE (by decide +kernel) rfl rfl
  · skip
    exact absurd c10 (by decide)

set_option maxRecDepth 100000 in
set_option maxHeartbeats 4000000 in
theorem ct_M_reply (l : Launch) (D : va_G) (K : K5) (G : GT) (N s : Nat) (hs : s < N) (hmm : MM G N) (hch2 : ChOk G) (hro0 : RefOk (m0 G) N) : Ct l D K y_M_reply c_M_reply 3 (some .int) 4 93 [.ref 50, vi ((s : Int)), vi 0] G (some (vi 1)) (mansG (layP (m0 G) N) ((layP (m0 G) N) 59 (5 * (utS (layP (m0 G) N) N s (tpN G N (-1) 0) 0 0 (nPl (m0 G) N)) + s)) ((layP (m0 G) N) 60 (utS (layP (m0 G) N) N s (tpN G N (-1) 0) 0 0 (nPl (m0 G) N)))) := by
  refine Ct.intro (by decide +kernel) (Nat.le_of_ble_eq_true rfl) ?_
  intro X hro hty hC hE
  obtain ⟨hn, hN5, hsh, hac, hpa, hwe, hth, hch⟩ := id hmm
  have hm1 := hmm.m0
  obtain ⟨hP1, hP2, hP3⟩ := nPl_in hm1
  obtain ⟨P, hPe⟩ : ∃ P : Nat, nPl (m0 G) N = P := ⟨_, rfl⟩
  have hrnP : RNum (layP (m0 G) N) N (nPl (m0 G) N) := hro0
  rw [hPe] at hP1 hP2 hP3 hrnP
  have hpl0 : plS G N = (P : Int) := by rw [← hP3]; exact (plS_congr (m0_n (by decide)) N).symm
  obtain ⟨t, ht, htP⟩ : ∃ t : Nat, (tpS G (-1) 0 N).1 = (t : Int) ∧ t < P := ⟨(tpS G (-1) 0 N).1.toNat, by have := (tpS_in (s := (-1)) (a := 0) hac hch2 (fun t _ e _ => by omega) N hN5).2; omega, by have := (tpS_in (s := (-1)) (a := 0) hac hch2 (fun t _ e _ => by omega) N hN5).2; omega⟩
  have htn : tpN G N (-1) 0 = t := by unfold tpN; omega
  have h14 : (layP (m0 G) N) 50 14 = (P : Int) := by rw [layP_50, pl0_p]; exact hP3
  have hul := utS_lt (G := (layP (m0 G) N)) (N := N) (s := s) (b := 0) (g := 0) htP P (Nat.le_refl _)
  refine a_aload_n (pc := 0) (q := 0) (i := 0) (x := 50) hC (by decide +kernel) rfl 0 rfl ?_
  refine a_iconst (pc := 1) (c := 0) hC (by decide +kernel) ?_
  refine g_put (pc := 2) (idx := 62) (ci := 6) (x := 0) hC 50 0 (by decide +kernel) rfl rfl (congrArg (fun z => vi z) (up_s _ _ _)) rfl wrM (by decide) rfl (by decide +kernel) rfl (ok_int _) ?_
  refine g_G (G' := m0 G) rfl ?_
  refine a_aload_n (pc := 5) (q := 0) (i := 0) (x := 50) hC (by decide +kernel) rfl 0 rfl ?_
  refine a_iload_n (pc := 6) (q := 1) (i := 1) (x := (s : Int)) hC (by decide +kernel) rfl 1 rfl ?_
  refine g_callV (pc := 7) (idx := 79) (i := 50) (av := [vi ((s : Int))]) (rest := []) (g := m0 G) (v := vi (mS (m0 G) ((s : Int)))) hC hro hty (by decide +kernel) rfl rfl k_M_isState (by decide +kernel) (by decide +kernel) (by decide +kernel) (ct_M_isState X.la X.dd K (m0 G) N ((s : Int)) (by unfold inI; omega) hmm.m0) rfl rfl (by decide) (by first | decide | simp [Value.category]) ?_
  refine g_top (y := 1) (by rw [mS_m0]; exact mS_ok hmm hs) ?_
  refine a_if_ne (pc := 10) (off := 5) hC 15 (by decide +kernel) (by decide) (by unfold inI; omega) (fun c10 => ?_) (fun c10 => ?_)
  · skip
    refine a_iload_n (pc := 15) (q := 2) (i := 2) (x := 0) hC (by decide +kernel) rfl 2 rfl ?_
    refine a_i2l (pc := 16) hC (by decide +kernel) (by unfold inI; omega) ?_
    refine a_lconst (pc := 17) (c := 0) (z := 0) hC (by decide +kernel) rfl ?_
    refine a_lconst (pc := 18) (c := 1) (z := 1) hC (by decide +kernel) rfl ?_
    refine g_callS (pc := 19) (idx := 75) (av := [vl 0, vl 0, vl 1]) (rest := []) (g := m0 G) (v := vi (inZ 0 0 1)) hC hro hty (by decide +kernel) k_M_in (by decide +kernel) (by decide +kernel) (ct_M_in X.la X.dd K (m0 G) 0 0 1 (by unfold inL; omega) (by unfold inL; omega) (by unfold inL; omega)) rfl rfl (by decide) (by first | decide | simp [Value.category]) ?_
    refine g_top (y := 1) (by decide) ?_
    refine a_if_ne (pc := 22) (off := 6) hC 28 (by decide +kernel) (by decide) (by unfold inI; omega) (fun c22 => ?_) (fun c22 => ?_)
    · skip
      refine a_aload_n (pc := 28) (q := 0) (i := 0) (x := 50) hC (by decide +kernel) rfl 0 rfl ?_
      refine g_callV0 (pc := 29) (idx := 130) (i := 50) (av := []) (rest := []) (g := layP (m0 G) N) hC hro hty (by decide +kernel) rfl rfl k_M_layPlans (by decide +kernel) (by decide +kernel) (by decide +kernel) (ct_M_layPlans X.la X.dd K (m0 G) N hm1) rfl rfl (by decide) (by first | decide | simp [Value.category]) ?_
      refine a_aload_n (pc := 32) (q := 0) (i := 0) (x := 50) hC (by decide +kernel) rfl 0 rfl ?_
      refine a_iload_n (pc := 33) (q := 1) (i := 1) (x := (s : Int)) hC (by decide +kernel) rfl 1 rfl ?_
      refine a_aload_n (pc := 34) (q := 0) (i := 0) (x := 50) hC (by decide +kernel) rfl 0 rfl ?_
      refine a_iload_n (pc := 35) (q := 1) (i := 1) (x := (s : Int)) hC (by decide +kernel) rfl 1 rfl ?_
      refine a_aload_n (pc := 36) (q := 0) (i := 0) (x := 50) hC (by decide +kernel) rfl 0 rfl ?_
      refine a_iconst (pc := 37) (c := -1) hC (by decide +kernel) ?_
      refine a_iconst (pc := 38) (c := 0) hC (by decide +kernel) ?_
      refine g_callV (pc := 39) (idx := 168) (i := 50) (av := [vi (-1), vi 0]) (rest := [vi ((s : Int)), .ref 50, vi ((s : Int)), .ref 50]) (g := layP (m0 G) N) (v := vi ((tpS (layP (m0 G) N) (-1) 0 N).1)) hC hro hty (by decide +kernel) rfl rfl k_M_toldPlan (by decide +kernel) (by decide +kernel) (by decide +kernel) (ct_M_toldPlan X.la X.dd K (layP (m0 G) N) N (-1) 0 ⟨by decide, by decide⟩ hm1.lay) rfl rfl (by decide) (by first | decide | simp [Value.category]) ?_
      refine g_top (y := (t : Int)) (by rw [tpS_congr (by rw [layP_off (by omega), m0_n (by decide)]) (by rw [layP_off (by omega), m0_n (by decide)])]; exact ht) ?_
      refine a_iload_n (pc := 42) (q := 2) (i := 2) (x := 0) hC (by decide +kernel) rfl 2 rfl ?_
      refine a_iconst (pc := 43) (c := 1) hC (by decide +kernel) ?_
      refine a_icmp_ne (pc := 44) (off := 7) hC 51 (by decide +kernel) (by decide) (by unfold inI; omega) (by unfold inI; omega) (fun c44 => ?_) (fun c44 => ?_)
      · skip
        refine a_iconst (pc := 51) (c := 0) hC (by decide +kernel) ?_
        refine a_iload_n (pc := 52) (q := 2) (i := 2) (x := 0) hC (by decide +kernel) rfl 2 rfl ?_
        refine a_iconst (pc := 53) (c := 1) hC (by decide +kernel) ?_
        refine a_icmp_ne (pc := 54) (off := 7) hC 61 (by decide +kernel) (by decide) (by unfold inI; omega) (by unfold inI; omega) (fun c54 => ?_) (fun c54 => ?_)
        · skip
          refine a_iconst (pc := 61) (c := 0) hC (by decide +kernel) ?_
          refine g_callV (pc := 62) (idx := 136) (i := 50) (av := [vi ((s : Int)), vi ((t : Int)), vi 0, vi 0]) (rest := [vi ((s : Int)), .ref 50]) (g := layP (m0 G) N) (v := vi ((((utS (layP (m0 G) N) N s t 0 0 P) : Nat) : Int))) hC hro hty (by decide +kernel) rfl rfl k_M_utmost (by decide +kernel) (by decide +kernel) (by decide +kernel) (ct_M_utmost X.la X.dd K (layP (m0 G) N) N P s t 0 0 (by decide) (by decide) hs htP h14 hm1.lay hrnP.cm) rfl rfl (by decide) (by first | decide | simp [Value.category]) ?_
          refine g_callV (pc := 65) (idx := 156) (i := 50) (av := [vi ((s : Int)), vi ((((utS (layP (m0 G) N) N s t 0 0 P) : Nat) : Int))]) (rest := []) (g := mansG (layP (m0 G) N) ((layP (m0 G) N) 59 (5 * ((utS (layP (m0 G) N) N s t 0 0 P)) + s)) ((layP (m0 G) N) 60 ((utS (layP (m0 G) N) N s t 0 0 P)))) (v := vi 1) hC hro hty (by decide +kernel) rfl rfl k_M_answerWorth (by decide +kernel) (by decide +kernel) (by decide +kernel) (ct_M_answerWorth X.la X.dd K (layP (m0 G) N) N P s ((utS (layP (m0 G) N) N s t 0 0 P)) (by omega) (by omega) (by omega) hrnP) rfl rfl (by decide) (by first | decide | simp [Value.category]) ?_
          exact g_iret (pc := 68) hC hE (by decide +kernel) rfl (by rw [htn, hPe])
        · skip
          exact absurd c54 (by decide)
      · skip
        exact absurd c44 (by decide)
    · skip
      exact absurd c22 (by decide)
  · skip
    exact absurd c10 (by decide)

set_option maxRecDepth 100000 in
set_option maxHeartbeats 4000000 in
theorem ct_M_reply_1 (l : Launch) (D : va_G) (K : K5) (G : GT) (N s : Nat) (hs : s < N) (hmm : MM G N) (hch2 : ChOk G) (hro0 : RefOk (m0 G) N) : Ct l D K y_M_reply c_M_reply 3 (some .int) 4 93 [.ref 50, vi ((s : Int)), vi 1] G (some (vi 1)) (mansG (layP (m0 G) N) ((layP (m0 G) N) 59 (5 * (utS (layP (m0 G) N) N s (tpN G N (-1) 0) 1 1 (nPl (m0 G) N)) + s)) ((layP (m0 G) N) 60 (utS (layP (m0 G) N) N s (tpN G N (-1) 0) 1 1 (nPl (m0 G) N)))) := by
  refine Ct.intro (by decide +kernel) (Nat.le_of_ble_eq_true rfl) ?_
  intro X hro hty hC hE
  obtain ⟨hn, hN5, hsh, hac, hpa, hwe, hth, hch⟩ := id hmm
  have hm1 := hmm.m0
  obtain ⟨hP1, hP2, hP3⟩ := nPl_in hm1
  obtain ⟨P, hPe⟩ : ∃ P : Nat, nPl (m0 G) N = P := ⟨_, rfl⟩
  have hrnP : RNum (layP (m0 G) N) N (nPl (m0 G) N) := hro0
  rw [hPe] at hP1 hP2 hP3 hrnP
  have hpl0 : plS G N = (P : Int) := by rw [← hP3]; exact (plS_congr (m0_n (by decide)) N).symm
  obtain ⟨t, ht, htP⟩ : ∃ t : Nat, (tpS G (-1) 0 N).1 = (t : Int) ∧ t < P := ⟨(tpS G (-1) 0 N).1.toNat, by have := (tpS_in (s := (-1)) (a := 0) hac hch2 (fun t _ e _ => by omega) N hN5).2; omega, by have := (tpS_in (s := (-1)) (a := 0) hac hch2 (fun t _ e _ => by omega) N hN5).2; omega⟩
  have htn : tpN G N (-1) 0 = t := by unfold tpN; omega
  have h14 : (layP (m0 G) N) 50 14 = (P : Int) := by rw [layP_50, pl0_p]; exact hP3
  have hul := utS_lt (G := (layP (m0 G) N)) (N := N) (s := s) (b := 1) (g := 1) htP P (Nat.le_refl _)
  refine a_aload_n (pc := 0) (q := 0) (i := 0) (x := 50) hC (by decide +kernel) rfl 0 rfl ?_
  refine a_iconst (pc := 1) (c := 0) hC (by decide +kernel) ?_
  refine g_put (pc := 2) (idx := 62) (ci := 6) (x := 0) hC 50 0 (by decide +kernel) rfl rfl (congrArg (fun z => vi z) (up_s _ _ _)) rfl wrM (by decide) rfl (by decide +kernel) rfl (ok_int _) ?_
  refine g_G (G' := m0 G) rfl ?_
  refine a_aload_n (pc := 5) (q := 0) (i := 0) (x := 50) hC (by decide +kernel) rfl 0 rfl ?_
  refine a_iload_n (pc := 6) (q := 1) (i := 1) (x := (s : Int)) hC (by decide +kernel) rfl 1 rfl ?_
  refine g_callV (pc := 7) (idx := 79) (i := 50) (av := [vi ((s : Int))]) (rest := []) (g := m0 G) (v := vi (mS (m0 G) ((s : Int)))) hC hro hty (by decide +kernel) rfl rfl k_M_isState (by decide +kernel) (by decide +kernel) (by decide +kernel) (ct_M_isState X.la X.dd K (m0 G) N ((s : Int)) (by unfold inI; omega) hmm.m0) rfl rfl (by decide) (by first | decide | simp [Value.category]) ?_
  refine g_top (y := 1) (by rw [mS_m0]; exact mS_ok hmm hs) ?_
  refine a_if_ne (pc := 10) (off := 5) hC 15 (by decide +kernel) (by decide) (by unfold inI; omega) (fun c10 => ?_) (fun c10 => ?_)
  · skip
    refine a_iload_n (pc := 15) (q := 2) (i := 2) (x := 1) hC (by decide +kernel) rfl 2 rfl ?_
    refine a_i2l (pc := 16) hC (by decide +kernel) (by unfold inI; omega) ?_
    refine a_lconst (pc := 17) (c := 0) (z := 0) hC (by decide +kernel) rfl ?_
    refine a_lconst (pc := 18) (c := 1) (z := 1) hC (by decide +kernel) rfl ?_
    refine g_callS (pc := 19) (idx := 75) (av := [vl 1, vl 0, vl 1]) (rest := []) (g := m0 G) (v := vi (inZ 1 0 1)) hC hro hty (by decide +kernel) k_M_in (by decide +kernel) (by decide +kernel) (ct_M_in X.la X.dd K (m0 G) 1 0 1 (by unfold inL; omega) (by unfold inL; omega) (by unfold inL; omega)) rfl rfl (by decide) (by first | decide | simp [Value.category]) ?_
    refine g_top (y := 1) (by decide) ?_
    refine a_if_ne (pc := 22) (off := 6) hC 28 (by decide +kernel) (by decide) (by unfold inI; omega) (fun c22 => ?_) (fun c22 => ?_)
    · skip
      refine a_aload_n (pc := 28) (q := 0) (i := 0) (x := 50) hC (by decide +kernel) rfl 0 rfl ?_
      refine g_callV0 (pc := 29) (idx := 130) (i := 50) (av := []) (rest := []) (g := layP (m0 G) N) hC hro hty (by decide +kernel) rfl rfl k_M_layPlans (by decide +kernel) (by decide +kernel) (by decide +kernel) (ct_M_layPlans X.la X.dd K (m0 G) N hm1) rfl rfl (by decide) (by first | decide | simp [Value.category]) ?_
      refine a_aload_n (pc := 32) (q := 0) (i := 0) (x := 50) hC (by decide +kernel) rfl 0 rfl ?_
      refine a_iload_n (pc := 33) (q := 1) (i := 1) (x := (s : Int)) hC (by decide +kernel) rfl 1 rfl ?_
      refine a_aload_n (pc := 34) (q := 0) (i := 0) (x := 50) hC (by decide +kernel) rfl 0 rfl ?_
      refine a_iload_n (pc := 35) (q := 1) (i := 1) (x := (s : Int)) hC (by decide +kernel) rfl 1 rfl ?_
      refine a_aload_n (pc := 36) (q := 0) (i := 0) (x := 50) hC (by decide +kernel) rfl 0 rfl ?_
      refine a_iconst (pc := 37) (c := -1) hC (by decide +kernel) ?_
      refine a_iconst (pc := 38) (c := 0) hC (by decide +kernel) ?_
      refine g_callV (pc := 39) (idx := 168) (i := 50) (av := [vi (-1), vi 0]) (rest := [vi ((s : Int)), .ref 50, vi ((s : Int)), .ref 50]) (g := layP (m0 G) N) (v := vi ((tpS (layP (m0 G) N) (-1) 0 N).1)) hC hro hty (by decide +kernel) rfl rfl k_M_toldPlan (by decide +kernel) (by decide +kernel) (by decide +kernel) (ct_M_toldPlan X.la X.dd K (layP (m0 G) N) N (-1) 0 ⟨by decide, by decide⟩ hm1.lay) rfl rfl (by decide) (by first | decide | simp [Value.category]) ?_
      refine g_top (y := (t : Int)) (by rw [tpS_congr (by rw [layP_off (by omega), m0_n (by decide)]) (by rw [layP_off (by omega), m0_n (by decide)])]; exact ht) ?_
      refine a_iload_n (pc := 42) (q := 2) (i := 2) (x := 1) hC (by decide +kernel) rfl 2 rfl ?_
      refine a_iconst (pc := 43) (c := 1) hC (by decide +kernel) ?_
      refine a_icmp_ne (pc := 44) (off := 7) hC 51 (by decide +kernel) (by decide) (by unfold inI; omega) (by unfold inI; omega) (fun c44 => ?_) (fun c44 => ?_)
      · skip
        exact absurd c44 (by decide)
      · skip
        refine a_iconst (pc := 47) (c := 1) hC (by decide +kernel) ?_
        refine a_goto (pc := 48) (off := 4) hC 52 (by decide +kernel) (by decide) ?_
        refine a_iload_n (pc := 52) (q := 2) (i := 2) (x := 1) hC (by decide +kernel) rfl 2 rfl ?_
        refine a_iconst (pc := 53) (c := 1) hC (by decide +kernel) ?_
        refine a_icmp_ne (pc := 54) (off := 7) hC 61 (by decide +kernel) (by decide) (by unfold inI; omega) (by unfold inI; omega) (fun c54 => ?_) (fun c54 => ?_)
        · skip
          exact absurd c54 (by decide)
        · skip
          refine a_iconst (pc := 57) (c := 1) hC (by decide +kernel) ?_
          refine a_goto (pc := 58) (off := 4) hC 62 (by decide +kernel) (by decide) ?_
          refine g_callV (pc := 62) (idx := 136) (i := 50) (av := [vi ((s : Int)), vi ((t : Int)), vi 1, vi 1]) (rest := [vi ((s : Int)), .ref 50]) (g := layP (m0 G) N) (v := vi ((((utS (layP (m0 G) N) N s t 1 1 P) : Nat) : Int))) hC hro hty (by decide +kernel) rfl rfl k_M_utmost (by decide +kernel) (by decide +kernel) (by decide +kernel) (ct_M_utmost X.la X.dd K (layP (m0 G) N) N P s t 1 1 (by decide) (by decide) hs htP h14 hm1.lay hrnP.cm) rfl rfl (by decide) (by first | decide | simp [Value.category]) ?_
          refine g_callV (pc := 65) (idx := 156) (i := 50) (av := [vi ((s : Int)), vi ((((utS (layP (m0 G) N) N s t 1 1 P) : Nat) : Int))]) (rest := []) (g := mansG (layP (m0 G) N) ((layP (m0 G) N) 59 (5 * ((utS (layP (m0 G) N) N s t 1 1 P)) + s)) ((layP (m0 G) N) 60 ((utS (layP (m0 G) N) N s t 1 1 P)))) (v := vi 1) hC hro hty (by decide +kernel) rfl rfl k_M_answerWorth (by decide +kernel) (by decide +kernel) (by decide +kernel) (ct_M_answerWorth X.la X.dd K (layP (m0 G) N) N P s ((utS (layP (m0 G) N) N s t 1 1 P)) (by omega) (by omega) (by omega) hrnP) rfl rfl (by decide) (by first | decide | simp [Value.category]) ?_
          exact g_iret (pc := 68) hC hE (by decide +kernel) rfl (by rw [htn, hPe])
    · skip
      exact absurd c22 (by decide)
  · skip
    exact absurd c10 (by decide)

set_option maxRecDepth 100000 in
set_option maxHeartbeats 4000000 in
theorem ct_M_change_no (l : Launch) (D : va_G) (K : K5) (G : GT) (N : Nat) (s : Int)  (hsi : inI s) (hmm : MM G N) (hno : mS G s = 0) : Ct l D K y_M_change c_M_change 5 (some .int) 4 93 [.ref 50, vi s] G (some (vi (-1))) (m0 G) := by
  refine Ct.intro (by decide +kernel) (Nat.le_of_ble_eq_true rfl) ?_
  intro X hro hty hC hE
  obtain ⟨hn, hN5, hsh, hac, hpa, hwe, hth, hch⟩ := id hmm
  refine a_aload_n (pc := 0) (q := 0) (i := 0) (x := 50) hC (by decide +kernel) rfl 0 rfl ?_
  refine a_iconst (pc := 1) (c := 0) hC (by decide +kernel) ?_
  refine g_put (pc := 2) (idx := 62) (ci := 6) (x := 0) hC 50 0 (by decide +kernel) rfl rfl (congrArg (fun z => vi z) (up_s _ _ _)) rfl wrM (by decide) rfl (by decide +kernel) rfl (ok_int _) ?_
  refine g_G (G' := m0 G) rfl ?_
  refine a_aload_n (pc := 5) (q := 0) (i := 0) (x := 50) hC (by decide +kernel) rfl 0 rfl ?_
  refine a_iload_n (pc := 6) (q := 1) (i := 1) (x := s) hC (by decide +kernel) rfl 1 rfl ?_
  refine g_callV (pc := 7) (idx := 79) (i := 50) (av := [vi s]) (rest := []) (g := m0 G) (v := vi (mS (m0 G) s)) hC hro hty (by decide +kernel) rfl rfl k_M_isState (by decide +kernel) (by decide +kernel) (by decide +kernel) (ct_M_isState X.la X.dd K (m0 G) N s hsi hmm.m0) rfl rfl (by decide) (by first | decide | simp [Value.category]) ?_
  refine g_top (y := mS G s) (mS_m0 _ _) ?_
  refine a_if_ne (pc := 10) (off := 5) hC 15 (by decide +kernel) (by decide) (by unfold inI; omega) (fun c10 => ?_) (fun c10 => ?_)
  · skip
    exact absurd hno c10
  · skip
    refine a_iconst (pc := 13) (c := -1) hC (by decide +kernel) ?_
    exact g_iret (pc := 14) hC hE (by decide +kernel) rfl rfl

set_option maxRecDepth 100000 in
set_option maxHeartbeats 4000000 in
theorem ct_M_change_none (l : Launch) (D : va_G) (K : K5) (G : GT) (N s : Nat) (hs : s < N) (hmm : MM G N) (hz : G 52 s = 0) : Ct l D K y_M_change c_M_change 5 (some .int) 4 93 [.ref 50, vi ((s : Int))] G (some (vi (-3))) (m0 G) := by
  refine Ct.intro (by decide +kernel) (Nat.le_of_ble_eq_true rfl) ?_
  intro X hro hty hC hE
  obtain ⟨hn, hN5, hsh, hac, hpa, hwe, hth, hch⟩ := id hmm
  refine a_aload_n (pc := 0) (q := 0) (i := 0) (x := 50) hC (by decide +kernel) rfl 0 rfl ?_
  refine a_iconst (pc := 1) (c := 0) hC (by decide +kernel) ?_
  refine g_put (pc := 2) (idx := 62) (ci := 6) (x := 0) hC 50 0 (by decide +kernel) rfl rfl (congrArg (fun z => vi z) (up_s _ _ _)) rfl wrM (by decide) rfl (by decide +kernel) rfl (ok_int _) ?_
  refine g_G (G' := m0 G) rfl ?_
  refine a_aload_n (pc := 5) (q := 0) (i := 0) (x := 50) hC (by decide +kernel) rfl 0 rfl ?_
  refine a_iload_n (pc := 6) (q := 1) (i := 1) (x := (s : Int)) hC (by decide +kernel) rfl 1 rfl ?_
  refine g_callV (pc := 7) (idx := 79) (i := 50) (av := [vi ((s : Int))]) (rest := []) (g := m0 G) (v := vi (mS (m0 G) ((s : Int)))) hC hro hty (by decide +kernel) rfl rfl k_M_isState (by decide +kernel) (by decide +kernel) (by decide +kernel) (ct_M_isState X.la X.dd K (m0 G) N ((s : Int)) (by unfold inI; omega) hmm.m0) rfl rfl (by decide) (by first | decide | simp [Value.category]) ?_
  refine g_top (y := 1) (by rw [mS_m0]; exact mS_ok hmm hs) ?_
  refine a_if_ne (pc := 10) (off := 5) hC 15 (by decide +kernel) (by decide) (by unfold inI; omega) (fun c10 => ?_) (fun c10 => ?_)
  · skip
    refine a_aload_n (pc := 15) (q := 0) (i := 0) (x := 50) hC (by decide +kernel) rfl 0 rfl ?_
    refine g_get (pc := 16) (idx := 13) (ci := 6) (v := .ref 52) hC 50 3 (by decide +kernel) rfl rfl rfl rfl wrM (by decide) rfl (by decide +kernel) ?_
    refine a_iload_n (pc := 19) (q := 1) (i := 1) (x := (s : Int)) hC (by decide +kernel) rfl 1 rfl ?_
    refine g_iald (pc := 20) (a := 52) (j := s) hC hty (by decide +kernel) rfl (by omega) (by first | decide | omega) ?_
    refine g_top (y := G 52 s) (by rw [m0_n (by decide)]) ?_
    refine a_if_ne (pc := 21) (off := 6) hC 27 (by decide +kernel) (by decide) (by unfold inI; omega) (fun c21 => ?_) (fun c21 => ?_)
    · skip
      exact absurd hz c21
    · skip
      refine a_bipush (pc := 24) (c := -3) hC (by decide +kernel) (by decide +kernel) ?_
      exact g_iret (pc := 26) hC hE (by decide +kernel) rfl rfl
  · skip
    exact absurd c10 (by decide)

set_option maxRecDepth 100000 in
set_option maxHeartbeats 4000000 in
theorem ct_M_change (l : Launch) (D : va_G) (K : K5) (G : GT) (N s A : Nat) (hs : s < N) (hA : G 52 s = (A : Int)) (hA1 : 1 ≤ A) (hmm : MM G N) (hch2 : ChOk G) (hro0 : RefOk (m0 G) N) : Ct l D K y_M_change c_M_change 5 (some .int) 4 93 [.ref 50, vi ((s : Int))] G (some (vi (((mcS (layP (m0 G) N) G N s (A - 1) : Nat) : Int)))) (layP (m0 G) N) := by
  refine Ct.intro (by decide +kernel) (Nat.le_of_ble_eq_true rfl) ?_
  intro X hro hty hC hE
  obtain ⟨hn, hN5, hsh, hac, hpa, hwe, hth, hch⟩ := id hmm
  have hm1 := hmm.m0
  obtain ⟨hP1, hP2, hP3⟩ := nPl_in hm1
  obtain ⟨P, hPe⟩ : ∃ P : Nat, nPl (m0 G) N = P := ⟨_, rfl⟩
  have hrnP : RNum (layP (m0 G) N) N (nPl (m0 G) N) := hro0
  rw [hPe] at hP1 hP2 hP3 hrnP
  have hpl0 : plS G N = (P : Int) := by rw [← hP3]; exact (plS_congr (m0_n (by decide)) N).symm
  have hA3 := hac s (by omega)
  have h51 := hth s (by omega)
  refine a_aload_n (pc := 0) (q := 0) (i := 0) (x := 50) hC (by decide +kernel) rfl 0 rfl ?_
  refine a_iconst (pc := 1) (c := 0) hC (by decide +kernel) ?_
  refine g_put (pc := 2) (idx := 62) (ci := 6) (x := 0) hC 50 0 (by decide +kernel) rfl rfl (congrArg (fun z => vi z) (up_s _ _ _)) rfl wrM (by decide) rfl (by decide +kernel) rfl (ok_int _) ?_
  refine g_G (G' := m0 G) rfl ?_
  refine a_aload_n (pc := 5) (q := 0) (i := 0) (x := 50) hC (by decide +kernel) rfl 0 rfl ?_
  refine a_iload_n (pc := 6) (q := 1) (i := 1) (x := (s : Int)) hC (by decide +kernel) rfl 1 rfl ?_
  refine g_callV (pc := 7) (idx := 79) (i := 50) (av := [vi ((s : Int))]) (rest := []) (g := m0 G) (v := vi (mS (m0 G) ((s : Int)))) hC hro hty (by decide +kernel) rfl rfl k_M_isState (by decide +kernel) (by decide +kernel) (by decide +kernel) (ct_M_isState X.la X.dd K (m0 G) N ((s : Int)) (by unfold inI; omega) hmm.m0) rfl rfl (by decide) (by first | decide | simp [Value.category]) ?_
  refine g_top (y := 1) (by rw [mS_m0]; exact mS_ok hmm hs) ?_
  refine a_if_ne (pc := 10) (off := 5) hC 15 (by decide +kernel) (by decide) (by unfold inI; omega) (fun c10 => ?_) (fun c10 => ?_)
  · skip
    refine a_aload_n (pc := 15) (q := 0) (i := 0) (x := 50) hC (by decide +kernel) rfl 0 rfl ?_
    refine g_get (pc := 16) (idx := 13) (ci := 6) (v := .ref 52) hC 50 3 (by decide +kernel) rfl rfl rfl rfl wrM (by decide) rfl (by decide +kernel) ?_
    refine a_iload_n (pc := 19) (q := 1) (i := 1) (x := (s : Int)) hC (by decide +kernel) rfl 1 rfl ?_
    refine g_iald (pc := 20) (a := 52) (j := s) hC hty (by decide +kernel) rfl (by omega) (by first | decide | omega) ?_
    refine g_top (y := (A : Int)) (by rw [m0_n (by decide)]; exact hA) ?_
    refine a_if_ne (pc := 21) (off := 6) hC 27 (by decide +kernel) (by decide) (by unfold inI; omega) (fun c21 => ?_) (fun c21 => ?_)
    · skip
      refine a_aload_n (pc := 27) (q := 0) (i := 0) (x := 50) hC (by decide +kernel) rfl 0 rfl ?_
      refine g_callV0 (pc := 28) (idx := 130) (i := 50) (av := []) (rest := []) (g := layP (m0 G) N) hC hro hty (by decide +kernel) rfl rfl k_M_layPlans (by decide +kernel) (by decide +kernel) (by decide +kernel) (ct_M_layPlans X.la X.dd K (m0 G) N hm1) rfl rfl (by decide) (by first | decide | simp [Value.category]) ?_
      refine a_iconst (pc := 31) (c := 0) hC (by decide +kernel) ?_
      refine a_istore_n (pc := 32) (q := 2) (i := 2) (lv' := [(2, vi 0), (0, .ref 50), (1, vi ((s : Int)))]) hC (by decide +kernel) rfl (by decide) rfl ?_
      refine a_iconst (pc := 33) (c := 1) hC (by decide +kernel) ?_
      refine a_istore_n (pc := 34) (q := 3) (i := 3) (lv' := [(3, vi 1), (2, vi 0), (0, .ref 50), (1, vi ((s : Int)))]) hC (by decide +kernel) rfl (by decide) rfl ?_
      have L35 : ∀ (fuel : Nat) (j : Nat), A - (j + 1) < fuel → j + 1 ≤ A → AW X 5 0 0 35 [(3, vi (((j + 1 : Nat) : Int))), (2, vi (((mcS (layP (m0 G) N) G N s j : Nat) : Int))), (0, .ref 50), (1, vi ((s : Int)))] [] (hp K (layP (m0 G) N)) := by
        intro fuel
        induction fuel with
        | zero => intro j h; exact absurd h (Nat.not_lt_zero _)
        | succ fuel ih35 =>
          intro j hm hj
          refine a_iload_n (pc := 35) (q := 3) (i := 3) (x := ((j + 1 : Nat) : Int)) hC (by decide +kernel) rfl 0 rfl ?_
          refine a_aload_n (pc := 36) (q := 0) (i := 0) (x := 50) hC (by decide +kernel) rfl 2 rfl ?_
          refine g_get (pc := 37) (idx := 13) (ci := 6) (v := .ref 52) hC 50 3 (by decide +kernel) rfl rfl rfl rfl wrM (by decide) rfl (by decide +kernel) ?_
          refine a_iload_n (pc := 40) (q := 1) (i := 1) (x := (s : Int)) hC (by decide +kernel) rfl 3 rfl ?_
          refine g_iald (pc := 41) (a := 52) (j := s) hC hty (by decide +kernel) rfl (by omega) (by first | decide | omega) ?_
          refine g_top (y := (A : Int)) (by rw [layP_off (by omega), m0_n (by decide)]; exact hA) ?_
          refine a_icmp_ge (pc := 42) (off := 61) hC 103 (by decide +kernel) (by decide) (by unfold inI; omega) (by unfold inI; omega) (fun c42 => ?_) (fun c42 => ?_)
          · skip
            refine a_iload_n (pc := 103) (q := 2) (i := 2) (x := ((mcS (layP (m0 G) N) G N s j : Nat) : Int)) hC (by decide +kernel) rfl 1 rfl ?_
            exact g_iret (pc := 104) hC hE (by decide +kernel) (by rw [show j = A - 1 by omega]) rfl
          · skip
            have hml := mcS_le (layP (m0 G) N) G N s j
            obtain ⟨x1, hx1, hx1P⟩ : ∃ t : Nat, (tpS G (s : Int) ((j + 1 : Nat) : Int) N).1 = (t : Int) ∧ t < P := ⟨(tpS G (s : Int) ((j + 1 : Nat) : Int) N).1.toNat, by have := (tpS_in (s := (s : Int)) (a := ((j + 1 : Nat) : Int)) hac hch2 (fun t h5 e _ => by have e2 : t = s := (by omega); rw [e2, hA]; omega) N hN5).2; omega, by have := (tpS_in (s := (s : Int)) (a := ((j + 1 : Nat) : Int)) hac hch2 (fun t h5 e _ => by have e2 : t = s := (by omega); rw [e2, hA]; omega) N hN5).2; omega⟩
            have hx1n : tpN G N (s : Int) ((j + 1 : Nat) : Int) = x1 := by unfold tpN; omega
            obtain ⟨x2, hx2, hx2P⟩ : ∃ t : Nat, (tpS G (s : Int) (((mcS (layP (m0 G) N) G N s j) : Nat) : Int) N).1 = (t : Int) ∧ t < P := ⟨(tpS G (s : Int) (((mcS (layP (m0 G) N) G N s j) : Nat) : Int) N).1.toNat, by have := (tpS_in (s := (s : Int)) (a := (((mcS (layP (m0 G) N) G N s j) : Nat) : Int)) hac hch2 (fun t h5 e _ => by have e2 : t = s := (by omega); rw [e2, hA]; omega) N hN5).2; omega, by have := (tpS_in (s := (s : Int)) (a := (((mcS (layP (m0 G) N) G N s j) : Nat) : Int)) hac hch2 (fun t h5 e _ => by have e2 : t = s := (by omega); rw [e2, hA]; omega) N hN5).2; omega⟩
            have hx2n : tpN G N (s : Int) (((mcS (layP (m0 G) N) G N s j) : Nat) : Int) = x2 := by unfold tpN; omega
            have hcu := cmU_in (layP (m0 G) N) s x1 x2
            refine a_aload_n (pc := 45) (q := 0) (i := 0) (x := 50) hC (by decide +kernel) rfl 2 rfl ?_
            refine a_iload_n (pc := 46) (q := 1) (i := 1) (x := (s : Int)) hC (by decide +kernel) rfl 3 rfl ?_
            refine a_aload_n (pc := 47) (q := 0) (i := 0) (x := 50) hC (by decide +kernel) rfl 2 rfl ?_
            refine a_iload_n (pc := 48) (q := 1) (i := 1) (x := (s : Int)) hC (by decide +kernel) rfl 3 rfl ?_
            refine a_iload_n (pc := 49) (q := 3) (i := 3) (x := ((j + 1 : Nat) : Int)) hC (by decide +kernel) rfl 0 rfl ?_
            refine g_callV (pc := 50) (idx := 168) (i := 50) (av := [vi ((s : Int)), vi (((j + 1 : Nat) : Int))]) (rest := [vi ((s : Int)), .ref 50]) (g := layP (m0 G) N) (v := vi ((tpS (layP (m0 G) N) ((s : Int)) (((j + 1 : Nat) : Int)) N).1)) hC hro hty (by decide +kernel) rfl rfl k_M_toldPlan (by decide +kernel) (by decide +kernel) (by decide +kernel) (ct_M_toldPlan X.la X.dd K (layP (m0 G) N) N ((s : Int)) (((j + 1 : Nat) : Int)) (by unfold inI; omega) hm1.lay) rfl rfl (by decide) (by first | decide | simp [Value.category]) ?_
            refine g_top (y := (x1 : Int)) (by rw [tpS_congr (by rw [layP_off (by omega), m0_n (by decide)]) (by rw [layP_off (by omega), m0_n (by decide)])]; exact hx1) ?_
            refine a_aload_n (pc := 53) (q := 0) (i := 0) (x := 50) hC (by decide +kernel) rfl 2 rfl ?_
            refine a_iload_n (pc := 54) (q := 1) (i := 1) (x := (s : Int)) hC (by decide +kernel) rfl 3 rfl ?_
            refine a_iload_n (pc := 55) (q := 2) (i := 2) (x := ((mcS (layP (m0 G) N) G N s j : Nat) : Int)) hC (by decide +kernel) rfl 1 rfl ?_
            refine g_callV (pc := 56) (idx := 168) (i := 50) (av := [vi ((s : Int)), vi (((mcS (layP (m0 G) N) G N s j : Nat) : Int))]) (rest := [vi ((x1 : Int)), vi ((s : Int)), .ref 50]) (g := layP (m0 G) N) (v := vi ((tpS (layP (m0 G) N) ((s : Int)) (((mcS (layP (m0 G) N) G N s j : Nat) : Int)) N).1)) hC hro hty (by decide +kernel) rfl rfl k_M_toldPlan (by decide +kernel) (by decide +kernel) (by decide +kernel) (ct_M_toldPlan X.la X.dd K (layP (m0 G) N) N ((s : Int)) (((mcS (layP (m0 G) N) G N s j : Nat) : Int)) (by unfold inI; omega) hm1.lay) rfl rfl (by decide) (by first | decide | simp [Value.category]) ?_
            refine g_top (y := (x2 : Int)) (by rw [tpS_congr (by rw [layP_off (by omega), m0_n (by decide)]) (by rw [layP_off (by omega), m0_n (by decide)])]; exact hx2) ?_
            refine g_callV (pc := 59) (idx := 127) (i := 50) (av := [vi ((s : Int)), vi ((x1 : Int)), vi ((x2 : Int))]) (rest := []) (g := layP (m0 G) N) (v := vi (cmU (layP (m0 G) N) s x1 x2)) hC hro hty (by decide +kernel) rfl rfl k_M_compare (by decide +kernel) (by decide +kernel) (by decide +kernel) (ct_M_compare X.la X.dd K (layP (m0 G) N) N P s x1 x2 (by omega) (by omega) (by omega) (by omega) hrnP.cm) rfl rfl (by decide) (by first | decide | simp [Value.category]) ?_
            refine a_istore (pc := 62) (q := 0) (i := 4) (lv' := [(4, vi (cmU (layP (m0 G) N) s x1 x2)), (3, vi (((j + 1 : Nat) : Int))), (2, vi (((mcS (layP (m0 G) N) G N s j : Nat) : Int))), (0, .ref 50), (1, vi ((s : Int)))]) hC (by decide +kernel) (by decide) rfl ?_
            refine a_aload_n (pc := 64) (q := 0) (i := 0) (x := 50) hC (by decide +kernel) rfl 3 rfl ?_
            refine g_get (pc := 65) (idx := 7) (ci := 6) (v := .ref 51) hC 50 2 (by decide +kernel) rfl rfl rfl rfl wrM (by decide) rfl (by decide +kernel) ?_
            refine a_iload_n (pc := 68) (q := 1) (i := 1) (x := (s : Int)) hC (by decide +kernel) rfl 4 rfl ?_
            refine g_zald (pc := 69) (a := 51) (j := s) hC hty (by decide +kernel) rfl (by omega) (by first | decide | omega) ?_
            refine g_top (y := G 51 s) (by rw [layP_off (by omega), m0_n (by decide)]) ?_
            refine a_if_eq (pc := 70) (off := 16) hC 86 (by decide +kernel) (by decide) (by unfold inI; omega) (fun c70 => ?_) (fun c70 => ?_)
            · skip
              refine a_iload (pc := 86) (i := 4) (x := cmU (layP (m0 G) N) s x1 x2) hC (by decide +kernel) 0 rfl ?_
              refine a_if_le (pc := 88) (off := 7) hC 95 (by decide +kernel) (by decide) (by unfold inI; omega) (fun c88 => ?_) (fun c88 => ?_)
              · skip
                have hst : (mcS (layP (m0 G) N) G N s j) = mcS (layP (m0 G) N) G N s (j + 1) := by show _ = (if _ then _ else _); rw [hx1n, hx2n]; rw [if_pos (by omega), if_neg (by omega)]
                refine a_iload_n (pc := 95) (q := 2) (i := 2) (x := ((mcS (layP (m0 G) N) G N s j : Nat) : Int)) hC (by decide +kernel) rfl 2 rfl ?_
                refine a_istore_n (pc := 96) (q := 2) (i := 2) (lv' := [(2, vi (((mcS (layP (m0 G) N) G N s j : Nat) : Int))), (4, vi (cmU (layP (m0 G) N) s x1 x2)), (3, vi (((j + 1 : Nat) : Int))), (0, .ref 50), (1, vi ((s : Int)))]) hC (by decide +kernel) rfl (by decide) rfl ?_
                refine a_iinc (pc := 97) (i := 3) (c := 1) (x := ((j + 1 : Nat) : Int)) (lv' := [(3, vi ((((j + 1 : Nat) : Int)) + 1)), (2, vi (((mcS (layP (m0 G) N) G N s j : Nat) : Int))), (4, vi (cmU (layP (m0 G) N) s x1 x2)), (0, .ref 50), (1, vi ((s : Int)))]) hC (by decide +kernel) 2 rfl (by decide) rfl ?_
                refine a_goto (pc := 100) (off := -65) hC 35 (by decide +kernel) (by decide) ?_
                refine a_sub (lv' := [(3, vi ((((j + 1) + 1 : Nat) : Int))), (2, vi (((mcS (layP (m0 G) N) G N s (j + 1) : Nat) : Int))), (0, .ref 50), (1, vi ((s : Int)))]) [0, 1, 3, 4] (by rw [← hst]; rfl) ?_
                exact ih35 (j + 1) (by omega) (by omega)
              · skip
                have hst : j + 1 = mcS (layP (m0 G) N) G N s (j + 1) := by show _ = (if _ then _ else _); rw [hx1n, hx2n]; rw [if_pos (by omega), if_pos (by omega)]
                refine a_iload_n (pc := 91) (q := 3) (i := 3) (x := ((j + 1 : Nat) : Int)) hC (by decide +kernel) rfl 1 rfl ?_
                refine a_goto (pc := 92) (off := 4) hC 96 (by decide +kernel) (by decide) ?_
                refine a_istore_n (pc := 96) (q := 2) (i := 2) (lv' := [(2, vi (((j + 1 : Nat) : Int))), (4, vi (cmU (layP (m0 G) N) s x1 x2)), (3, vi (((j + 1 : Nat) : Int))), (0, .ref 50), (1, vi ((s : Int)))]) hC (by decide +kernel) rfl (by decide) rfl ?_
                refine a_iinc (pc := 97) (i := 3) (c := 1) (x := ((j + 1 : Nat) : Int)) (lv' := [(3, vi ((((j + 1 : Nat) : Int)) + 1)), (2, vi (((j + 1 : Nat) : Int))), (4, vi (cmU (layP (m0 G) N) s x1 x2)), (0, .ref 50), (1, vi ((s : Int)))]) hC (by decide +kernel) 2 rfl (by decide) rfl ?_
                refine a_goto (pc := 100) (off := -65) hC 35 (by decide +kernel) (by decide) ?_
                refine a_sub (lv' := [(3, vi ((((j + 1) + 1 : Nat) : Int))), (2, vi (((mcS (layP (m0 G) N) G N s (j + 1) : Nat) : Int))), (0, .ref 50), (1, vi ((s : Int)))]) [0, 1, 3, 4] (by rw [← hst]; rfl) ?_
                exact ih35 (j + 1) (by omega) (by omega)
            · skip
              refine a_iload (pc := 73) (i := 4) (x := cmU (layP (m0 G) N) s x1 x2) hC (by decide +kernel) 0 rfl ?_
              refine a_if_ge (pc := 75) (off := 7) hC 82 (by decide +kernel) (by decide) (by unfold inI; omega) (fun c75 => ?_) (fun c75 => ?_)
              · skip
                have hst : (mcS (layP (m0 G) N) G N s j) = mcS (layP (m0 G) N) G N s (j + 1) := by show _ = (if _ then _ else _); rw [hx1n, hx2n]; rw [if_neg (by omega), if_neg (by omega)]
                refine a_iload_n (pc := 82) (q := 2) (i := 2) (x := ((mcS (layP (m0 G) N) G N s j : Nat) : Int)) hC (by decide +kernel) rfl 2 rfl ?_
                refine a_goto (pc := 83) (off := 13) hC 96 (by decide +kernel) (by decide) ?_
                refine a_istore_n (pc := 96) (q := 2) (i := 2) (lv' := [(2, vi (((mcS (layP (m0 G) N) G N s j : Nat) : Int))), (4, vi (cmU (layP (m0 G) N) s x1 x2)), (3, vi (((j + 1 : Nat) : Int))), (0, .ref 50), (1, vi ((s : Int)))]) hC (by decide +kernel) rfl (by decide) rfl ?_
                refine a_iinc (pc := 97) (i := 3) (c := 1) (x := ((j + 1 : Nat) : Int)) (lv' := [(3, vi ((((j + 1 : Nat) : Int)) + 1)), (2, vi (((mcS (layP (m0 G) N) G N s j : Nat) : Int))), (4, vi (cmU (layP (m0 G) N) s x1 x2)), (0, .ref 50), (1, vi ((s : Int)))]) hC (by decide +kernel) 2 rfl (by decide) rfl ?_
                refine a_goto (pc := 100) (off := -65) hC 35 (by decide +kernel) (by decide) ?_
                refine a_sub (lv' := [(3, vi ((((j + 1) + 1 : Nat) : Int))), (2, vi (((mcS (layP (m0 G) N) G N s (j + 1) : Nat) : Int))), (0, .ref 50), (1, vi ((s : Int)))]) [0, 1, 3, 4] (by rw [← hst]; rfl) ?_
                exact ih35 (j + 1) (by omega) (by omega)
              · skip
                have hst : j + 1 = mcS (layP (m0 G) N) G N s (j + 1) := by show _ = (if _ then _ else _); rw [hx1n, hx2n]; rw [if_neg (by omega), if_pos (by omega)]
                refine a_iload_n (pc := 78) (q := 3) (i := 3) (x := ((j + 1 : Nat) : Int)) hC (by decide +kernel) rfl 1 rfl ?_
                refine a_goto (pc := 79) (off := 17) hC 96 (by decide +kernel) (by decide) ?_
                refine a_istore_n (pc := 96) (q := 2) (i := 2) (lv' := [(2, vi (((j + 1 : Nat) : Int))), (4, vi (cmU (layP (m0 G) N) s x1 x2)), (3, vi (((j + 1 : Nat) : Int))), (0, .ref 50), (1, vi ((s : Int)))]) hC (by decide +kernel) rfl (by decide) rfl ?_
                refine a_iinc (pc := 97) (i := 3) (c := 1) (x := ((j + 1 : Nat) : Int)) (lv' := [(3, vi ((((j + 1 : Nat) : Int)) + 1)), (2, vi (((j + 1 : Nat) : Int))), (4, vi (cmU (layP (m0 G) N) s x1 x2)), (0, .ref 50), (1, vi ((s : Int)))]) hC (by decide +kernel) 2 rfl (by decide) rfl ?_
                refine a_goto (pc := 100) (off := -65) hC 35 (by decide +kernel) (by decide) ?_
                refine a_sub (lv' := [(3, vi ((((j + 1) + 1 : Nat) : Int))), (2, vi (((mcS (layP (m0 G) N) G N s (j + 1) : Nat) : Int))), (0, .ref 50), (1, vi ((s : Int)))]) [0, 1, 3, 4] (by rw [← hst]; rfl) ?_
                exact ih35 (j + 1) (by omega) (by omega)
      refine a_sub (lv' := [(3, vi (((0 + 1 : Nat) : Int))), (2, vi (((mcS (layP (m0 G) N) G N s 0 : Nat) : Int))), (0, .ref 50), (1, vi ((s : Int)))]) [0, 1, 2, 3] rfl ?_
      exact L35 _ 0 (Nat.lt_succ_self _) (by omega)
    · skip
      exact absurd c21 (by omega)
  · skip
    exact absurd c10 (by decide)

set_option maxRecDepth 100000 in
set_option maxHeartbeats 4000000 in
theorem ct_M_told_0 (l : Launch) (D : va_G) (K : K5) (G : GT) (N : Nat) (hmm : MM G N) (hro0 : RefOk (m0 G) N) : Ct l D K y_M_told c_M_told 4 (some .int) 5 117 [.ref 50, vi 0] G (some (vi ((N : Int)))) (m0 G) := by
  refine Ct.intro (by decide +kernel) (Nat.le_of_ble_eq_true rfl) ?_
  intro X hro hty hC hE
  obtain ⟨hn, hN5, hsh, hac, hpa, hwe, hth, hch⟩ := id hmm
  have hm1 := hmm.m0
  refine a_aload_n (pc := 0) (q := 0) (i := 0) (x := 50) hC (by decide +kernel) rfl 0 rfl ?_
  refine a_iconst (pc := 1) (c := 0) hC (by decide +kernel) ?_
  refine g_put (pc := 2) (idx := 62) (ci := 6) (x := 0) hC 50 0 (by decide +kernel) rfl rfl (congrArg (fun z => vi z) (up_s _ _ _)) rfl wrM (by decide) rfl (by decide +kernel) rfl (ok_int _) ?_
  refine g_G (G' := m0 G) rfl ?_
  refine a_iconst (pc := 5) (c := 0) hC (by decide +kernel) ?_
  refine a_istore_n (pc := 6) (q := 2) (i := 2) (lv' := [(2, vi 0), (0, .ref 50), (1, vi 0)]) hC (by decide +kernel) rfl (by decide) rfl ?_
  refine a_iload_n (pc := 7) (q := 1) (i := 1) (x := 0) hC (by decide +kernel) rfl 2 rfl ?_
  refine a_tabIn (pc := 8) (dflt := 121) (lo := 0) (hi := 4) (offs := #[36, 41, 68, 77, 86]) (len := 36) (off := 36) hC 44 ⟨by decide, by decide⟩ (by decide +kernel) (by decide) (by decide) rfl (by decide) ?_
  refine a_aload_n (pc := 44) (q := 0) (i := 0) (x := 50) hC (by decide +kernel) rfl 1 rfl ?_
  refine g_get (pc := 45) (idx := 72) (ci := 6) (v := vi ((m0 G) 50 1)) hC 50 1 (by decide +kernel) rfl rfl rfl rfl wrM (by decide) rfl (by decide +kernel) ?_
  refine g_top (y := (N : Int)) (by rw [m0_k (by decide)]; exact hn) ?_
  exact g_iret (pc := 48) hC hE (by decide +kernel) rfl rfl

set_option maxRecDepth 100000 in
set_option maxHeartbeats 4000000 in
theorem ct_M_told_1 (l : Launch) (D : va_G) (K : K5) (G : GT) (N : Nat) (hmm : MM G N) (hro0 : RefOk (m0 G) N) : Ct l D K y_M_told c_M_told 4 (some .int) 5 117 [.ref 50, vi 1] G (some (vi (sumM G N))) (m0 G) := by
  refine Ct.intro (by decide +kernel) (Nat.le_of_ble_eq_true rfl) ?_
  intro X hro hty hC hE
  obtain ⟨hn, hN5, hsh, hac, hpa, hwe, hth, hch⟩ := id hmm
  have hm1 := hmm.m0
  refine a_aload_n (pc := 0) (q := 0) (i := 0) (x := 50) hC (by decide +kernel) rfl 0 rfl ?_
  refine a_iconst (pc := 1) (c := 0) hC (by decide +kernel) ?_
  refine g_put (pc := 2) (idx := 62) (ci := 6) (x := 0) hC 50 0 (by decide +kernel) rfl rfl (congrArg (fun z => vi z) (up_s _ _ _)) rfl wrM (by decide) rfl (by decide +kernel) rfl (ok_int _) ?_
  refine g_G (G' := m0 G) rfl ?_
  refine a_iconst (pc := 5) (c := 0) hC (by decide +kernel) ?_
  refine a_istore_n (pc := 6) (q := 2) (i := 2) (lv' := [(2, vi 0), (0, .ref 50), (1, vi 1)]) hC (by decide +kernel) rfl (by decide) rfl ?_
  refine a_iload_n (pc := 7) (q := 1) (i := 1) (x := 1) hC (by decide +kernel) rfl 2 rfl ?_
  refine a_tabIn (pc := 8) (dflt := 121) (lo := 0) (hi := 4) (offs := #[36, 41, 68, 77, 86]) (len := 36) (off := 41) hC 49 ⟨by decide, by decide⟩ (by decide +kernel) (by decide) (by decide) rfl (by decide) ?_
  refine a_iconst (pc := 49) (c := 0) hC (by decide +kernel) ?_
  refine a_istore_n (pc := 50) (q := 3) (i := 3) (lv' := [(3, vi 0), (2, vi 0), (0, .ref 50), (1, vi 1)]) hC (by decide +kernel) rfl (by decide) rfl ?_
  have L51 : ∀ (fuel : Nat) (s : Nat), N - s < fuel → s ≤ N → AW X 4 0 0 51 [(3, vi ((s : Int))), (2, vi (sumM G s)), (0, .ref 50)] [] (hp K (m0 G)) := by
    intro fuel
    induction fuel with
    | zero => intro s h; exact absurd h (Nat.not_lt_zero _)
    | succ fuel ih51 =>
      intro s hm hs
      refine a_iload_n (pc := 51) (q := 3) (i := 3) (x := (s : Int)) hC (by decide +kernel) rfl 0 rfl ?_
      refine a_aload_n (pc := 52) (q := 0) (i := 0) (x := 50) hC (by decide +kernel) rfl 2 rfl ?_
      refine g_get (pc := 53) (idx := 72) (ci := 6) (v := vi ((m0 G) 50 1)) hC 50 1 (by decide +kernel) rfl rfl rfl rfl wrM (by decide) rfl (by decide +kernel) ?_
      refine g_top (y := (N : Int)) (by rw [m0_k (by decide)]; exact hn) ?_
      refine a_icmp_ge (pc := 56) (off := 18) hC 74 (by decide +kernel) (by decide) (by unfold inI; omega) (by unfold inI; omega) (fun c56 => ?_) (fun c56 => ?_)
      · skip
        refine a_iload_n (pc := 74) (q := 2) (i := 2) (x := sumM G s) hC (by decide +kernel) rfl 1 rfl ?_
        exact g_iret (pc := 75) hC hE (by decide +kernel) (by rw [show s = N by omega]) rfl
      · skip
        refine a_iload_n (pc := 59) (q := 2) (i := 2) (x := sumM G s) hC (by decide +kernel) rfl 1 rfl ?_
        refine a_aload_n (pc := 60) (q := 0) (i := 0) (x := 50) hC (by decide +kernel) rfl 2 rfl ?_
        refine g_get (pc := 61) (idx := 13) (ci := 6) (v := .ref 52) hC 50 3 (by decide +kernel) rfl rfl rfl rfl wrM (by decide) rfl (by decide +kernel) ?_
        refine a_iload_n (pc := 64) (q := 3) (i := 3) (x := (s : Int)) hC (by decide +kernel) rfl 0 rfl ?_
        refine g_iald (pc := 65) (a := 52) (j := s) hC hty (by decide +kernel) rfl (by omega) (by first | decide | omega) ?_
        refine g_top (y := G 52 s) (by rw [m0_n (by decide)]) ?_
        refine a_iadd (pc := 66) hC (by decide +kernel) ?_
        refine a_istore_n (pc := 67) (q := 2) (i := 2) (lv' := [(2, vi ((sumM G s) + (G 52 s))), (3, vi ((s : Int))), (0, .ref 50)]) hC (by decide +kernel) rfl (by decide) rfl ?_
        refine a_iinc (pc := 68) (i := 3) (c := 1) (x := (s : Int)) (lv' := [(3, vi (((s : Int)) + 1)), (2, vi ((sumM G s) + (G 52 s))), (0, .ref 50)]) hC (by decide +kernel) 1 rfl (by decide) rfl ?_
        refine a_goto (pc := 71) (off := -20) hC 51 (by decide +kernel) (by decide) ?_
        refine a_sub (lv' := [(3, vi (((s + 1) : Int))), (2, vi (sumM G (s + 1))), (0, .ref 50)]) [0, 1, 2] rfl ?_
        exact ih51 (s + 1) (by omega) (by omega)
  refine a_sub (lv' := [(3, vi ((0 : Int))), (2, vi (sumM G 0)), (0, .ref 50)]) [0, 1, 2] rfl ?_
  exact L51 _ 0 (Nat.lt_succ_self _) (by omega)

set_option maxRecDepth 100000 in
set_option maxHeartbeats 4000000 in
theorem ct_M_told_2 (l : Launch) (D : va_G) (K : K5) (G : GT) (N : Nat) (hmm : MM G N) (hro0 : RefOk (m0 G) N) : Ct l D K y_M_told c_M_told 4 (some .int) 5 117 [.ref 50, vi 2] G (some (vi (plS G N))) (layP (m0 G) N) := by
  refine Ct.intro (by decide +kernel) (Nat.le_of_ble_eq_true rfl) ?_
  intro X hro hty hC hE
  obtain ⟨hn, hN5, hsh, hac, hpa, hwe, hth, hch⟩ := id hmm
  have hm1 := hmm.m0
  refine a_aload_n (pc := 0) (q := 0) (i := 0) (x := 50) hC (by decide +kernel) rfl 0 rfl ?_
  refine a_iconst (pc := 1) (c := 0) hC (by decide +kernel) ?_
  refine g_put (pc := 2) (idx := 62) (ci := 6) (x := 0) hC 50 0 (by decide +kernel) rfl rfl (congrArg (fun z => vi z) (up_s _ _ _)) rfl wrM (by decide) rfl (by decide +kernel) rfl (ok_int _) ?_
  refine g_G (G' := m0 G) rfl ?_
  refine a_iconst (pc := 5) (c := 0) hC (by decide +kernel) ?_
  refine a_istore_n (pc := 6) (q := 2) (i := 2) (lv' := [(2, vi 0), (0, .ref 50), (1, vi 2)]) hC (by decide +kernel) rfl (by decide) rfl ?_
  refine a_iload_n (pc := 7) (q := 1) (i := 1) (x := 2) hC (by decide +kernel) rfl 2 rfl ?_
  refine a_tabIn (pc := 8) (dflt := 121) (lo := 0) (hi := 4) (offs := #[36, 41, 68, 77, 86]) (len := 36) (off := 68) hC 76 ⟨by decide, by decide⟩ (by decide +kernel) (by decide) (by decide) rfl (by decide) ?_
  refine a_aload_n (pc := 76) (q := 0) (i := 0) (x := 50) hC (by decide +kernel) rfl 1 rfl ?_
  refine g_callV0 (pc := 77) (idx := 130) (i := 50) (av := []) (rest := []) (g := layP (m0 G) N) hC hro hty (by decide +kernel) rfl rfl k_M_layPlans (by decide +kernel) (by decide +kernel) (by decide +kernel) (ct_M_layPlans X.la X.dd K (m0 G) N hm1) rfl rfl (by decide) (by first | decide | simp [Value.category]) ?_
  refine a_aload_n (pc := 80) (q := 0) (i := 0) (x := 50) hC (by decide +kernel) rfl 1 rfl ?_
  refine g_get (pc := 81) (idx := 109) (ci := 6) (v := vi ((layP (m0 G) N) 50 14)) hC 50 14 (by decide +kernel) rfl rfl rfl rfl wrM (by decide) rfl (by decide +kernel) ?_
  refine g_top (y := plS G N) (by rw [layP_50, pl0_p]; exact plS_congr (m0_n (by decide)) N) ?_
  exact g_iret (pc := 84) hC hE (by decide +kernel) rfl rfl

set_option maxRecDepth 100000 in
set_option maxHeartbeats 4000000 in
theorem ct_M_told_3 (l : Launch) (D : va_G) (K : K5) (G : GT) (N : Nat) (hmm : MM G N) (hro0 : RefOk (m0 G) N) : Ct l D K y_M_told c_M_told 4 (some .int) 5 117 [.ref 50, vi 3] G (some (vi ((coS (vaG (m0 G) N) N (nPl (m0 G) N)).2))) (layV (m0 G) N) := by
  refine Ct.intro (by decide +kernel) (Nat.le_of_ble_eq_true rfl) ?_
  intro X hro hty hC hE
  obtain ⟨hn, hN5, hsh, hac, hpa, hwe, hth, hch⟩ := id hmm
  have hm1 := hmm.m0
  refine a_aload_n (pc := 0) (q := 0) (i := 0) (x := 50) hC (by decide +kernel) rfl 0 rfl ?_
  refine a_iconst (pc := 1) (c := 0) hC (by decide +kernel) ?_
  refine g_put (pc := 2) (idx := 62) (ci := 6) (x := 0) hC 50 0 (by decide +kernel) rfl rfl (congrArg (fun z => vi z) (up_s _ _ _)) rfl wrM (by decide) rfl (by decide +kernel) rfl (ok_int _) ?_
  refine g_G (G' := m0 G) rfl ?_
  refine a_iconst (pc := 5) (c := 0) hC (by decide +kernel) ?_
  refine a_istore_n (pc := 6) (q := 2) (i := 2) (lv' := [(2, vi 0), (0, .ref 50), (1, vi 3)]) hC (by decide +kernel) rfl (by decide) rfl ?_
  refine a_iload_n (pc := 7) (q := 1) (i := 1) (x := 3) hC (by decide +kernel) rfl 2 rfl ?_
  refine a_tabIn (pc := 8) (dflt := 121) (lo := 0) (hi := 4) (offs := #[36, 41, 68, 77, 86]) (len := 36) (off := 77) hC 85 ⟨by decide, by decide⟩ (by decide +kernel) (by decide) (by decide) rfl (by decide) ?_
  refine a_aload_n (pc := 85) (q := 0) (i := 0) (x := 50) hC (by decide +kernel) rfl 1 rfl ?_
  refine g_callV0 (pc := 86) (idx := 153) (i := 50) (av := []) (rest := []) (g := layV (m0 G) N) hC hro hty (by decide +kernel) rfl rfl k_M_layValues (by decide +kernel) (by decide +kernel) (by decide +kernel) (ct_M_layValues X.la X.dd K (m0 G) N hm1 hro0.cm) rfl rfl (by decide) (by first | decide | simp [Value.category]) ?_
  refine a_aload_n (pc := 89) (q := 0) (i := 0) (x := 50) hC (by decide +kernel) rfl 1 rfl ?_
  refine g_get (pc := 90) (idx := 143) (ci := 6) (v := vi ((layV (m0 G) N) 50 19)) hC 50 19 (by decide +kernel) rfl rfl rfl rfl wrM (by decide) rfl (by decide +kernel) ?_
  refine g_top (y := (coS (vaG (m0 G) N) N (nPl (m0 G) N)).2) (by unfold layV; exact coG_19 _ _ _) ?_
  exact g_iret (pc := 93) hC hE (by decide +kernel) rfl rfl

set_option maxRecDepth 100000 in
set_option maxHeartbeats 4000000 in
theorem ct_M_told_4 (l : Launch) (D : va_G) (K : K5) (G : GT) (N : Nat) (hmm : MM G N) (hro0 : RefOk (m0 G) N) : Ct l D K y_M_told c_M_told 4 (some .int) 5 117 [.ref 50, vi 4] G (some (vi (sumMT G N))) (m0 G) := by
  refine Ct.intro (by decide +kernel) (Nat.le_of_ble_eq_true rfl) ?_
  intro X hro hty hC hE
  obtain ⟨hn, hN5, hsh, hac, hpa, hwe, hth, hch⟩ := id hmm
  have hm1 := hmm.m0
  refine a_aload_n (pc := 0) (q := 0) (i := 0) (x := 50) hC (by decide +kernel) rfl 0 rfl ?_
  refine a_iconst (pc := 1) (c := 0) hC (by decide +kernel) ?_
  refine g_put (pc := 2) (idx := 62) (ci := 6) (x := 0) hC 50 0 (by decide +kernel) rfl rfl (congrArg (fun z => vi z) (up_s _ _ _)) rfl wrM (by decide) rfl (by decide +kernel) rfl (ok_int _) ?_
  refine g_G (G' := m0 G) rfl ?_
  refine a_iconst (pc := 5) (c := 0) hC (by decide +kernel) ?_
  refine a_istore_n (pc := 6) (q := 2) (i := 2) (lv' := [(2, vi 0), (0, .ref 50), (1, vi 4)]) hC (by decide +kernel) rfl (by decide) rfl ?_
  refine a_iload_n (pc := 7) (q := 1) (i := 1) (x := 4) hC (by decide +kernel) rfl 2 rfl ?_
  refine a_tabIn (pc := 8) (dflt := 121) (lo := 0) (hi := 4) (offs := #[36, 41, 68, 77, 86]) (len := 36) (off := 86) hC 94 ⟨by decide, by decide⟩ (by decide +kernel) (by decide) (by decide) rfl (by decide) ?_
  refine a_iconst (pc := 94) (c := 0) hC (by decide +kernel) ?_
  refine a_istore_n (pc := 95) (q := 3) (i := 3) (lv' := [(3, vi 0), (2, vi 0), (0, .ref 50), (1, vi 4)]) hC (by decide +kernel) rfl (by decide) rfl ?_
  have L96 : ∀ (fuel : Nat) (s : Nat), N - s < fuel → s ≤ N → AW X 4 0 0 96 [(3, vi ((s : Int))), (2, vi (sumMT G s)), (0, .ref 50)] [] (hp K (m0 G)) := by
    intro fuel
    induction fuel with
    | zero => intro s h; exact absurd h (Nat.not_lt_zero _)
    | succ fuel ih96 =>
      intro s hm hs
      refine a_iload_n (pc := 96) (q := 3) (i := 3) (x := (s : Int)) hC (by decide +kernel) rfl 0 rfl ?_
      refine a_aload_n (pc := 97) (q := 0) (i := 0) (x := 50) hC (by decide +kernel) rfl 2 rfl ?_
      refine g_get (pc := 98) (idx := 72) (ci := 6) (v := vi ((m0 G) 50 1)) hC 50 1 (by decide +kernel) rfl rfl rfl rfl wrM (by decide) rfl (by decide +kernel) ?_
      refine g_top (y := (N : Int)) (by rw [m0_k (by decide)]; exact hn) ?_
      refine a_icmp_ge (pc := 101) (off := 26) hC 127 (by decide +kernel) (by decide) (by unfold inI; omega) (by unfold inI; omega) (fun c101 => ?_) (fun c101 => ?_)
      · skip
        refine a_iload_n (pc := 127) (q := 2) (i := 2) (x := sumMT G s) hC (by decide +kernel) rfl 1 rfl ?_
        exact g_iret (pc := 128) hC hE (by decide +kernel) (by rw [show s = N by omega]) rfl
      · skip
        have h51 := hth s (by omega)
        refine a_iload_n (pc := 104) (q := 2) (i := 2) (x := sumMT G s) hC (by decide +kernel) rfl 1 rfl ?_
        refine a_aload_n (pc := 105) (q := 0) (i := 0) (x := 50) hC (by decide +kernel) rfl 2 rfl ?_
        refine g_get (pc := 106) (idx := 7) (ci := 6) (v := .ref 51) hC 50 2 (by decide +kernel) rfl rfl rfl rfl wrM (by decide) rfl (by decide +kernel) ?_
        refine a_iload_n (pc := 109) (q := 3) (i := 3) (x := (s : Int)) hC (by decide +kernel) rfl 0 rfl ?_
        refine g_zald (pc := 110) (a := 51) (j := s) hC hty (by decide +kernel) rfl (by omega) (by first | decide | omega) ?_
        refine g_top (y := G 51 s) (by rw [m0_n (by decide)]) ?_
        refine a_if_eq (pc := 111) (off := 7) hC 118 (by decide +kernel) (by decide) (by unfold inI; omega) (fun c111 => ?_) (fun c111 => ?_)
        · skip
          have hst : sumMT G s + 0 = sumMT G (s + 1) := by show _ = _ + _; rw [if_pos c111]
          refine a_iconst (pc := 118) (c := 0) hC (by decide +kernel) ?_
          refine a_iadd (pc := 119) hC (by decide +kernel) ?_
          refine a_istore_n (pc := 120) (q := 2) (i := 2) (lv' := [(2, vi ((sumMT G s) + 0)), (3, vi ((s : Int))), (0, .ref 50)]) hC (by decide +kernel) rfl (by decide) rfl ?_
          refine a_iinc (pc := 121) (i := 3) (c := 1) (x := (s : Int)) (lv' := [(3, vi (((s : Int)) + 1)), (2, vi ((sumMT G s) + 0)), (0, .ref 50)]) hC (by decide +kernel) 1 rfl (by decide) rfl ?_
          refine a_goto (pc := 124) (off := -28) hC 96 (by decide +kernel) (by decide) ?_
          refine a_sub (lv' := [(3, vi (((s + 1) : Int))), (2, vi (sumMT G (s + 1))), (0, .ref 50)]) [0, 1, 2] (by rw [← hst]; rfl) ?_
          exact ih96 (s + 1) (by omega) (by omega)
        · skip
          have hst : sumMT G s + 1 = sumMT G (s + 1) := by show _ = _ + _; rw [if_neg c111]
          refine a_iconst (pc := 114) (c := 1) hC (by decide +kernel) ?_
          refine a_goto (pc := 115) (off := 4) hC 119 (by decide +kernel) (by decide) ?_
          refine a_iadd (pc := 119) hC (by decide +kernel) ?_
          refine a_istore_n (pc := 120) (q := 2) (i := 2) (lv' := [(2, vi ((sumMT G s) + 1)), (3, vi ((s : Int))), (0, .ref 50)]) hC (by decide +kernel) rfl (by decide) rfl ?_
          refine a_iinc (pc := 121) (i := 3) (c := 1) (x := (s : Int)) (lv' := [(3, vi (((s : Int)) + 1)), (2, vi ((sumMT G s) + 1)), (0, .ref 50)]) hC (by decide +kernel) 1 rfl (by decide) rfl ?_
          refine a_goto (pc := 124) (off := -28) hC 96 (by decide +kernel) (by decide) ?_
          refine a_sub (lv' := [(3, vi (((s + 1) : Int))), (2, vi (sumMT G (s + 1))), (0, .ref 50)]) [0, 1, 2] (by rw [← hst]; rfl) ?_
          exact ih96 (s + 1) (by omega) (by omega)
  refine a_sub (lv' := [(3, vi ((0 : Int))), (2, vi (sumMT G 0)), (0, .ref 50)]) [0, 1, 2] rfl ?_
  exact L96 _ 0 (Nat.lt_succ_self _) (by omega)

set_option maxRecDepth 100000 in
set_option maxHeartbeats 4000000 in
theorem ct_M_told_bad (l : Launch) (D : va_G) (K : K5) (G : GT) (N : Nat) (x : Int) (hxi : inI x) (hbad : x < 0 ∨ 4 < x) : Ct l D K y_M_told c_M_told 4 (some .int) 5 117 [.ref 50, vi x] G (some (vi (-2))) (m0 G) := by
  refine Ct.intro (by decide +kernel) (Nat.le_of_ble_eq_true rfl) ?_
  intro X hro hty hC hE
  refine a_aload_n (pc := 0) (q := 0) (i := 0) (x := 50) hC (by decide +kernel) rfl 0 rfl ?_
  refine a_iconst (pc := 1) (c := 0) hC (by decide +kernel) ?_
  refine g_put (pc := 2) (idx := 62) (ci := 6) (x := 0) hC 50 0 (by decide +kernel) rfl rfl (congrArg (fun z => vi z) (up_s _ _ _)) rfl wrM (by decide) rfl (by decide +kernel) rfl (ok_int _) ?_
  refine g_G (G' := m0 G) rfl ?_
  refine a_iconst (pc := 5) (c := 0) hC (by decide +kernel) ?_
  refine a_istore_n (pc := 6) (q := 2) (i := 2) (lv' := [(2, vi 0), (0, .ref 50), (1, vi x)]) hC (by decide +kernel) rfl (by decide) rfl ?_
  refine a_iload_n (pc := 7) (q := 1) (i := 1) (x := x) hC (by decide +kernel) rfl 2 rfl ?_
  refine a_tabOut (pc := 8) (dflt := 121) (lo := 0) (hi := 4) (offs := #[36, 41, 68, 77, 86]) (len := 36) hC 129 hxi (by decide +kernel) hbad (by decide) ?_
  refine a_bipush (pc := 129) (c := -2) hC (by decide +kernel) (by decide +kernel) ?_
  exact g_iret (pc := 131) hC hE (by decide +kernel) rfl rfl
