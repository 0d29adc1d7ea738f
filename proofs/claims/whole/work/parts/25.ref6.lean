/-! the reference: layValues -/
theorem aiS_congr {G G' : GT} (h : G' 52 = G 52) (p : Nat) : ∀ t, aiS G' p t = aiS G p t
  | 0 => rfl
  | t + 1 => by unfold aiS; rw [aiS_congr h p t, h]
theorem actZ_congr {G G' : GT} (h : G' 52 = G 52) (p s : Nat) : actZ G' p s = actZ G p s := by unfold actZ; rw [aiS_congr h, h]
theorem agS_congr {G G' : GT} (h1 : G' 51 = G 51) (h2 : G' 52 = G 52) (p q : Nat) (b : Int) : ∀ n, agS G' p q b n = agS G p q b n
  | 0 => rfl
  | n + 1 => by unfold agS; rw [agS_congr h1 h2 p q b n, h1, actZ_congr h2, actZ_congr h2]
theorem hzS_congr {G G' : GT} (h1 : G' 51 = G 51) (h2 : G' 52 = G 52) (p : Nat) : ∀ n, hzS G' p n = hzS G p n
  | 0 => rfl
  | n + 1 => by unfold hzS; rw [hzS_congr h1 h2 p n, h1, actZ_congr h2]
theorem cmU_congr {G G' : GT} (h1 : G' 59 = G 59) (h2 : G' 60 = G 60) (s p q : Nat) : cmU G' s p q = cmU G s p q := by unfold cmU; rw [h1, h2]
theorem utS_congr {G G' : GT} (h : ∀ b, b ≤ 60 → G' b = G b) (N s p : Nat) (b g : Int) : ∀ q, utS G' N s p b g q = utS G N s p b g q
  | 0 => rfl
  | q + 1 => by unfold utS; rw [utS_congr h N s p b g q, agS_congr (h 51 (by omega)) (h 52 (by omega)), cmU_congr (h 59 (by omega)) (h 60 (by omega))]
theorem haS_congr {G G' : GT} (h1 : G' 59 = G 59) (h2 : G' 60 = G 60) (h3 : G' 61 = G 61) (p : Nat) : ∀ n, haS G' p n = haS G p n
  | 0 => rfl
  | n + 1 => by unfold haS; rw [haS_congr h1 h2 h3 p n, h3, cmU_congr h1 h2]
theorem CmOk.congr {G G' : GT} {N P : Nat} (h : CmOk G N P) (h1 : G' 59 = G 59) (h2 : G' 60 = G 60) : CmOk G' N P := ⟨h.1, fun s p q hs hp hq => by rw [h1, h2]; exact h.2 s p q hs hp hq⟩
def vaS (G : GT) (N P s : Nat) : Nat → Int
  | 0 => -1
  | p + 1 => if hzS G p N = true then (if vaS G N P s p = -1 ∨ 0 < cmU G s (utS G N s p 0 0 P) (vaS G N P s p).toNat then ((utS G N s p 0 0 P : Nat) : Int) else vaS G N P s p) else vaS G N P s p
theorem vaS_in {G : GT} {N P s : Nat} : ∀ p, p ≤ P → -1 ≤ vaS G N P s p ∧ vaS G N P s p < (P : Int)
  | 0, h => by unfold vaS; omega
  | p + 1, h => by
    have ih := vaS_in (G := G) (N := N) (P := P) (s := s) p (by omega)
    have hu := utS_lt (G := G) (N := N) (s := s) (b := 0) (g := 0) (by omega : p < P) P (Nat.le_refl _)
    unfold vaS
    split
    · split
      · omega
      · exact ih
    · exact ih
theorem aiS_0 {G : GT} : ∀ t, aiS G 0 t = 0
  | 0 => rfl
  | t + 1 => by unfold aiS; rw [aiS_0 t]; split; rfl; exact Int.zero_tdiv _
theorem hz_0 (G : GT) : ∀ n, hzS G 0 n = true
  | 0 => rfl
  | n + 1 => by
    have : actZ G 0 n ≤ 0 := by unfold actZ; rw [aiS_0]; split; decide; rw [Int.zero_tmod]; exact Int.le_refl _
    unfold hzS; rw [hz_0 G n]; simp; exact Or.inr this
theorem vaS_nn {G : GT} {N P s : Nat} : ∀ p, 1 ≤ p → 0 ≤ vaS G N P s p
  | 0, h => by omega
  | p + 1, _ => by
    by_cases hp : p = 0
    · subst hp
      unfold vaS
      have hm1 : vaS G N P s 0 = -1 ∨ 0 < cmU G s (utS G N s 0 0 0 P) (vaS G N P s 0).toNat := Or.inl rfl
      rw [if_pos (hz_0 G N), if_pos hm1]
      omega
    · have ih := vaS_nn (G := G) (N := N) (P := P) (s := s) p (by omega)
      unfold vaS
      split
      · split
        · omega
        · exact ih
      · exact ih
def vaF (G : GT) (N P i : Nat) : Nat → Int := fun z => if z < i then vaS G N P z P else G 61 z
theorem vaF_0 (G : GT) (N P : Nat) : vaF G N P 0 = G 61 := by funext j; exact if_neg (by omega)
theorem vaF_s (G : GT) (N P i : Nat) : up (vaF G N P i) i (vaS G N P i P) = vaF G N P (i + 1) := by
  funext j; unfold up vaF
  by_cases h : j = i
  · subst h; rw [if_pos rfl, if_pos (by omega)]
  · rw [if_neg h]
    by_cases h2 : j < i
    · rw [if_pos h2, if_pos (by omega)]
    · rw [if_neg h2, if_neg (by omega)]
def coS (G : GT) (N : Nat) : Nat → Int × Int
  | 0 => (-1, 0)
  | p + 1 => if haS G p N = true then ((p : Int), (coS G N p).2 + 1) else coS G N p
def coG (G : GT) (N p : Nat) : GT := uG G 50 (up (up (G 50) 18 (coS G N p).1) 19 (coS G N p).2)
theorem coG_n {G : GT} {N p b : Nat} (h : b ≠ 50) : coG G N p b = G b := uG_n _ _ h
theorem coG_k {G : GT} {N p k : Nat} (h : k ≠ 18) (h2 : k ≠ 19) : coG G N p 50 k = G 50 k := by unfold coG; rw [uG_s, up_n _ _ h2, up_n _ _ h]
theorem coG_18 (G : GT) (N p : Nat) : coG G N p 50 18 = (coS G N p).1 := by unfold coG; rw [uG_s, up_n _ _ (by decide), up_s]
theorem coG_19 (G : GT) (N p : Nat) : coG G N p 50 19 = (coS G N p).2 := by unfold coG; rw [uG_s, up_s]
/-- the plans laid, their count, the values' plans -/
def nPl (G : GT) (N : Nat) : Nat := (plS G N).toNat
def vaG (G : GT) (N : Nat) : GT := uG (layP G N) 61 (vaF (layP G N) N (nPl G N) N)
def layV (G : GT) (N : Nat) : GT := coG (vaG G N) N (nPl G N)

set_option maxRecDepth 100000 in
set_option maxHeartbeats 4000000 in
theorem ct_M_layValues (l : Launch) (D : va_G) (K : K5) (G : GT) (N : Nat) (hmm : MM G N) (hcm : CmOk (layP G N) N (nPl G N)) : Ct l D K y_M_layValues c_M_layValues 5 none 4 93 [.ref 50] G none (layV G N) := by
  refine Ct.intro (by decide +kernel) (Nat.le_of_ble_eq_true rfl) ?_
  intro X hro hty hC hE
  obtain ⟨hn, hN5, hsh, hac, hpa, hwe, hth, hch⟩ := id hmm
  have hP0 := plS_243 hac hN5
  obtain ⟨P, hPe⟩ : ∃ P : Nat, nPl G N = P := ⟨_, rfl⟩
  have hP : plS G N = (P : Int) := by unfold nPl at hPe; omega
  rw [hPe] at hcm
  have hP243 := hcm.1
  have hmH := hmm.lay
  have h14 : (layP G N) 50 14 = (P : Int) := by rw [layP_50, pl0_p]; exact hP
  refine a_aload_n (pc := 0) (q := 0) (i := 0) (x := 50) hC (by decide +kernel) rfl 0 rfl ?_
  refine g_callV0 (pc := 1) (idx := 130) (i := 50) (av := []) (rest := []) (g := layP G N) hC hro hty (by decide +kernel) rfl rfl k_M_layPlans (by decide +kernel) (by decide +kernel) (by decide +kernel) (ct_M_layPlans X.la X.dd K G N hmm) rfl rfl (by decide) (by first | decide | simp [Value.category]) ?_
  refine a_iconst (pc := 4) (c := 0) hC (by decide +kernel) ?_
  refine a_istore_n (pc := 5) (q := 1) (i := 1) (lv' := [(1, vi 0), (0, .ref 50)]) hC (by decide +kernel) rfl (by decide) rfl ?_
  have L6 : ∀ (fuel : Nat) (s : Nat), N - s < fuel → s ≤ N → AW X 5 0 0 6 [(1, vi ((s : Int))), (0, .ref 50)] [] (hp K (uG (layP G N) 61 (vaF (layP G N) N P s))) := by
    intro fuel
    induction fuel with
    | zero => intro s h; exact absurd h (Nat.not_lt_zero _)
    | succ fuel ih6 =>
      intro s hm hs
      refine a_iload_n (pc := 6) (q := 1) (i := 1) (x := (s : Int)) hC (by decide +kernel) rfl 0 rfl ?_
      refine a_aload_n (pc := 7) (q := 0) (i := 0) (x := 50) hC (by decide +kernel) rfl 1 rfl ?_
      refine g_get (pc := 8) (idx := 72) (ci := 6) (v := vi ((uG (layP G N) 61 (vaF (layP G N) N P s)) 50 1)) hC 50 1 (by decide +kernel) rfl rfl rfl rfl wrM (by decide) rfl (by decide +kernel) ?_
      refine g_top (y := (N : Int)) (by rw [uG_n _ _ (by decide)]; exact hmH.1) ?_
      refine a_icmp_ge (pc := 11) (off := 75) hC 86 (by decide +kernel) (by decide) (by unfold inI; omega) (by unfold inI; omega) (fun c11 => ?_) (fun c11 => ?_)
      · skip
        have hsN : s = N := by omega
        refine a_aload_n (pc := 86) (q := 0) (i := 0) (x := 50) hC (by decide +kernel) rfl 1 rfl ?_
        refine a_iconst (pc := 87) (c := -1) hC (by decide +kernel) ?_
        refine g_put (pc := 88) (idx := 140) (ci := 6) (x := -1) hC 50 18 (by decide +kernel) rfl rfl (congrArg (fun z => vi z) (up_s _ _ _)) rfl wrM (by decide) rfl (by decide +kernel) rfl (ok_int _) ?_
        refine a_aload_n (pc := 91) (q := 0) (i := 0) (x := 50) hC (by decide +kernel) rfl 1 rfl ?_
        refine a_iconst (pc := 92) (c := 0) hC (by decide +kernel) ?_
        refine g_put (pc := 93) (idx := 143) (ci := 6) (x := 0) hC 50 19 (by decide +kernel) rfl rfl (congrArg (fun z => vi z) (up_s _ _ _)) rfl wrM (by decide) rfl (by decide +kernel) rfl (ok_int _) ?_
        refine g_G (G' := coG (vaG G N) N 0) (by rw [hsN, ← hPe]; unfold coG; rw [uG_s, uG_uG]; rfl) ?_
        refine a_iconst (pc := 96) (c := 0) hC (by decide +kernel) ?_
        refine a_istore_n (pc := 97) (q := 1) (i := 1) (lv' := [(1, vi 0), (0, .ref 50)]) hC (by decide +kernel) rfl (by decide) rfl ?_
        have L98 : ∀ (fuel : Nat) (p : Nat), P - p < fuel → p ≤ P → AW X 5 0 0 98 [(1, vi ((p : Int))), (0, .ref 50)] [] (hp K (coG (vaG G N) N p)) := by
          intro fuel
          induction fuel with
          | zero => intro p h; exact absurd h (Nat.not_lt_zero _)
          | succ fuel ih98 =>
            intro p hm hp0
            have hvg : ∀ b, b ≤ 60 → (vaG G N) b = (layP G N) b := fun b hb => uG_n _ _ (by omega)
            refine a_iload_n (pc := 98) (q := 1) (i := 1) (x := (p : Int)) hC (by decide +kernel) rfl 0 rfl ?_
            refine a_aload_n (pc := 99) (q := 0) (i := 0) (x := 50) hC (by decide +kernel) rfl 1 rfl ?_
            refine g_get (pc := 100) (idx := 109) (ci := 6) (v := vi ((coG (vaG G N) N p) 50 14)) hC 50 14 (by decide +kernel) rfl rfl rfl rfl wrM (by decide) rfl (by decide +kernel) ?_
            refine g_top (y := (P : Int)) (by rw [coG_k (by decide) (by decide), hvg 50 (by omega)]; exact h14) ?_
            refine a_icmp_ge (pc := 103) (off := 32) hC 135 (by decide +kernel) (by decide) (by unfold inI; omega) (by unfold inI; omega) (fun c103 => ?_) (fun c103 => ?_)
            · skip
              exact g_vret (pc := 135) hC hE (by decide +kernel) (by rw [show p = P by omega]; unfold layV; rw [hPe])
            · skip
              have hcc : ∀ b, b ≠ 50 → coG (vaG G N) N p b = (vaG G N) b := fun b hb => coG_n hb
              have hmC : MM (coG (vaG G N) N p) N := (hmH.off (fun b hb => hvg b (by omega))).keep (fun a ha => hcc a (by omega)) (fun k hk => coG_k (by omega) (by omega))
              have hb3 := bZ_01 (haS (vaG G N) p N)
              refine a_aload_n (pc := 106) (q := 0) (i := 0) (x := 50) hC (by decide +kernel) rfl 1 rfl ?_
              refine a_iload_n (pc := 107) (q := 1) (i := 1) (x := (p : Int)) hC (by decide +kernel) rfl 0 rfl ?_
              refine g_callV (pc := 108) (idx := 146) (i := 50) (av := [vi ((p : Int))]) (rest := []) (g := coG (vaG G N) N p) (v := vi (bZ (haS (coG (vaG G N) N p) p N))) hC hro hty (by decide +kernel) rfl rfl k_M_hasAllValues (by decide +kernel) (by decide +kernel) (by decide +kernel) (ct_M_hasAllValues X.la X.dd K (coG (vaG G N) N p) N P p (by omega) hmC (hcm.congr (by rw [hcc 59 (by decide), hvg 59 (by decide)]) (by rw [hcc 60 (by decide), hvg 60 (by decide)])) (fun z hz => by rw [hcc 61 (by decide)]; unfold vaG; rw [uG_s]; unfold vaF; rw [if_pos hz, hPe]; exact ⟨vaS_nn P (by omega), (vaS_in P (Nat.le_refl _)).2⟩)) rfl rfl (by decide) (by first | decide | simp [Value.category]) ?_
              refine g_top (y := bZ (haS (vaG G N) p N)) (by rw [haS_congr (hcc 59 (by decide)) (hcc 60 (by decide)) (hcc 61 (by decide))]) ?_
              refine a_if_eq (pc := 111) (off := 18) hC 129 (by decide +kernel) (by decide) (by unfold inI; omega) (fun c111 => ?_) (fun c111 => ?_)
              · skip
                have hz : haS (vaG G N) p N = false := by
                  cases hh : haS (vaG G N) p N
                  · rfl
                  · rw [hh] at c111; exact absurd c111 (by decide)
                have hst : coS (vaG G N) N (p + 1) = coS (vaG G N) N p := by show (if _ then _ else _) = _; rw [if_neg (by rw [hz]; decide)]
                refine a_iinc (pc := 129) (i := 1) (c := 1) (x := (p : Int)) (lv' := [(1, vi (((p : Int)) + 1)), (0, .ref 50)]) hC (by decide +kernel) 0 rfl (by decide) rfl ?_
                refine a_goto (pc := 132) (off := -34) hC 98 (by decide +kernel) (by decide) ?_
                refine a_sub (lv' := [(1, vi (((p + 1) : Int))), (0, .ref 50)]) [0, 1] rfl ?_
                refine g_G (G' := coG (vaG G N) N (p + 1)) (by first | (unfold coG; rw [hst]; done) | (unfold coG; rw [hst, uG_s, uG_uG, uG_s, uG_uG]; congr 1; funext z; unfold up; split; rfl; split; rfl; rfl)) ?_
                exact ih98 (p + 1) (by omega) (by omega)
              · skip
                have hz : haS (vaG G N) p N = true := by
                  cases hh : haS (vaG G N) p N
                  · rw [hh] at c111; exact absurd rfl c111
                  · rfl
                have hst : coS (vaG G N) N (p + 1) = ((p : Int), (coS (vaG G N) N p).2 + 1) := by show (if _ then _ else _) = _; rw [if_pos hz]
                refine a_aload_n (pc := 114) (q := 0) (i := 0) (x := 50) hC (by decide +kernel) rfl 1 rfl ?_
                refine a_iload_n (pc := 115) (q := 1) (i := 1) (x := (p : Int)) hC (by decide +kernel) rfl 0 rfl ?_
                refine g_put (pc := 116) (idx := 140) (ci := 6) (x := (p : Int)) hC 50 18 (by decide +kernel) rfl rfl (congrArg (fun z => vi z) (up_s _ _ _)) rfl wrM (by decide) rfl (by decide +kernel) rfl (ok_int _) ?_
                refine a_aload_n (pc := 119) (q := 0) (i := 0) (x := 50) hC (by decide +kernel) rfl 1 rfl ?_
                refine a_dup (pc := 120) hC (by decide +kernel) rfl ?_
                refine g_get (pc := 121) (idx := 143) (ci := 6) (v := vi ((uG (coG (vaG G N) N p) 50 (up ((coG (vaG G N) N p) 50) 18 ((p : Int)))) 50 19)) hC 50 19 (by decide +kernel) rfl rfl rfl rfl wrM (by decide) rfl (by decide +kernel) ?_
                refine g_top (y := (coS (vaG G N) N p).2) (by rw [uG_s, up_n _ _ (by decide)]; exact coG_19 _ _ _) ?_
                refine a_iconst (pc := 124) (c := 1) hC (by decide +kernel) ?_
                refine a_iadd (pc := 125) hC (by decide +kernel) ?_
                refine g_put (pc := 126) (idx := 143) (ci := 6) (x := ((coS (vaG G N) N p).2) + 1) hC 50 19 (by decide +kernel) rfl rfl (congrArg (fun z => vi z) (up_s _ _ _)) rfl wrM (by decide) rfl (by decide +kernel) rfl (ok_int _) ?_
                refine a_iinc (pc := 129) (i := 1) (c := 1) (x := (p : Int)) (lv' := [(1, vi (((p : Int)) + 1)), (0, .ref 50)]) hC (by decide +kernel) 0 rfl (by decide) rfl ?_
                refine a_goto (pc := 132) (off := -34) hC 98 (by decide +kernel) (by decide) ?_
                refine a_sub (lv' := [(1, vi (((p + 1) : Int))), (0, .ref 50)]) [0, 1] rfl ?_
                refine g_G (G' := coG (vaG G N) N (p + 1)) (by first | (unfold coG; rw [hst]; done) | (unfold coG; rw [hst, uG_s, uG_uG, uG_s, uG_uG]; congr 1; funext z; unfold up; split; rfl; split; rfl; rfl)) ?_
                exact ih98 (p + 1) (by omega) (by omega)
        refine a_sub (lv' := [(1, vi ((0 : Int))), (0, .ref 50)]) [0, 1] rfl ?_
        exact L98 _ 0 (Nat.lt_succ_self _) (by omega)
      · skip
        have hcg : ∀ c, c ≤ 60 → uG (layP G N) 61 (vaF (layP G N) N P s) c = (layP G N) c := fun c hc => uG_n _ _ (by omega)
        have hmS : MM (uG (layP G N) 61 (vaF (layP G N) N P s)) N := hmH.off (fun b hb => hcg b (by omega))
        have hcS : CmOk (uG (layP G N) 61 (vaF (layP G N) N P s)) N P := hcm.congr (hcg 59 (by omega)) (hcg 60 (by omega))
        refine a_iconst (pc := 14) (c := -1) hC (by decide +kernel) ?_
        refine a_istore_n (pc := 15) (q := 2) (i := 2) (lv' := [(2, vi (-1)), (1, vi ((s : Int))), (0, .ref 50)]) hC (by decide +kernel) rfl (by decide) rfl ?_
        refine a_iconst (pc := 16) (c := 0) hC (by decide +kernel) ?_
        refine a_istore_n (pc := 17) (q := 3) (i := 3) (lv' := [(3, vi 0), (2, vi (-1)), (1, vi ((s : Int))), (0, .ref 50)]) hC (by decide +kernel) rfl (by decide) rfl ?_
        have L18 : ∀ (fuel : Nat) (p : Nat), P - p < fuel → p ≤ P → AW X 5 0 0 18 [(3, vi ((p : Int))), (2, vi (vaS (layP G N) N P s p)), (1, vi ((s : Int))), (0, .ref 50)] [] (hp K (uG (layP G N) 61 (vaF (layP G N) N P s))) := by
          intro fuel
          induction fuel with
          | zero => intro p h; exact absurd h (Nat.not_lt_zero _)
          | succ fuel ih18 =>
            intro p hm hp0
            have hvi := vaS_in (G := (layP G N)) (N := N) (s := s) p hp0
            refine a_iload_n (pc := 18) (q := 3) (i := 3) (x := (p : Int)) hC (by decide +kernel) rfl 0 rfl ?_
            refine a_aload_n (pc := 19) (q := 0) (i := 0) (x := 50) hC (by decide +kernel) rfl 3 rfl ?_
            refine g_get (pc := 20) (idx := 109) (ci := 6) (v := vi ((uG (layP G N) 61 (vaF (layP G N) N P s)) 50 14)) hC 50 14 (by decide +kernel) rfl rfl rfl rfl wrM (by decide) rfl (by decide +kernel) ?_
            refine g_top (y := (P : Int)) (by rw [hcg 50 (by omega)]; exact h14) ?_
            refine a_icmp_ge (pc := 23) (off := 50) hC 73 (by decide +kernel) (by decide) (by unfold inI; omega) (by unfold inI; omega) (fun c23 => ?_) (fun c23 => ?_)
            · skip
              have hpP : p = P := by omega
              refine a_aload_n (pc := 73) (q := 0) (i := 0) (x := 50) hC (by decide +kernel) rfl 3 rfl ?_
              refine g_get (pc := 74) (idx := 53) (ci := 6) (v := .ref 61) hC 50 17 (by decide +kernel) rfl rfl rfl rfl wrM (by decide) rfl (by decide +kernel) ?_
              refine a_iload_n (pc := 77) (q := 1) (i := 1) (x := (s : Int)) hC (by decide +kernel) rfl 2 rfl ?_
              refine a_iload_n (pc := 78) (q := 2) (i := 2) (x := vaS (layP G N) N P s p) hC (by decide +kernel) rfl 1 rfl ?_
              refine g_iast (pc := 79) (a := 61) (j := s) (x := vaS (layP G N) N P s p) hC hty (by decide +kernel) rfl (by omega) (by first | decide | omega) ?_
              refine a_iinc (pc := 80) (i := 1) (c := 1) (x := (s : Int)) (lv' := [(1, vi (((s : Int)) + 1)), (3, vi ((p : Int))), (2, vi (vaS (layP G N) N P s p)), (0, .ref 50)]) hC (by decide +kernel) 2 rfl (by decide) rfl ?_
              refine a_goto (pc := 83) (off := -77) hC 6 (by decide +kernel) (by decide) ?_
              refine a_sub (lv' := [(1, vi (((s + 1) : Int))), (0, .ref 50)]) [0, 3] rfl ?_
              refine g_G (G' := uG (layP G N) 61 (vaF (layP G N) N P (s + 1))) (by rw [uG_s, uG_uG, hpP, vaF_s]) ?_
              exact ih6 (s + 1) (by omega) (by omega)
            · skip
              have hlt : p < P := by omega
              have hb1 := bZ_01 (hzS (layP G N) p N)
              have hul := utS_lt (G := (layP G N)) (N := N) (s := s) (b := 0) (g := 0) hlt P (Nat.le_refl _)
              refine a_aload_n (pc := 26) (q := 0) (i := 0) (x := 50) hC (by decide +kernel) rfl 3 rfl ?_
              refine a_iload_n (pc := 27) (q := 3) (i := 3) (x := (p : Int)) hC (by decide +kernel) rfl 0 rfl ?_
              refine g_callV (pc := 28) (idx := 133) (i := 50) (av := [vi ((p : Int))]) (rest := []) (g := uG (layP G N) 61 (vaF (layP G N) N P s)) (v := vi (bZ (hzS (uG (layP G N) 61 (vaF (layP G N) N P s)) p N))) hC hro hty (by decide +kernel) rfl rfl k_M_hasZeros (by decide +kernel) (by decide +kernel) (by decide +kernel) (ct_M_hasZeros X.la X.dd K (uG (layP G N) 61 (vaF (layP G N) N P s)) N P p (by omega) (by omega) hmS) rfl rfl (by decide) (by first | decide | simp [Value.category]) ?_
              refine g_top (y := bZ (hzS (layP G N) p N)) (by rw [hzS_congr (hcg 51 (by omega)) (hcg 52 (by omega))]) ?_
              refine a_if_eq (pc := 31) (off := 36) hC 67 (by decide +kernel) (by decide) (by unfold inI; omega) (fun c31 => ?_) (fun c31 => ?_)
              · skip
                have hz : hzS (layP G N) p N = false := by
                  cases hh : hzS (layP G N) p N
                  · rfl
                  · rw [hh] at c31; exact absurd c31 (by decide)
                have hst : (vaS (layP G N) N P s p) = vaS (layP G N) N P s (p + 1) := by show _ = (if _ then _ else _); rw [if_neg (by rw [hz]; decide)]
                refine a_iinc (pc := 67) (i := 3) (c := 1) (x := (p : Int)) (lv' := [(3, vi (((p : Int)) + 1)), (2, vi (vaS (layP G N) N P s p)), (1, vi ((s : Int))), (0, .ref 50)]) hC (by decide +kernel) 0 rfl (by decide) rfl ?_
                refine a_goto (pc := 70) (off := -52) hC 18 (by decide +kernel) (by decide) ?_
                refine a_sub (lv' := [(3, vi (((p + 1) : Int))), (2, vi (vaS (layP G N) N P s (p + 1))), (1, vi ((s : Int))), (0, .ref 50)]) [0, 1, 2, 3] (by rw [← hst]; rfl) ?_
                exact ih18 (p + 1) (by omega) (by omega)
              · skip
                have hz : hzS (layP G N) p N = true := by
                  cases hh : hzS (layP G N) p N
                  · rw [hh] at c31; exact absurd rfl c31
                  · rfl
                refine a_aload_n (pc := 34) (q := 0) (i := 0) (x := 50) hC (by decide +kernel) rfl 3 rfl ?_
                refine a_iload_n (pc := 35) (q := 1) (i := 1) (x := (s : Int)) hC (by decide +kernel) rfl 2 rfl ?_
                refine a_iload_n (pc := 36) (q := 3) (i := 3) (x := (p : Int)) hC (by decide +kernel) rfl 0 rfl ?_
                refine a_iconst (pc := 37) (c := 0) hC (by decide +kernel) ?_
                refine a_iconst (pc := 38) (c := 0) hC (by decide +kernel) ?_
                refine g_callV (pc := 39) (idx := 136) (i := 50) (av := [vi ((s : Int)), vi ((p : Int)), vi 0, vi 0]) (rest := []) (g := uG (layP G N) 61 (vaF (layP G N) N P s)) (v := vi (((utS (uG (layP G N) 61 (vaF (layP G N) N P s)) N s p 0 0 P : Nat) : Int))) hC hro hty (by decide +kernel) rfl rfl k_M_utmost (by decide +kernel) (by decide +kernel) (by decide +kernel) (ct_M_utmost X.la X.dd K (uG (layP G N) 61 (vaF (layP G N) N P s)) N P s p 0 0 (Or.inl rfl) (Or.inl rfl) (by omega) hlt (by rw [hcg 50 (by omega)]; exact h14) hmS hcS) rfl rfl (by decide) (by first | decide | simp [Value.category]) ?_
                refine g_top (y := (((utS (layP G N) N s p 0 0 P) : Nat) : Int)) (by rw [utS_congr hcg]) ?_
                refine a_istore (pc := 42) (q := 0) (i := 4) (lv' := [(4, vi ((((utS (layP G N) N s p 0 0 P) : Nat) : Int))), (3, vi ((p : Int))), (2, vi (vaS (layP G N) N P s p)), (1, vi ((s : Int))), (0, .ref 50)]) hC (by decide +kernel) (by decide) rfl ?_
                refine a_iload_n (pc := 44) (q := 2) (i := 2) (x := vaS (layP G N) N P s p) hC (by decide +kernel) rfl 2 rfl ?_
                refine a_iconst (pc := 45) (c := -1) hC (by decide +kernel) ?_
                refine a_icmp_eq (pc := 46) (off := 14) hC 60 (by decide +kernel) (by decide) (by unfold inI; omega) (by unfold inI; omega) (fun c46 => ?_) (fun c46 => ?_)
                · skip
                  have hst : (((utS (layP G N) N s p 0 0 P) : Nat) : Int) = vaS (layP G N) N P s (p + 1) := by show _ = (if _ then _ else _); rw [if_pos hz, if_pos (Or.inl c46)]
                  refine a_iload (pc := 60) (i := 4) (x := (((utS (layP G N) N s p 0 0 P) : Nat) : Int)) hC (by decide +kernel) 0 rfl ?_
                  refine a_goto (pc := 62) (off := 4) hC 66 (by decide +kernel) (by decide) ?_
                  refine a_istore_n (pc := 66) (q := 2) (i := 2) (lv' := [(2, vi ((((utS (layP G N) N s p 0 0 P) : Nat) : Int))), (4, vi ((((utS (layP G N) N s p 0 0 P) : Nat) : Int))), (3, vi ((p : Int))), (1, vi ((s : Int))), (0, .ref 50)]) hC (by decide +kernel) rfl (by decide) rfl ?_
                  refine a_iinc (pc := 67) (i := 3) (c := 1) (x := (p : Int)) (lv' := [(3, vi (((p : Int)) + 1)), (2, vi ((((utS (layP G N) N s p 0 0 P) : Nat) : Int))), (4, vi ((((utS (layP G N) N s p 0 0 P) : Nat) : Int))), (1, vi ((s : Int))), (0, .ref 50)]) hC (by decide +kernel) 2 rfl (by decide) rfl ?_
                  refine a_goto (pc := 70) (off := -52) hC 18 (by decide +kernel) (by decide) ?_
                  refine a_sub (lv' := [(3, vi (((p + 1) : Int))), (2, vi (vaS (layP G N) N P s (p + 1))), (1, vi ((s : Int))), (0, .ref 50)]) [0, 1, 3, 4] (by rw [← hst]; rfl) ?_
                  exact ih18 (p + 1) (by omega) (by omega)
                · skip
                  obtain ⟨v, hv, hvP⟩ : ∃ v : Nat, (vaS (layP G N) N P s p) = (v : Int) ∧ v < P := ⟨(vaS (layP G N) N P s p).toNat, by omega, by omega⟩
                  have hvn : (vaS (layP G N) N P s p).toNat = v := by omega
                  have hcu := cmU_in (layP G N) s (utS (layP G N) N s p 0 0 P) v
                  refine a_aload_n (pc := 49) (q := 0) (i := 0) (x := 50) hC (by decide +kernel) rfl 4 rfl ?_
                  refine a_iload_n (pc := 50) (q := 1) (i := 1) (x := (s : Int)) hC (by decide +kernel) rfl 3 rfl ?_
                  refine a_iload (pc := 51) (i := 4) (x := (((utS (layP G N) N s p 0 0 P) : Nat) : Int)) hC (by decide +kernel) 0 rfl ?_
                  refine a_iload_n (pc := 53) (q := 2) (i := 2) (x := vaS (layP G N) N P s p) hC (by decide +kernel) rfl 2 rfl ?_
                  refine g_top (y := (v : Int)) hv ?_
                  refine g_callV (pc := 54) (idx := 127) (i := 50) (av := [vi ((s : Int)), vi ((((utS (layP G N) N s p 0 0 P) : Nat) : Int)), vi ((v : Int))]) (rest := []) (g := uG (layP G N) 61 (vaF (layP G N) N P s)) (v := vi (cmU (uG (layP G N) 61 (vaF (layP G N) N P s)) s ((utS (layP G N) N s p 0 0 P)) v)) hC hro hty (by decide +kernel) rfl rfl k_M_compare (by decide +kernel) (by decide +kernel) (by decide +kernel) (ct_M_compare X.la X.dd K (uG (layP G N) 61 (vaF (layP G N) N P s)) N P s ((utS (layP G N) N s p 0 0 P)) v (by omega) (by omega) (by omega) (by omega) hcS) rfl rfl (by decide) (by first | decide | simp [Value.category]) ?_
                  refine g_top (y := cmU (layP G N) s (utS (layP G N) N s p 0 0 P) v) (cmU_congr (hcg 59 (by omega)) (hcg 60 (by omega)) _ _ _) ?_
                  refine a_if_le (pc := 57) (off := 8) hC 65 (by decide +kernel) (by decide) (by unfold inI; omega) (fun c57 => ?_) (fun c57 => ?_)
                  · skip
                    have hst : (vaS (layP G N) N P s p) = vaS (layP G N) N P s (p + 1) := by show _ = (if _ then _ else _); rw [if_pos hz, if_neg (by rw [hvn]; omega)]
                    refine a_iload_n (pc := 65) (q := 2) (i := 2) (x := vaS (layP G N) N P s p) hC (by decide +kernel) rfl 2 rfl ?_
                    refine a_istore_n (pc := 66) (q := 2) (i := 2) (lv' := [(2, vi (vaS (layP G N) N P s p)), (4, vi ((((utS (layP G N) N s p 0 0 P) : Nat) : Int))), (3, vi ((p : Int))), (1, vi ((s : Int))), (0, .ref 50)]) hC (by decide +kernel) rfl (by decide) rfl ?_
                    refine a_iinc (pc := 67) (i := 3) (c := 1) (x := (p : Int)) (lv' := [(3, vi (((p : Int)) + 1)), (2, vi (vaS (layP G N) N P s p)), (4, vi ((((utS (layP G N) N s p 0 0 P) : Nat) : Int))), (1, vi ((s : Int))), (0, .ref 50)]) hC (by decide +kernel) 2 rfl (by decide) rfl ?_
                    refine a_goto (pc := 70) (off := -52) hC 18 (by decide +kernel) (by decide) ?_
                    refine a_sub (lv' := [(3, vi (((p + 1) : Int))), (2, vi (vaS (layP G N) N P s (p + 1))), (1, vi ((s : Int))), (0, .ref 50)]) [0, 1, 3, 4] (by rw [← hst]; rfl) ?_
                    exact ih18 (p + 1) (by omega) (by omega)
                  · skip
                    have hst : (((utS (layP G N) N s p 0 0 P) : Nat) : Int) = vaS (layP G N) N P s (p + 1) := by show _ = (if _ then _ else _); rw [if_pos hz, if_pos (Or.inr (by rw [hvn]; omega))]
                    refine a_iload (pc := 60) (i := 4) (x := (((utS (layP G N) N s p 0 0 P) : Nat) : Int)) hC (by decide +kernel) 0 rfl ?_
                    refine a_goto (pc := 62) (off := 4) hC 66 (by decide +kernel) (by decide) ?_
                    refine a_istore_n (pc := 66) (q := 2) (i := 2) (lv' := [(2, vi ((((utS (layP G N) N s p 0 0 P) : Nat) : Int))), (4, vi ((((utS (layP G N) N s p 0 0 P) : Nat) : Int))), (3, vi ((p : Int))), (1, vi ((s : Int))), (0, .ref 50)]) hC (by decide +kernel) rfl (by decide) rfl ?_
                    refine a_iinc (pc := 67) (i := 3) (c := 1) (x := (p : Int)) (lv' := [(3, vi (((p : Int)) + 1)), (2, vi ((((utS (layP G N) N s p 0 0 P) : Nat) : Int))), (4, vi ((((utS (layP G N) N s p 0 0 P) : Nat) : Int))), (1, vi ((s : Int))), (0, .ref 50)]) hC (by decide +kernel) 2 rfl (by decide) rfl ?_
                    refine a_goto (pc := 70) (off := -52) hC 18 (by decide +kernel) (by decide) ?_
                    refine a_sub (lv' := [(3, vi (((p + 1) : Int))), (2, vi (vaS (layP G N) N P s (p + 1))), (1, vi ((s : Int))), (0, .ref 50)]) [0, 1, 3, 4] (by rw [← hst]; rfl) ?_
                    exact ih18 (p + 1) (by omega) (by omega)
        refine a_sub (lv' := [(3, vi ((0 : Int))), (2, vi (vaS (layP G N) N P s 0)), (1, vi ((s : Int))), (0, .ref 50)]) [0, 1, 2, 3] rfl ?_
        exact L18 _ 0 (Nat.lt_succ_self _) (by omega)
  refine a_sub (lv' := [(1, vi ((0 : Int))), (0, .ref 50)]) [0, 1] rfl ?_
  refine g_G (G' := uG (layP G N) 61 (vaF (layP G N) N P 0)) (by rw [vaF_0, uG_self]) ?_
  exact L6 _ 0 (Nat.lt_succ_self _) (by omega)
