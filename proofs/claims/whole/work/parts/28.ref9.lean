/-! the reference: comes, best -/
def lcA (G : GT) (s a c : Nat) : Int := byZ G s a * G 60 c
def lcU (G : GT) (s a c : Nat) (k : Nat) : Int := G 53 (3 * s + a) * lcA G s a c + sumZ (fun t => (G 50 7 * G 54 (wIx s a t)) * (G 59 (5 * c + t))) k
def lcN (G : GT) (N s a c : Nat) : Int := if totZ G s a 5 = 0 then G 53 (3 * s + a) else lcU G s a c N
def lcD (G : GT) (s a c : Nat) : Int := if totZ G s a 5 = 0 then 1 else lcA G s a c
def lcG (G : GT) (N s a c : Nat) : GT := uG G 50 (up (up (G 50) 21 (lcD G s a c)) 20 (lcN G N s a c))
theorem up_comm (f : Nat → Int) {i j : Nat} (x y : Int) (h : i ≠ j) : up (up f i x) j y = up (up f j y) i x := by
  funext z; unfold up
  by_cases h1 : z = i
  · subst h1; rw [if_neg h, if_pos rfl, if_pos rfl]
  · by_cases h2 : z = j
    · subst h2; rw [if_pos rfl, if_neg h1, if_pos rfl]
    · rw [if_neg h2, if_neg h1, if_neg h1, if_neg h2]
theorem byZ_in {G : GT} {N s a : Nat} (h : MM G N) (hs : s < 5) (ha : a < 3) : 0 ≤ byZ G s a ∧ byZ G s a ≤ 180 ∧ (¬ totZ G s a 5 = 0 → 1 ≤ byZ G s a) := by
  have htt := totZ_in h hs ha 5 (by omega)
  have hsh := h.2.2.1
  have h1 := mul_in (x := totZ G s a 5) (y := G 50 8) (A := 30) (B := 6) (by omega) (by omega) (by decide)
  have h2 : 0 ≤ totZ G s a 5 * G 50 8 := Int.mul_nonneg htt.1 (by omega)
  have e : byZ G s a = totZ G s a 5 * G 50 8 := Int.mul_comm _ _
  refine ⟨by omega, by omega, fun h0 => ?_⟩
  have h3 : 1 * 1 ≤ totZ G s a 5 * G 50 8 := Int.mul_le_mul (by omega) (by omega) (by decide) (by omega)
  omega
theorem lcD_in {G : GT} {N s a c P : Nat} (h : MM G N) (hs : s < 5) (ha : a < 3) (hr : RNum G N P) (hc : c < P) : 1 ≤ lcD G s a c ∧ lcD G s a c ≤ 10883911680 := by
  have hb := byZ_in h hs ha
  have hl := (hr.2 c hc).1
  unfold lcD lcA
  split
  · decide
  · next h0 =>
    have h1 := hb.2.2 h0
    have h3 : 1 * 1 ≤ byZ G s a * G 60 c := Int.mul_le_mul h1 hl.1 (by decide) (by omega)
    have h4 := mul_in (x := byZ G s a) (y := G 60 c) (A := 180) (B := 60466176) (by omega) (by omega) (by decide)
    omega
theorem lcN_in {G : GT} {N s a c P : Nat} (h : MM G N) (hs : s < 5) (ha : a < 3) (hr : RNum G N P) (hc : c < P) : -100000000000000 ≤ lcN G N s a c ∧ lcN G N s a c ≤ 100000000000000 := by
  obtain ⟨hn, hN5, hsh, hac, hpa, hwe, hth, hch⟩ := id h
  have hb := byZ_in h hs ha
  have hl := (hr.2 c hc).1
  have hp := hpa (3 * s + a) (by omega)
  unfold lcN
  split
  · omega
  · have a1 := mul_in (x := byZ G s a) (y := G 60 c) (A := 180) (B := 60466176) (by omega) (by omega) (by decide)
    have a2 : 0 ≤ byZ G s a * G 60 c := Int.mul_nonneg hb.1 (by omega)
    have a3 := mul_in (x := G 53 (3 * s + a)) (y := lcA G s a c) (A := 50) (B := 10883911680) (by omega) (by unfold lcA; omega) (by decide)
    have b0 : ∀ t, t < N → -(653034700800 : Int) ≤ (G 50 7 * G 54 (wIx s a t)) * (G 59 (5 * c + t)) ∧ (G 50 7 * G 54 (wIx s a t)) * (G 59 (5 * c + t)) ≤ 653034700800 := fun t ht => by
      have c1 := hwe (wIx s a t) (by unfold wIx; omega)
      have c2 := (hr.2 c hc).2 t ht
      have c3 := mul_in (x := G 50 7) (y := G 54 (wIx s a t)) (A := 6) (B := 6) (by omega) (by omega) (by decide)
      have c4 : 0 ≤ G 50 7 * G 54 (wIx s a t) := Int.mul_nonneg hsh.1 c1.1
      have c5 := mul_in (x := G 59 (5 * c + t)) (y := G 50 7 * G 54 (wIx s a t)) (A := 18139852800) (B := 36) c2 (by omega) (by decide)
      rw [Int.mul_comm (G 50 7 * G 54 (wIx s a t))]
      omega
    have b1 := sumZ_in b0 N (Nat.le_refl _)
    unfold lcU
    omega
theorem tdiv_b {x g A : Int} (hx : -A ≤ x ∧ x ≤ A) (hg : 1 ≤ g) : -A ≤ Int.tdiv x g ∧ Int.tdiv x g ≤ A := by
  have h1 : (Int.tdiv x g).natAbs = x.natAbs / g.natAbs := Int.natAbs_tdiv x g
  have h2 : x.natAbs / g.natAbs ≤ x.natAbs := Nat.div_le_self _ _
  generalize Int.tdiv x g = y at h1 ⊢
  omega
theorem lcN_congr {G G' : GT} (e : ∀ b, b ≠ 50 → G' b = G b) (e7 : G' 50 7 = G 50 7) (e8 : G' 50 8 = G 50 8) (N s a c : Nat) : lcN G' N s a c = lcN G N s a c ∧ lcD G' s a c = lcD G s a c := by
  have t1 := totZ_congr (e 54 (by decide)) s a 5
  have b1 : byZ G' s a = byZ G s a := by unfold byZ; rw [t1, e8]
  have a1 : lcA G' s a c = lcA G s a c := by unfold lcA; rw [b1, e 60 (by decide)]
  constructor
  · unfold lcN lcU; rw [t1, a1, e 53 (by decide), e7, e 54 (by decide), e 59 (by decide)]
  · unfold lcD; rw [t1, a1]

set_option maxRecDepth 100000 in
set_option maxHeartbeats 4000000 in
theorem ct_M_layComes (l : Launch) (D : va_G) (K : K5) (G : GT) (N s a c : Nat) (hs : s < 5) (ha : a < 3) (hc243 : c < 243) (hc : G 50 18 = (c : Int)) (hmm : MM G N) : Ct l D K y_M_layComes c_M_layComes 7 none 2 47 [.ref 50, vi ((s : Int)), vi ((a : Int))] G none (lcG G N s a c) := by
  refine Ct.intro (by decide +kernel) (Nat.le_of_ble_eq_true rfl) ?_
  intro X hro hty hC hE
  obtain ⟨hn, hN5, hsh, hac, hpa, hwe, hth, hch⟩ := id hmm
  have htt := totZ_in hmm hs ha 5 (by omega)
  have hby := byZ_in hmm hs ha
  have hps := hpa (3 * s + a) (by omega)
  refine a_aload_n (pc := 0) (q := 0) (i := 0) (x := 50) hC (by decide +kernel) rfl 0 rfl ?_
  refine a_iload_n (pc := 1) (q := 1) (i := 1) (x := (s : Int)) hC (by decide +kernel) rfl 1 rfl ?_
  refine a_iload_n (pc := 2) (q := 2) (i := 2) (x := (a : Int)) hC (by decide +kernel) rfl 2 rfl ?_
  refine g_callV (pc := 3) (idx := 97) (i := 50) (av := [vi ((s : Int)), vi ((a : Int))]) (rest := []) (g := G) (v := vi (totZ G s a 5)) hC hro hty (by decide +kernel) rfl rfl k_M_total (by decide +kernel) (by decide +kernel) (by decide +kernel) (ct_M_total X.la X.dd K G s a (by omega) (by omega)) rfl rfl (by decide) (by first | decide | simp [Value.category]) ?_
  refine a_istore_n (pc := 6) (q := 3) (i := 3) (lv' := [(3, vi (totZ G s a 5)), (0, .ref 50), (1, vi ((s : Int))), (2, vi ((a : Int)))]) hC (by decide +kernel) rfl (by decide) rfl ?_
  refine a_aload_n (pc := 7) (q := 0) (i := 0) (x := 50) hC (by decide +kernel) rfl 1 rfl ?_
  refine g_get (pc := 8) (idx := 17) (ci := 6) (v := .ref 53) hC 50 4 (by decide +kernel) rfl rfl rfl rfl wrM (by decide) rfl (by decide +kernel) ?_
  refine a_iconst (pc := 11) (c := 3) hC (by decide +kernel) ?_
  refine a_iload_n (pc := 12) (q := 1) (i := 1) (x := (s : Int)) hC (by decide +kernel) rfl 2 rfl ?_
  refine a_imul (pc := 13) hC (by decide +kernel) ?_
  refine a_iload_n (pc := 14) (q := 2) (i := 2) (x := (a : Int)) hC (by decide +kernel) rfl 3 rfl ?_
  refine a_iadd (pc := 15) hC (by decide +kernel) ?_
  refine g_top (y := ((3 * s + a : Nat) : Int)) (by omega) ?_
  refine g_iald (pc := 16) (a := 53) (j := 3 * s + a) hC hty (by decide +kernel) rfl (by omega) (by first | decide | omega) ?_
  refine a_i2l (pc := 17) hC (by decide +kernel) (by unfold inI; omega) ?_
  refine a_lstore (pc := 18) (q := 0) (i := 4) (lv' := [(4, vl (G 53 (3 * s + a))), (3, vi (totZ G s a 5)), (0, .ref 50), (1, vi ((s : Int))), (2, vi ((a : Int)))]) hC (by decide +kernel) (by decide) rfl ?_
  refine a_iload_n (pc := 20) (q := 3) (i := 3) (x := totZ G s a 5) hC (by decide +kernel) rfl 1 rfl ?_
  refine a_if_ne (pc := 21) (off := 15) hC 36 (by decide +kernel) (by decide) (by unfold inI; omega) (fun c21 => ?_) (fun c21 => ?_)
  · skip
    refine a_aload_n (pc := 36) (q := 0) (i := 0) (x := 50) hC (by decide +kernel) rfl 2 rfl ?_
    refine a_aload_n (pc := 37) (q := 0) (i := 0) (x := 50) hC (by decide +kernel) rfl 2 rfl ?_
    refine g_get (pc := 38) (idx := 30) (ci := 6) (v := vi (G 50 8)) hC 50 8 (by decide +kernel) rfl rfl rfl rfl wrM (by decide) rfl (by decide +kernel) ?_
    refine a_iload_n (pc := 41) (q := 3) (i := 3) (x := totZ G s a 5) hC (by decide +kernel) rfl 1 rfl ?_
    refine a_imul (pc := 42) hC (by decide +kernel) ?_
    refine g_top (y := byZ G s a) rfl ?_
    refine a_i2l (pc := 43) hC (by decide +kernel) (by unfold inI; omega) ?_
    refine a_aload_n (pc := 44) (q := 0) (i := 0) (x := 50) hC (by decide +kernel) rfl 2 rfl ?_
    refine g_get (pc := 45) (idx := 50) (ci := 6) (v := .ref 60) hC 50 16 (by decide +kernel) rfl rfl rfl rfl wrM (by decide) rfl (by decide +kernel) ?_
    refine a_aload_n (pc := 48) (q := 0) (i := 0) (x := 50) hC (by decide +kernel) rfl 2 rfl ?_
    refine g_get (pc := 49) (idx := 140) (ci := 6) (v := vi (G 50 18)) hC 50 18 (by decide +kernel) rfl rfl rfl rfl wrM (by decide) rfl (by decide +kernel) ?_
    refine g_top (y := (c : Int)) hc ?_
    refine g_lald (pc := 52) (a := 60) (j := c) hC hty (by decide +kernel) rfl (by omega) (by first | decide | omega) ?_
    refine a_lmul (pc := 53) hC (by decide +kernel) ?_
    refine g_topl (y := lcA G s a c) rfl ?_
    refine g_put (pc := 54) (idx := 162) (ci := 6) (x := lcA G s a c) hC 50 21 (by decide +kernel) rfl rfl (congrArg (fun z => vl z) (up_s _ _ _)) rfl wrM (by decide) rfl (by decide +kernel) rfl (ok_long _) ?_
    refine a_aload_n (pc := 57) (q := 0) (i := 0) (x := 50) hC (by decide +kernel) rfl 2 rfl ?_
    refine a_lload (pc := 58) (i := 4) (x := G 53 (3 * s + a)) hC (by decide +kernel) 0 rfl ?_
    refine a_aload_n (pc := 60) (q := 0) (i := 0) (x := 50) hC (by decide +kernel) rfl 2 rfl ?_
    refine g_get (pc := 61) (idx := 162) (ci := 6) (v := vl ((uG G 50 (up (G 50) 21 (lcA G s a c))) 50 21)) hC 50 21 (by decide +kernel) rfl rfl rfl rfl wrM (by decide) rfl (by decide +kernel) ?_
    refine g_topl (y := lcA G s a c) (by rw [uG_s, up_s]) ?_
    refine a_lmul (pc := 64) hC (by decide +kernel) ?_
    refine g_put (pc := 65) (idx := 159) (ci := 6) (x := (G 53 (3 * s + a)) * (lcA G s a c)) hC 50 20 (by decide +kernel) rfl rfl (congrArg (fun z => vl z) (up_s _ _ _)) rfl wrM (by decide) rfl (by decide +kernel) rfl (ok_long _) ?_
    refine a_iconst (pc := 68) (c := 0) hC (by decide +kernel) ?_
    refine a_istore (pc := 69) (q := 0) (i := 6) (lv' := [(6, vi 0), (4, vl (G 53 (3 * s + a))), (3, vi (totZ G s a 5)), (0, .ref 50), (1, vi ((s : Int))), (2, vi ((a : Int)))]) hC (by decide +kernel) (by decide) rfl ?_
    have L71 : ∀ (fuel : Nat) (k : Nat), N - k < fuel → k ≤ N → AW X 7 0 0 71 [(6, vi ((k : Int))), (4, vl (G 53 (3 * s + a))), (3, vi (totZ G s a 5)), (0, .ref 50), (1, vi ((s : Int))), (2, vi ((a : Int)))] [] (hp K (uG G 50 (up (up (G 50) 21 (lcA G s a c)) 20 (lcU G s a c k)))) := by
      intro fuel
      induction fuel with
      | zero => intro k h; exact absurd h (Nat.not_lt_zero _)
      | succ fuel ih71 =>
        intro k hm hk
        refine a_iload (pc := 71) (i := 6) (x := (k : Int)) hC (by decide +kernel) 0 rfl ?_
        refine a_aload_n (pc := 73) (q := 0) (i := 0) (x := 50) hC (by decide +kernel) rfl 3 rfl ?_
        refine g_get (pc := 74) (idx := 72) (ci := 6) (v := vi ((uG G 50 (up (up (G 50) 21 (lcA G s a c)) 20 (lcU G s a c k))) 50 1)) hC 50 1 (by decide +kernel) rfl rfl rfl rfl wrM (by decide) rfl (by decide +kernel) ?_
        refine g_top (y := (N : Int)) (by rw [uG_s, up_n _ _ (by decide), up_n _ _ (by decide)]; exact hn) ?_
        refine a_icmp_ge (pc := 77) (off := 47) hC 124 (by decide +kernel) (by decide) (by unfold inI; omega) (by unfold inI; omega) (fun c77 => ?_) (fun c77 => ?_)
        · skip
          exact g_vret (pc := 124) hC hE (by decide +kernel) (by rw [show k = N by omega]; unfold lcG lcD lcN; rw [if_neg c21, if_neg c21])
        · skip
          have hwt := hwe (wIx s a k) (by unfold wIx; omega)
          have hmu := mul_in (x := G 54 (wIx s a k)) (y := G 50 7) (A := 6) (B := 6) (by omega) (by omega) (by decide)
          have hmu2 : G 50 7 * G 54 (wIx s a k) = G 54 (wIx s a k) * G 50 7 := Int.mul_comm _ _
          refine a_aload_n (pc := 80) (q := 0) (i := 0) (x := 50) hC (by decide +kernel) rfl 3 rfl ?_
          refine a_dup (pc := 81) hC (by decide +kernel) rfl ?_
          refine g_get (pc := 82) (idx := 159) (ci := 6) (v := vl ((uG G 50 (up (up (G 50) 21 (lcA G s a c)) 20 (lcU G s a c k))) 50 20)) hC 50 20 (by decide +kernel) rfl rfl rfl rfl wrM (by decide) rfl (by decide +kernel) ?_
          refine g_topl (y := lcU G s a c k) (by rw [uG_s, up_s]) ?_
          refine a_aload_n (pc := 85) (q := 0) (i := 0) (x := 50) hC (by decide +kernel) rfl 3 rfl ?_
          refine g_get (pc := 86) (idx := 26) (ci := 6) (v := vi ((uG G 50 (up (up (G 50) 21 (lcA G s a c)) 20 (lcU G s a c k))) 50 7)) hC 50 7 (by decide +kernel) rfl rfl rfl rfl wrM (by decide) rfl (by decide +kernel) ?_
          refine g_top (y := G 50 7) (by rw [uG_s, up_n _ _ (by decide), up_n _ _ (by decide)]) ?_
          refine a_aload_n (pc := 89) (q := 0) (i := 0) (x := 50) hC (by decide +kernel) rfl 3 rfl ?_
          refine a_iload_n (pc := 90) (q := 1) (i := 1) (x := (s : Int)) hC (by decide +kernel) rfl 4 rfl ?_
          refine a_iload_n (pc := 91) (q := 2) (i := 2) (x := (a : Int)) hC (by decide +kernel) rfl 5 rfl ?_
          refine a_iload (pc := 92) (i := 6) (x := (k : Int)) hC (by decide +kernel) 0 rfl ?_
          refine g_callV (pc := 94) (idx := 83) (i := 50) (av := [vi ((s : Int)), vi ((a : Int)), vi ((k : Int))]) (rest := [vi (G 50 7), vl (lcU G s a c k), .ref 50]) (g := uG G 50 (up (up (G 50) 21 (lcA G s a c)) 20 (lcU G s a c k))) (v := vi ((uG G 50 (up (up (G 50) 21 (lcA G s a c)) 20 (lcU G s a c k))) 54 (wIx s a k))) hC hro hty (by decide +kernel) rfl rfl k_M_weightOf (by decide +kernel) (by decide +kernel) (by decide +kernel) (ct_M_weightOf X.la X.dd K (uG G 50 (up (up (G 50) 21 (lcA G s a c)) 20 (lcU G s a c k))) s a k (by omega) (by omega) (by omega)) rfl rfl (by decide) (by first | decide | simp [Value.category]) ?_
          refine g_top (y := G 54 (wIx s a k)) (by rw [uG_n _ _ (by decide)]) ?_
          refine a_imul (pc := 97) hC (by decide +kernel) ?_
          refine a_i2l (pc := 98) hC (by decide +kernel) (by unfold inI; omega) ?_
          refine a_aload_n (pc := 99) (q := 0) (i := 0) (x := 50) hC (by decide +kernel) rfl 3 rfl ?_
          refine g_get (pc := 100) (idx := 47) (ci := 6) (v := .ref 59) hC 50 15 (by decide +kernel) rfl rfl rfl rfl wrM (by decide) rfl (by decide +kernel) ?_
          refine a_iconst (pc := 103) (c := 5) hC (by decide +kernel) ?_
          refine a_aload_n (pc := 104) (q := 0) (i := 0) (x := 50) hC (by decide +kernel) rfl 3 rfl ?_
          refine g_get (pc := 105) (idx := 140) (ci := 6) (v := vi ((uG G 50 (up (up (G 50) 21 (lcA G s a c)) 20 (lcU G s a c k))) 50 18)) hC 50 18 (by decide +kernel) rfl rfl rfl rfl wrM (by decide) rfl (by decide +kernel) ?_
          refine g_top (y := (c : Int)) (by rw [uG_s, up_n _ _ (by decide), up_n _ _ (by decide)]; exact hc) ?_
          refine a_imul (pc := 108) hC (by decide +kernel) ?_
          refine a_iload (pc := 109) (i := 6) (x := (k : Int)) hC (by decide +kernel) 0 rfl ?_
          refine a_iadd (pc := 111) hC (by decide +kernel) ?_
          refine g_top (y := ((5 * c + k : Nat) : Int)) (by omega) ?_
          refine g_lald (pc := 112) (a := 59) (j := 5 * c + k) hC hty (by decide +kernel) rfl (by omega) (by first | decide | omega) ?_
          refine g_topl (y := G 59 (5 * c + k)) (by rw [uG_n _ _ (by decide)]) ?_
          refine a_lmul (pc := 113) hC (by decide +kernel) ?_
          refine a_ladd (pc := 114) hC (by decide +kernel) ?_
          refine g_topl (y := lcU G s a c (k + 1)) (by unfold lcU; rw [Int.add_assoc]; rfl) ?_
          refine g_put (pc := 115) (idx := 159) (ci := 6) (x := lcU G s a c (k + 1)) hC 50 20 (by decide +kernel) rfl rfl (congrArg (fun z => vl z) (up_s _ _ _)) rfl wrM (by decide) rfl (by decide +kernel) rfl (ok_long _) ?_
          refine a_iinc (pc := 118) (i := 6) (c := 1) (x := (k : Int)) (lv' := [(6, vi (((k : Int)) + 1)), (4, vl (G 53 (3 * s + a))), (3, vi (totZ G s a 5)), (0, .ref 50), (1, vi ((s : Int))), (2, vi ((a : Int)))]) hC (by decide +kernel) 0 rfl (by decide) rfl ?_
          refine a_goto (pc := 121) (off := -50) hC 71 (by decide +kernel) (by decide) ?_
          refine a_sub (lv' := [(6, vi (((k + 1) : Int))), (4, vl (G 53 (3 * s + a))), (3, vi (totZ G s a 5)), (0, .ref 50), (1, vi ((s : Int))), (2, vi ((a : Int)))]) [0, 1, 2, 3, 4, 5] rfl ?_
          refine g_G (G' := uG G 50 (up (up (G 50) 21 (lcA G s a c)) 20 (lcU G s a c (k + 1)))) (by rw [uG_s, uG_uG, up_up]) ?_
          exact ih71 (k + 1) (by omega) (by omega)
    refine a_sub (lv' := [(6, vi ((0 : Int))), (4, vl (G 53 (3 * s + a))), (3, vi (totZ G s a 5)), (0, .ref 50), (1, vi ((s : Int))), (2, vi ((a : Int)))]) [0, 1, 2, 3, 4, 5] rfl ?_
    refine g_G (G' := uG G 50 (up (up (G 50) 21 (lcA G s a c)) 20 (lcU G s a c 0))) (by rw [uG_s, uG_uG]; unfold lcU; show uG _ _ (up _ _ _) = uG _ _ (up _ _ (_ + 0)); rw [Int.add_zero]) ?_
    exact L71 _ 0 (Nat.lt_succ_self _) (by omega)
  · skip
    refine a_aload_n (pc := 24) (q := 0) (i := 0) (x := 50) hC (by decide +kernel) rfl 2 rfl ?_
    refine a_lload (pc := 25) (i := 4) (x := G 53 (3 * s + a)) hC (by decide +kernel) 0 rfl ?_
    refine g_put (pc := 27) (idx := 159) (ci := 6) (x := G 53 (3 * s + a)) hC 50 20 (by decide +kernel) rfl rfl (congrArg (fun z => vl z) (up_s _ _ _)) rfl wrM (by decide) rfl (by decide +kernel) rfl (ok_long _) ?_
    refine a_aload_n (pc := 30) (q := 0) (i := 0) (x := 50) hC (by decide +kernel) rfl 2 rfl ?_
    refine a_lconst (pc := 31) (c := 1) (z := 1) hC (by decide +kernel) rfl ?_
    refine g_put (pc := 32) (idx := 162) (ci := 6) (x := 1) hC 50 21 (by decide +kernel) rfl rfl (congrArg (fun z => vl z) (up_s _ _ _)) rfl wrM (by decide) rfl (by decide +kernel) rfl (ok_long _) ?_
    exact g_vret (pc := 35) hC hE (by decide +kernel) (by rw [uG_s, uG_uG, up_comm _ _ _ (by decide)]; unfold lcG lcD lcN; rw [if_pos c21, if_pos c21])

set_option maxRecDepth 100000 in
set_option maxHeartbeats 4000000 in
theorem ct_M_comes_no (l : Launch) (D : va_G) (K : K5) (G : GT) (N : Nat) (s a : Int)  (hsi : inI s) (hai : inI a) (hmm : MM G N) (hno : mA G s a = 0) : Ct l D K y_M_comes c_M_comes 3 (some .int) 5 117 [.ref 50, vi s, vi a] G (some (vi (-1))) (m0 G) := by
  refine Ct.intro (by decide +kernel) (Nat.le_of_ble_eq_true rfl) ?_
  intro X hro hty hC hE
  obtain ⟨hn, hN5, hsh, hac, hpa, hwe, hth, hch⟩ := id hmm
  refine a_aload_n (pc := 0) (q := 0) (i := 0) (x := 50) hC (by decide +kernel) rfl 0 rfl ?_
  refine a_iconst (pc := 1) (c := 0) hC (by decide +kernel) ?_
  refine g_put (pc := 2) (idx := 62) (ci := 6) (x := 0) hC 50 0 (by decide +kernel) rfl rfl (congrArg (fun z => vi z) (up_s _ _ _)) rfl wrM (by decide) rfl (by decide +kernel) rfl (ok_int _) ?_
  refine g_G (G' := m0 G) rfl ?_
  refine a_aload_n (pc := 5) (q := 0) (i := 0) (x := 50) hC (by decide +kernel) rfl 0 rfl ?_
  refine a_iload_n (pc := 6) (q := 1) (i := 1) (x := s) hC (by decide +kernel) rfl 1 rfl ?_
  refine a_iload_n (pc := 7) (q := 2) (i := 2) (x := a) hC (by decide +kernel) rfl 2 rfl ?_
  refine g_callV (pc := 8) (idx := 91) (i := 50) (av := [vi s, vi a]) (rest := []) (g := m0 G) (v := vi (mA (m0 G) s a)) hC hro hty (by decide +kernel) rfl rfl k_M_isAct (by decide +kernel) (by decide +kernel) (by decide +kernel) (ct_M_isAct X.la X.dd K (m0 G) N s a hsi hai hmm.m0) rfl rfl (by decide) (by first | decide | simp [Value.category]) ?_
  refine g_top (y := mA G s a) (mA_m0 _ _ _) ?_
  refine a_if_ne (pc := 11) (off := 5) hC 16 (by decide +kernel) (by decide) (by unfold inI; omega) (fun c11 => ?_) (fun c11 => ?_)
  · skip
    exact absurd hno c11
  · skip
    refine a_iconst (pc := 14) (c := -1) hC (by decide +kernel) ?_
    exact g_iret (pc := 15) hC hE (by decide +kernel) rfl rfl

set_option maxRecDepth 100000 in
set_option maxHeartbeats 4000000 in
theorem ct_M_comes (l : Launch) (D : va_G) (K : K5) (G : GT) (N s a c : Nat) (hs : s < N) (ha : (a : Int) < G 52 s) (hmm : MM G N) (hro0 : RefOk (m0 G) N) (hcL : layV (m0 G) N 50 18 = (c : Int)) (hcP : c < nPl (m0 G) N) : Ct l D K y_M_comes c_M_comes 3 (some .int) 5 117 [.ref 50, vi ((s : Int)), vi ((a : Int))] G (some (vi 1)) (mansG (lcG (layV (m0 G) N) N s a c) (lcN (layV (m0 G) N) N s a c) (lcD (layV (m0 G) N) s a c)) := by
  refine Ct.intro (by decide +kernel) (Nat.le_of_ble_eq_true rfl) ?_
  intro X hro hty hC hE
  obtain ⟨hn, hN5, hsh, hac, hpa, hwe, hth, hch⟩ := id hmm
  have ha3 := hac s (by omega)
  have ha2 : a < 3 := by omega
  have hm1 := hmm.m0
  obtain ⟨hP1, hP2, hP3⟩ := nPl_in hm1
  obtain ⟨P, hPe⟩ : ∃ P : Nat, nPl (m0 G) N = P := ⟨_, rfl⟩
  have hrnV : RNum (layV (m0 G) N) N (nPl (m0 G) N) := hro0.congr (layV_off (by decide) (by decide)) (layV_off (by decide) (by decide))
  rw [hPe] at hP1 hP2 hP3 hrnV
  rw [hPe] at hcP
  have hmL := hm1.layV
  have hin := lcN_in (s := s) hmL (by omega) ha2 hrnV hcP
  have hid := lcD_in (s := s) hmL (by omega) ha2 hrnV hcP
  have hra := abs_in hin (by decide)
  refine a_aload_n (pc := 0) (q := 0) (i := 0) (x := 50) hC (by decide +kernel) rfl 0 rfl ?_
  refine a_iconst (pc := 1) (c := 0) hC (by decide +kernel) ?_
  refine g_put (pc := 2) (idx := 62) (ci := 6) (x := 0) hC 50 0 (by decide +kernel) rfl rfl (congrArg (fun z => vi z) (up_s _ _ _)) rfl wrM (by decide) rfl (by decide +kernel) rfl (ok_int _) ?_
  refine g_G (G' := m0 G) rfl ?_
  refine a_aload_n (pc := 5) (q := 0) (i := 0) (x := 50) hC (by decide +kernel) rfl 0 rfl ?_
  refine a_iload_n (pc := 6) (q := 1) (i := 1) (x := (s : Int)) hC (by decide +kernel) rfl 1 rfl ?_
  refine a_iload_n (pc := 7) (q := 2) (i := 2) (x := (a : Int)) hC (by decide +kernel) rfl 2 rfl ?_
  refine g_callV (pc := 8) (idx := 91) (i := 50) (av := [vi ((s : Int)), vi ((a : Int))]) (rest := []) (g := m0 G) (v := vi (mA (m0 G) ((s : Int)) ((a : Int)))) hC hro hty (by decide +kernel) rfl rfl k_M_isAct (by decide +kernel) (by decide +kernel) (by decide +kernel) (ct_M_isAct X.la X.dd K (m0 G) N ((s : Int)) ((a : Int)) (by unfold inI; omega) (by unfold inI; omega) hmm.m0) rfl rfl (by decide) (by first | decide | simp [Value.category]) ?_
  refine g_top (y := 1) (by rw [mA_m0]; exact mA_ok hmm hs ha) ?_
  refine a_if_ne (pc := 11) (off := 5) hC 16 (by decide +kernel) (by decide) (by unfold inI; omega) (fun c11 => ?_) (fun c11 => ?_)
  · skip
    refine a_aload_n (pc := 16) (q := 0) (i := 0) (x := 50) hC (by decide +kernel) rfl 0 rfl ?_
    refine g_callV0 (pc := 17) (idx := 153) (i := 50) (av := []) (rest := []) (g := layV (m0 G) N) hC hro hty (by decide +kernel) rfl rfl k_M_layValues (by decide +kernel) (by decide +kernel) (by decide +kernel) (ct_M_layValues X.la X.dd K (m0 G) N hm1 hro0.cm) rfl rfl (by decide) (by first | decide | simp [Value.category]) ?_
    refine a_aload_n (pc := 20) (q := 0) (i := 0) (x := 50) hC (by decide +kernel) rfl 0 rfl ?_
    refine a_iload_n (pc := 21) (q := 1) (i := 1) (x := (s : Int)) hC (by decide +kernel) rfl 1 rfl ?_
    refine a_iload_n (pc := 22) (q := 2) (i := 2) (x := (a : Int)) hC (by decide +kernel) rfl 2 rfl ?_
    refine g_callV0 (pc := 23) (idx := 165) (i := 50) (av := [vi ((s : Int)), vi ((a : Int))]) (rest := []) (g := lcG (layV (m0 G) N) N s a c) hC hro hty (by decide +kernel) rfl rfl k_M_layComes (by decide +kernel) (by decide +kernel) (by decide +kernel) (ct_M_layComes X.la X.dd K (layV (m0 G) N) N s a c (by omega) ha2 (by omega) hcL hmL) rfl rfl (by decide) (by first | decide | simp [Value.category]) ?_
    refine a_aload_n (pc := 26) (q := 0) (i := 0) (x := 50) hC (by decide +kernel) rfl 0 rfl ?_
    refine a_aload_n (pc := 27) (q := 0) (i := 0) (x := 50) hC (by decide +kernel) rfl 0 rfl ?_
    refine g_get (pc := 28) (idx := 159) (ci := 6) (v := vl ((lcG (layV (m0 G) N) N s a c) 50 20)) hC 50 20 (by decide +kernel) rfl rfl rfl rfl wrM (by decide) rfl (by decide +kernel) ?_
    refine g_topl (y := lcN (layV (m0 G) N) N s a c) (by unfold lcG; rw [uG_s, up_s]) ?_
    refine a_aload_n (pc := 31) (q := 0) (i := 0) (x := 50) hC (by decide +kernel) rfl 0 rfl ?_
    refine g_get (pc := 32) (idx := 162) (ci := 6) (v := vl ((lcG (layV (m0 G) N) N s a c) 50 21)) hC 50 21 (by decide +kernel) rfl rfl rfl rfl wrM (by decide) rfl (by decide +kernel) ?_
    refine g_topl (y := lcD (layV (m0 G) N) s a c) (by unfold lcG; rw [uG_s, up_n _ _ (by decide), up_s]) ?_
    refine g_callV (pc := 35) (idx := 149) (i := 50) (av := [vl (lcN (layV (m0 G) N) N s a c), vl (lcD (layV (m0 G) N) s a c)]) (rest := []) (g := mansG (lcG (layV (m0 G) N) N s a c) (lcN (layV (m0 G) N) N s a c) (lcD (layV (m0 G) N) s a c)) (v := vi 1) hC hro hty (by decide +kernel) rfl rfl k_M_answer (by decide +kernel) (by decide +kernel) (by decide +kernel) (ct_M_answer X.la X.dd K (lcG (layV (m0 G) N) N s a c) (lcN (layV (m0 G) N) N s a c) (lcD (layV (m0 G) N) s a c) hra ⟨hid.1, by unfold inL; omega⟩) rfl rfl (by decide) (by first | decide | simp [Value.category]) ?_
    exact g_iret (pc := 38) hC hE (by decide +kernel) rfl rfl
  · skip
    exact absurd c11 (by decide)

def mbG (L : GT) (N s c : Nat) : Nat → GT
  | 0 => L
  | a + 1 => lcG (mbG L N s c a) N s a c
theorem mbG_n {L : GT} {N s c b : Nat} (h : b ≠ 50) : ∀ a, mbG L N s c a b = L b
  | 0 => rfl
  | a + 1 => by show lcG _ _ _ _ _ b = _; unfold lcG; rw [uG_n _ _ h, mbG_n h a]
theorem mbG_k {L : GT} {N s c k : Nat} (h : k ≠ 20) (h2 : k ≠ 21) : ∀ a, mbG L N s c a 50 k = L 50 k
  | 0 => rfl
  | a + 1 => by show lcG _ _ _ _ _ 50 k = _; unfold lcG; rw [uG_s, up_n _ _ h, up_n _ _ h2, mbG_k h h2 a]
theorem mbG_20 {L : GT} {N s c a : Nat} : mbG L N s c (a + 1) 50 20 = lcN L N s a c := by
  show lcG _ _ _ _ _ 50 20 = _; unfold lcG; rw [uG_s, up_s]
  exact (lcN_congr (fun b hb => mbG_n hb a) (mbG_k (by decide) (by decide) a) (mbG_k (by decide) (by decide) a) N s a c).1
theorem mbG_21 {L : GT} {N s c a : Nat} : mbG L N s c (a + 1) 50 21 = lcD L s a c := by
  show lcG _ _ _ _ _ 50 21 = _; unfold lcG; rw [uG_s, up_n _ _ (by decide), up_s]
  exact (lcN_congr (fun b hb => mbG_n hb a) (mbG_k (by decide) (by decide) a) (mbG_k (by decide) (by decide) a) N s a c).2
/-- the act's fraction is the value's -/
def mbE (L : GT) (N s c a : Nat) : Prop := Int.tdiv (lcN L N s a c) (gcZ (lcN L N s a c) (lcD L s a c)) = Int.tdiv (L 59 (5 * c + s)) (gcZ (L 59 (5 * c + s)) (L 60 c)) ∧ Int.tdiv (lcD L s a c) (gcZ (lcN L N s a c) (lcD L s a c)) = Int.tdiv (L 60 c) (gcZ (L 59 (5 * c + s)) (L 60 c))

def mbT (L : GT) (N s c a : Nat) : Bool := decide (Int.tdiv (lcN L N s a c) (gcZ (lcN L N s a c) (lcD L s a c)) = Int.tdiv (L 59 (5 * c + s)) (gcZ (L 59 (5 * c + s)) (L 60 c))) && decide (Int.tdiv (lcD L s a c) (gcZ (lcN L N s a c) (lcD L s a c)) = Int.tdiv (L 60 c) (gcZ (L 59 (5 * c + s)) (L 60 c)))
def mbB (L : GT) (N s c : Nat) : Nat → Int
  | 0 => 0
  | a + 1 => if mbT L N s c a = true then orZ (mbB L N s c a) ((pw a : Nat) : Int) else mbB L N s c a
theorem mbB_in (L : GT) (N s c : Nat) : ∀ a, a ≤ 3 → 0 ≤ mbB L N s c a ∧ mbB L N s c a ≤ 63
  | 0, _ => by unfold mbB; decide
  | a + 1, h => by
    have ih := mbB_in L N s c a (by omega)
    have h1 := pw_in (k := a) (by omega)
    unfold mbB
    split
    · exact orZ_in ih (by omega)
    · exact ih

set_option maxRecDepth 100000 in
set_option maxHeartbeats 4000000 in
theorem ct_M_best_no (l : Launch) (D : va_G) (K : K5) (G : GT) (N : Nat) (s : Int)  (hsi : inI s) (hmm : MM G N) (hno : mS G s = 0) : Ct l D K y_M_best c_M_best 11 (some .int) 5 117 [.ref 50, vi s] G (some (vi (-1))) (m0 G) := by
  refine Ct.intro (by decide +kernel) (Nat.le_of_ble_eq_true rfl) ?_
  intro X hro hty hC hE
  obtain ⟨hn, hN5, hsh, hac, hpa, hwe, hth, hch⟩ := id hmm
  refine a_aload_n (pc := 0) (q := 0) (i := 0) (x := 50) hC (by decide +kernel) rfl 0 rfl ?_
  refine a_iconst (pc := 1) (c := 0) hC (by decide +kernel) ?_
  refine g_put (pc := 2) (idx := 62) (ci := 6) (x := 0) hC 50 0 (by decide +kernel) rfl rfl (congrArg (fun z => vi z) (up_s _ _ _)) rfl wrM (by decide) rfl (by decide +kernel) rfl (ok_int _) ?_
  refine g_G (G' := m0 G) rfl ?_
  refine a_aload_n (pc := 5) (q := 0) (i := 0) (x := 50) hC (by decide +kernel) rfl 0 rfl ?_
  refine a_iload_n (pc := 6) (q := 1) (i := 1) (x := s) hC (by decide +kernel) rfl 1 rfl ?_
  refine g_callV (pc := 7) (idx := 79) (i := 50) (av := [vi s]) (rest := []) (g := m0 G) (v := vi (mS (m0 G) s)) hC hro hty (by decide +kernel) rfl rfl k_M_isState (by decide +kernel) (by decide +kernel) (by decide +kernel) (ct_M_isState X.la X.dd K (m0 G) N s hsi hmm.m0) rfl rfl (by decide) (by first | decide | simp [Value.category]) ?_
  refine g_top (y := mS G s) (mS_m0 _ _) ?_
  refine a_if_ne (pc := 10) (off := 5) hC 15 (by decide +kernel) (by decide) (by unfold inI; omega) (fun c10 => ?_) (fun c10 => ?_)
  · skip
    exact absurd hno c10
  · skip
    refine a_iconst (pc := 13) (c := -1) hC (by decide +kernel) ?_
    exact g_iret (pc := 14) hC hE (by decide +kernel) rfl rfl

set_option maxRecDepth 100000 in
set_option maxHeartbeats 4000000 in
theorem ct_M_best (l : Launch) (D : va_G) (K : K5) (G : GT) (N s A c : Nat) (hs : s < N) (hA : G 52 s = (A : Int)) (hmm : MM G N) (hro0 : RefOk (m0 G) N) (hcL : layV (m0 G) N 50 18 = (c : Int)) (hcP : c < nPl (m0 G) N) : Ct l D K y_M_best c_M_best 11 (some .int) 5 117 [.ref 50, vi ((s : Int))] G (some (vi (mbB (layV (m0 G) N) N s c A))) (mbG (layV (m0 G) N) N s c A) := by
  refine Ct.intro (by decide +kernel) (Nat.le_of_ble_eq_true rfl) ?_
  intro X hro hty hC hE
  obtain ⟨hn, hN5, hsh, hac, hpa, hwe, hth, hch⟩ := id hmm
  have hm1 := hmm.m0
  obtain ⟨hP1, hP2, hP3⟩ := nPl_in hm1
  obtain ⟨P, hPe⟩ : ∃ P : Nat, nPl (m0 G) N = P := ⟨_, rfl⟩
  have hrnV : RNum (layV (m0 G) N) N (nPl (m0 G) N) := hro0.congr (layV_off (by decide) (by decide)) (layV_off (by decide) (by decide))
  rw [hPe] at hP1 hP2 hP3 hrnV
  rw [hPe] at hcP
  have hmL := hm1.layV
  have hA3 := hac s (by omega)
  have hrc := hrnV.2 c hcP
  have hun := hrc.2 s hs
  have hunr := abs_in hun (by decide)
  have hulr := abs_in (x := ((layV (m0 G) N) 60 c)) (A := 60466176) (by omega) (by decide)
  have hgb := gcZ_in (a := ((layV (m0 G) N) 59 (5 * c + s))) hrc.1.1
  have hgbi : inL (gcZ ((layV (m0 G) N) 59 (5 * c + s)) ((layV (m0 G) N) 60 c)) := by unfold inL; omega
  have hq1 := tdiv_b (g := (gcZ ((layV (m0 G) N) 59 (5 * c + s)) ((layV (m0 G) N) 60 c))) hun hgb.1
  have hq2 := tdiv_b (x := ((layV (m0 G) N) 60 c)) (g := (gcZ ((layV (m0 G) N) 59 (5 * c + s)) ((layV (m0 G) N) 60 c))) (A := 60466176) (by omega) hgb.1
  refine a_aload_n (pc := 0) (q := 0) (i := 0) (x := 50) hC (by decide +kernel) rfl 0 rfl ?_
  refine a_iconst (pc := 1) (c := 0) hC (by decide +kernel) ?_
  refine g_put (pc := 2) (idx := 62) (ci := 6) (x := 0) hC 50 0 (by decide +kernel) rfl rfl (congrArg (fun z => vi z) (up_s _ _ _)) rfl wrM (by decide) rfl (by decide +kernel) rfl (ok_int _) ?_
  refine g_G (G' := m0 G) rfl ?_
  refine a_aload_n (pc := 5) (q := 0) (i := 0) (x := 50) hC (by decide +kernel) rfl 0 rfl ?_
  refine a_iload_n (pc := 6) (q := 1) (i := 1) (x := (s : Int)) hC (by decide +kernel) rfl 1 rfl ?_
  refine g_callV (pc := 7) (idx := 79) (i := 50) (av := [vi ((s : Int))]) (rest := []) (g := m0 G) (v := vi (mS (m0 G) ((s : Int)))) hC hro hty (by decide +kernel) rfl rfl k_M_isState (by decide +kernel) (by decide +kernel) (by decide +kernel) (ct_M_isState X.la X.dd K (m0 G) N ((s : Int)) (by unfold inI; omega) hmm.m0) rfl rfl (by decide) (by first | decide | simp [Value.category]) ?_
  refine g_top (y := 1) (by rw [mS_m0]; exact mS_ok hmm hs) ?_
  refine a_if_ne (pc := 10) (off := 5) hC 15 (by decide +kernel) (by decide) (by unfold inI; omega) (fun c10 => ?_) (fun c10 => ?_)
  · skip
    refine a_aload_n (pc := 15) (q := 0) (i := 0) (x := 50) hC (by decide +kernel) rfl 0 rfl ?_
    refine g_callV0 (pc := 16) (idx := 153) (i := 50) (av := []) (rest := []) (g := layV (m0 G) N) hC hro hty (by decide +kernel) rfl rfl k_M_layValues (by decide +kernel) (by decide +kernel) (by decide +kernel) (ct_M_layValues X.la X.dd K (m0 G) N hm1 hro0.cm) rfl rfl (by decide) (by first | decide | simp [Value.category]) ?_
    refine a_iconst (pc := 19) (c := 0) hC (by decide +kernel) ?_
    refine a_istore_n (pc := 20) (q := 2) (i := 2) (lv' := [(2, vi 0), (0, .ref 50), (1, vi ((s : Int)))]) hC (by decide +kernel) rfl (by decide) rfl ?_
    refine a_iconst (pc := 21) (c := 0) hC (by decide +kernel) ?_
    refine a_istore_n (pc := 22) (q := 3) (i := 3) (lv' := [(3, vi 0), (2, vi 0), (0, .ref 50), (1, vi ((s : Int)))]) hC (by decide +kernel) rfl (by decide) rfl ?_
    have L23 : ∀ (fuel : Nat) (a : Nat), A - a < fuel → a ≤ A → AW X 11 0 0 23 [(3, vi ((a : Int))), (2, vi (mbB (layV (m0 G) N) N s c a)), (0, .ref 50), (1, vi ((s : Int)))] [] (hp K (mbG (layV (m0 G) N) N s c a)) := by
      intro fuel
      induction fuel with
      | zero => intro a h; exact absurd h (Nat.not_lt_zero _)
      | succ fuel ih23 =>
        intro a hm ha
        have hbi := mbB_in (layV (m0 G) N) N s c a (by omega)
        refine a_iload_n (pc := 23) (q := 3) (i := 3) (x := (a : Int)) hC (by decide +kernel) rfl 0 rfl ?_
        refine a_aload_n (pc := 24) (q := 0) (i := 0) (x := 50) hC (by decide +kernel) rfl 2 rfl ?_
        refine g_get (pc := 25) (idx := 13) (ci := 6) (v := .ref 52) hC 50 3 (by decide +kernel) rfl rfl rfl rfl wrM (by decide) rfl (by decide +kernel) ?_
        refine a_iload_n (pc := 28) (q := 1) (i := 1) (x := (s : Int)) hC (by decide +kernel) rfl 3 rfl ?_
        refine g_iald (pc := 29) (a := 52) (j := s) hC hty (by decide +kernel) rfl (by omega) (by first | decide | omega) ?_
        refine g_top (y := (A : Int)) (by rw [mbG_n (by decide), layV_off (by decide) (by decide), layP_off (by omega), m0_n (by decide)]; exact hA) ?_
        refine a_icmp_ge (pc := 30) (off := 120) hC 150 (by decide +kernel) (by decide) (by unfold inI; omega) (by unfold inI; omega) (fun c30 => ?_) (fun c30 => ?_)
        · skip
          refine a_iload_n (pc := 150) (q := 2) (i := 2) (x := mbB (layV (m0 G) N) N s c a) hC (by decide +kernel) rfl 1 rfl ?_
          exact g_iret (pc := 151) hC hE (by decide +kernel) (by rw [show a = A by omega]) (by rw [show a = A by omega])
        · skip
          have ha2 : a < 3 := by omega
          have hpw := pw_in (k := a) (by omega)
          have hmB : MM (mbG (layV (m0 G) N) N s c a) N := hmL.keep (fun b hb => mbG_n (by omega) a) (fun k hk => mbG_k (by omega) (by omega) a)
          have hin := lcN_in (s := s) hmL (by omega) ha2 hrnV hcP
          have hid := lcD_in (s := s) hmL (by omega) ha2 hrnV hcP
          have hra := abs_in hin (by decide)
          have hrd := abs_in (x := (lcD (layV (m0 G) N) s a c)) (A := 10883911680) (by omega) (by decide)
          have hga := gcZ_in (a := (lcN (layV (m0 G) N) N s a c)) hid.1
          have hgai : inL (gcZ (lcN (layV (m0 G) N) N s a c) (lcD (layV (m0 G) N) s a c)) := by unfold inL; omega
          have hq3 := tdiv_b (g := (gcZ (lcN (layV (m0 G) N) N s a c) (lcD (layV (m0 G) N) s a c))) hin hga.1
          have hq4 := tdiv_b (x := (lcD (layV (m0 G) N) s a c)) (g := (gcZ (lcN (layV (m0 G) N) N s a c) (lcD (layV (m0 G) N) s a c))) (A := 10883911680) (by omega) hga.1
          refine a_aload_n (pc := 33) (q := 0) (i := 0) (x := 50) hC (by decide +kernel) rfl 2 rfl ?_
          refine a_iload_n (pc := 34) (q := 1) (i := 1) (x := (s : Int)) hC (by decide +kernel) rfl 3 rfl ?_
          refine a_iload_n (pc := 35) (q := 3) (i := 3) (x := (a : Int)) hC (by decide +kernel) rfl 0 rfl ?_
          refine g_callV0 (pc := 36) (idx := 165) (i := 50) (av := [vi ((s : Int)), vi ((a : Int))]) (rest := []) (g := mbG (layV (m0 G) N) N s c (a + 1)) hC hro hty (by decide +kernel) rfl rfl k_M_layComes (by decide +kernel) (by decide +kernel) (by decide +kernel) (ct_M_layComes X.la X.dd K (mbG (layV (m0 G) N) N s c a) N s a c (by omega) ha2 (by omega) (by rw [mbG_k (by decide) (by decide)]; exact hcL) hmB) rfl rfl (by decide) (by first | decide | simp [Value.category]) ?_
          refine a_aload_n (pc := 39) (q := 0) (i := 0) (x := 50) hC (by decide +kernel) rfl 2 rfl ?_
          refine g_get (pc := 40) (idx := 159) (ci := 6) (v := vl ((mbG (layV (m0 G) N) N s c (a + 1)) 50 20)) hC 50 20 (by decide +kernel) rfl rfl rfl rfl wrM (by decide) rfl (by decide +kernel) ?_
          refine g_topl (y := lcN (layV (m0 G) N) N s a c) mbG_20 ?_
          refine a_aload_n (pc := 43) (q := 0) (i := 0) (x := 50) hC (by decide +kernel) rfl 2 rfl ?_
          refine g_get (pc := 44) (idx := 162) (ci := 6) (v := vl ((mbG (layV (m0 G) N) N s c (a + 1)) 50 21)) hC 50 21 (by decide +kernel) rfl rfl rfl rfl wrM (by decide) rfl (by decide +kernel) ?_
          refine g_topl (y := lcD (layV (m0 G) N) s a c) mbG_21 ?_
          refine g_callS (pc := 47) (idx := 65) (av := [vl (lcN (layV (m0 G) N) N s a c), vl (lcD (layV (m0 G) N) s a c)]) (rest := []) (g := mbG (layV (m0 G) N) N s c (a + 1)) (v := vl (gcZ (lcN (layV (m0 G) N) N s a c) (lcD (layV (m0 G) N) s a c))) hC hro hty (by decide +kernel) k_M_divisor (by decide +kernel) (by decide +kernel) (ct_M_divisor X.la X.dd K (mbG (layV (m0 G) N) N s c (a + 1)) (lcN (layV (m0 G) N) N s a c) (lcD (layV (m0 G) N) s a c) hra hrd) rfl rfl (by decide) (by first | decide | simp [Value.category]) ?_
          refine a_lstore (pc := 50) (q := 0) (i := 4) (lv' := [(4, vl (gcZ (lcN (layV (m0 G) N) N s a c) (lcD (layV (m0 G) N) s a c))), (3, vi ((a : Int))), (2, vi (mbB (layV (m0 G) N) N s c a)), (0, .ref 50), (1, vi ((s : Int)))]) hC (by decide +kernel) (by decide) rfl ?_
          refine a_aload_n (pc := 52) (q := 0) (i := 0) (x := 50) hC (by decide +kernel) rfl 3 rfl ?_
          refine g_get (pc := 53) (idx := 47) (ci := 6) (v := .ref 59) hC 50 15 (by decide +kernel) rfl rfl rfl rfl wrM (by decide) rfl (by decide +kernel) ?_
          refine a_iconst (pc := 56) (c := 5) hC (by decide +kernel) ?_
          refine a_aload_n (pc := 57) (q := 0) (i := 0) (x := 50) hC (by decide +kernel) rfl 3 rfl ?_
          refine g_get (pc := 58) (idx := 140) (ci := 6) (v := vi ((mbG (layV (m0 G) N) N s c (a + 1)) 50 18)) hC 50 18 (by decide +kernel) rfl rfl rfl rfl wrM (by decide) rfl (by decide +kernel) ?_
          refine g_top (y := (c : Int)) (by rw [mbG_k (by decide) (by decide)]; exact hcL) ?_
          refine a_imul (pc := 61) hC (by decide +kernel) ?_
          refine a_iload_n (pc := 62) (q := 1) (i := 1) (x := (s : Int)) hC (by decide +kernel) rfl 4 rfl ?_
          refine a_iadd (pc := 63) hC (by decide +kernel) ?_
          refine g_top (y := ((5 * c + s : Nat) : Int)) (by omega) ?_
          refine g_lald (pc := 64) (a := 59) (j := 5 * c + s) hC hty (by decide +kernel) rfl (by omega) (by first | decide | omega) ?_
          refine g_topl (y := (layV (m0 G) N) 59 (5 * c + s)) (by rw [mbG_n (by decide)]) ?_
          refine a_lstore (pc := 65) (q := 0) (i := 6) (lv' := [(6, vl ((layV (m0 G) N) 59 (5 * c + s))), (4, vl (gcZ (lcN (layV (m0 G) N) N s a c) (lcD (layV (m0 G) N) s a c))), (3, vi ((a : Int))), (2, vi (mbB (layV (m0 G) N) N s c a)), (0, .ref 50), (1, vi ((s : Int)))]) hC (by decide +kernel) (by decide) rfl ?_
          refine a_lload (pc := 67) (i := 6) (x := (layV (m0 G) N) 59 (5 * c + s)) hC (by decide +kernel) 0 rfl ?_
          refine a_aload_n (pc := 69) (q := 0) (i := 0) (x := 50) hC (by decide +kernel) rfl 4 rfl ?_
          refine g_get (pc := 70) (idx := 50) (ci := 6) (v := .ref 60) hC 50 16 (by decide +kernel) rfl rfl rfl rfl wrM (by decide) rfl (by decide +kernel) ?_
          refine a_aload_n (pc := 73) (q := 0) (i := 0) (x := 50) hC (by decide +kernel) rfl 4 rfl ?_
          refine g_get (pc := 74) (idx := 140) (ci := 6) (v := vi ((mbG (layV (m0 G) N) N s c (a + 1)) 50 18)) hC 50 18 (by decide +kernel) rfl rfl rfl rfl wrM (by decide) rfl (by decide +kernel) ?_
          refine g_top (y := (c : Int)) (by rw [mbG_k (by decide) (by decide)]; exact hcL) ?_
          refine g_lald (pc := 77) (a := 60) (j := c) hC hty (by decide +kernel) rfl (by omega) (by first | decide | omega) ?_
          refine g_topl (y := (layV (m0 G) N) 60 c) (by rw [mbG_n (by decide)]) ?_
          refine g_callS (pc := 78) (idx := 65) (av := [vl ((layV (m0 G) N) 59 (5 * c + s)), vl ((layV (m0 G) N) 60 c)]) (rest := []) (g := mbG (layV (m0 G) N) N s c (a + 1)) (v := vl (gcZ ((layV (m0 G) N) 59 (5 * c + s)) ((layV (m0 G) N) 60 c))) hC hro hty (by decide +kernel) k_M_divisor (by decide +kernel) (by decide +kernel) (ct_M_divisor X.la X.dd K (mbG (layV (m0 G) N) N s c (a + 1)) ((layV (m0 G) N) 59 (5 * c + s)) ((layV (m0 G) N) 60 c) hunr hulr) rfl rfl (by decide) (by first | decide | simp [Value.category]) ?_
          refine a_lstore (pc := 81) (q := 0) (i := 8) (lv' := [(8, vl (gcZ ((layV (m0 G) N) 59 (5 * c + s)) ((layV (m0 G) N) 60 c))), (6, vl ((layV (m0 G) N) 59 (5 * c + s))), (4, vl (gcZ (lcN (layV (m0 G) N) N s a c) (lcD (layV (m0 G) N) s a c))), (3, vi ((a : Int))), (2, vi (mbB (layV (m0 G) N) N s c a)), (0, .ref 50), (1, vi ((s : Int)))]) hC (by decide +kernel) (by decide) rfl ?_
          refine a_aload_n (pc := 83) (q := 0) (i := 0) (x := 50) hC (by decide +kernel) rfl 5 rfl ?_
          refine g_get (pc := 84) (idx := 159) (ci := 6) (v := vl ((mbG (layV (m0 G) N) N s c (a + 1)) 50 20)) hC 50 20 (by decide +kernel) rfl rfl rfl rfl wrM (by decide) rfl (by decide +kernel) ?_
          refine g_topl (y := lcN (layV (m0 G) N) N s a c) mbG_20 ?_
          refine a_lload (pc := 87) (i := 4) (x := gcZ (lcN (layV (m0 G) N) N s a c) (lcD (layV (m0 G) N) s a c)) hC (by decide +kernel) 2 rfl ?_
          refine a_ldiv (pc := 89) hC (by decide +kernel) hra.1 hgai (by omega) ?_
          refine a_lload (pc := 90) (i := 6) (x := (layV (m0 G) N) 59 (5 * c + s)) hC (by decide +kernel) 1 rfl ?_
          refine a_lload (pc := 92) (i := 8) (x := gcZ ((layV (m0 G) N) 59 (5 * c + s)) ((layV (m0 G) N) 60 c)) hC (by decide +kernel) 0 rfl ?_
          refine a_ldiv (pc := 94) hC (by decide +kernel) hunr.1 hgbi (by omega) ?_
          refine a_lcmp (pc := 95) hC (by decide +kernel) (by unfold inL; omega) (by unfold inL; omega) ?_
          refine a_if_ne (pc := 96) (off := 30) hC 126 (by decide +kernel) (by decide) (cmpZ_in _ _) (fun c96 => ?_) (fun c96 => ?_)
          · skip
            rw [cmpZ_eq] at c96
            have hT : mbT (layV (m0 G) N) N s c a = false := by unfold mbT; rw [decide_eq_false c96]; rfl
            refine a_iconst (pc := 126) (c := 0) hC (by decide +kernel) ?_
            refine a_istore (pc := 127) (q := 0) (i := 10) (lv' := [(10, vi 0), (8, vl (gcZ ((layV (m0 G) N) 59 (5 * c + s)) ((layV (m0 G) N) 60 c))), (6, vl ((layV (m0 G) N) 59 (5 * c + s))), (4, vl (gcZ (lcN (layV (m0 G) N) N s a c) (lcD (layV (m0 G) N) s a c))), (3, vi ((a : Int))), (2, vi (mbB (layV (m0 G) N) N s c a)), (0, .ref 50), (1, vi ((s : Int)))]) hC (by decide +kernel) (by decide) rfl ?_
            refine a_iload (pc := 129) (i := 10) (x := 0) hC (by decide +kernel) 0 rfl ?_
            refine a_if_eq (pc := 131) (off := 11) hC 142 (by decide +kernel) (by decide) (by unfold inI; omega) (fun c131 => ?_) (fun c131 => ?_)
            · skip
              have hst : mbB (layV (m0 G) N) N s c a = mbB (layV (m0 G) N) N s c (a + 1) := by show _ = (if _ then _ else _); rw [if_neg (by rw [hT]; decide)]
              refine a_iload_n (pc := 142) (q := 2) (i := 2) (x := mbB (layV (m0 G) N) N s c a) hC (by decide +kernel) rfl 5 rfl ?_
              refine a_istore_n (pc := 143) (q := 2) (i := 2) (lv' := [(2, vi (mbB (layV (m0 G) N) N s c a)), (10, vi 0), (8, vl (gcZ ((layV (m0 G) N) 59 (5 * c + s)) ((layV (m0 G) N) 60 c))), (6, vl ((layV (m0 G) N) 59 (5 * c + s))), (4, vl (gcZ (lcN (layV (m0 G) N) N s a c) (lcD (layV (m0 G) N) s a c))), (3, vi ((a : Int))), (0, .ref 50), (1, vi ((s : Int)))]) hC (by decide +kernel) rfl (by decide) rfl ?_
              refine a_iinc (pc := 144) (i := 3) (c := 1) (x := (a : Int)) (lv' := [(3, vi (((a : Int)) + 1)), (2, vi (mbB (layV (m0 G) N) N s c a)), (10, vi 0), (8, vl (gcZ ((layV (m0 G) N) 59 (5 * c + s)) ((layV (m0 G) N) 60 c))), (6, vl ((layV (m0 G) N) 59 (5 * c + s))), (4, vl (gcZ (lcN (layV (m0 G) N) N s a c) (lcD (layV (m0 G) N) s a c))), (0, .ref 50), (1, vi ((s : Int)))]) hC (by decide +kernel) 5 rfl (by decide) rfl ?_
              refine a_goto (pc := 147) (off := -124) hC 23 (by decide +kernel) (by decide) ?_
              refine a_sub (lv' := [(3, vi (((a + 1) : Int))), (2, vi (mbB (layV (m0 G) N) N s c (a + 1))), (0, .ref 50), (1, vi ((s : Int)))]) [0, 1, 6, 7] (by rw [← hst]; rfl) ?_
              exact ih23 (a + 1) (by omega) (by omega)
            · skip
              exact absurd rfl c131
          · skip
            rw [cmpZ_eq] at c96
            refine a_aload_n (pc := 99) (q := 0) (i := 0) (x := 50) hC (by decide +kernel) rfl 5 rfl ?_
            refine g_get (pc := 100) (idx := 162) (ci := 6) (v := vl ((mbG (layV (m0 G) N) N s c (a + 1)) 50 21)) hC 50 21 (by decide +kernel) rfl rfl rfl rfl wrM (by decide) rfl (by decide +kernel) ?_
            refine g_topl (y := lcD (layV (m0 G) N) s a c) mbG_21 ?_
            refine a_lload (pc := 103) (i := 4) (x := gcZ (lcN (layV (m0 G) N) N s a c) (lcD (layV (m0 G) N) s a c)) hC (by decide +kernel) 2 rfl ?_
            refine a_ldiv (pc := 105) hC (by decide +kernel) hrd.1 hgai (by omega) ?_
            refine a_aload_n (pc := 106) (q := 0) (i := 0) (x := 50) hC (by decide +kernel) rfl 5 rfl ?_
            refine g_get (pc := 107) (idx := 50) (ci := 6) (v := .ref 60) hC 50 16 (by decide +kernel) rfl rfl rfl rfl wrM (by decide) rfl (by decide +kernel) ?_
            refine a_aload_n (pc := 110) (q := 0) (i := 0) (x := 50) hC (by decide +kernel) rfl 5 rfl ?_
            refine g_get (pc := 111) (idx := 140) (ci := 6) (v := vi ((mbG (layV (m0 G) N) N s c (a + 1)) 50 18)) hC 50 18 (by decide +kernel) rfl rfl rfl rfl wrM (by decide) rfl (by decide +kernel) ?_
            refine g_top (y := (c : Int)) (by rw [mbG_k (by decide) (by decide)]; exact hcL) ?_
            refine g_lald (pc := 114) (a := 60) (j := c) hC hty (by decide +kernel) rfl (by omega) (by first | decide | omega) ?_
            refine g_topl (y := (layV (m0 G) N) 60 c) (by rw [mbG_n (by decide)]) ?_
            refine a_lload (pc := 115) (i := 8) (x := gcZ ((layV (m0 G) N) 59 (5 * c + s)) ((layV (m0 G) N) 60 c)) hC (by decide +kernel) 0 rfl ?_
            refine a_ldiv (pc := 117) hC (by decide +kernel) hulr.1 hgbi (by omega) ?_
            refine a_lcmp (pc := 118) hC (by decide +kernel) (by unfold inL; omega) (by unfold inL; omega) ?_
            refine a_if_ne (pc := 119) (off := 7) hC 126 (by decide +kernel) (by decide) (cmpZ_in _ _) (fun c119 => ?_) (fun c119 => ?_)
            · skip
              rw [cmpZ_eq] at c119
              have hT : mbT (layV (m0 G) N) N s c a = false := by unfold mbT; rw [decide_eq_false c119, Bool.and_false]
              refine a_iconst (pc := 126) (c := 0) hC (by decide +kernel) ?_
              refine a_istore (pc := 127) (q := 0) (i := 10) (lv' := [(10, vi 0), (8, vl (gcZ ((layV (m0 G) N) 59 (5 * c + s)) ((layV (m0 G) N) 60 c))), (6, vl ((layV (m0 G) N) 59 (5 * c + s))), (4, vl (gcZ (lcN (layV (m0 G) N) N s a c) (lcD (layV (m0 G) N) s a c))), (3, vi ((a : Int))), (2, vi (mbB (layV (m0 G) N) N s c a)), (0, .ref 50), (1, vi ((s : Int)))]) hC (by decide +kernel) (by decide) rfl ?_
              refine a_iload (pc := 129) (i := 10) (x := 0) hC (by decide +kernel) 0 rfl ?_
              refine a_if_eq (pc := 131) (off := 11) hC 142 (by decide +kernel) (by decide) (by unfold inI; omega) (fun c131 => ?_) (fun c131 => ?_)
              · skip
                have hst : mbB (layV (m0 G) N) N s c a = mbB (layV (m0 G) N) N s c (a + 1) := by show _ = (if _ then _ else _); rw [if_neg (by rw [hT]; decide)]
                refine a_iload_n (pc := 142) (q := 2) (i := 2) (x := mbB (layV (m0 G) N) N s c a) hC (by decide +kernel) rfl 5 rfl ?_
                refine a_istore_n (pc := 143) (q := 2) (i := 2) (lv' := [(2, vi (mbB (layV (m0 G) N) N s c a)), (10, vi 0), (8, vl (gcZ ((layV (m0 G) N) 59 (5 * c + s)) ((layV (m0 G) N) 60 c))), (6, vl ((layV (m0 G) N) 59 (5 * c + s))), (4, vl (gcZ (lcN (layV (m0 G) N) N s a c) (lcD (layV (m0 G) N) s a c))), (3, vi ((a : Int))), (0, .ref 50), (1, vi ((s : Int)))]) hC (by decide +kernel) rfl (by decide) rfl ?_
                refine a_iinc (pc := 144) (i := 3) (c := 1) (x := (a : Int)) (lv' := [(3, vi (((a : Int)) + 1)), (2, vi (mbB (layV (m0 G) N) N s c a)), (10, vi 0), (8, vl (gcZ ((layV (m0 G) N) 59 (5 * c + s)) ((layV (m0 G) N) 60 c))), (6, vl ((layV (m0 G) N) 59 (5 * c + s))), (4, vl (gcZ (lcN (layV (m0 G) N) N s a c) (lcD (layV (m0 G) N) s a c))), (0, .ref 50), (1, vi ((s : Int)))]) hC (by decide +kernel) 5 rfl (by decide) rfl ?_
                refine a_goto (pc := 147) (off := -124) hC 23 (by decide +kernel) (by decide) ?_
                refine a_sub (lv' := [(3, vi (((a + 1) : Int))), (2, vi (mbB (layV (m0 G) N) N s c (a + 1))), (0, .ref 50), (1, vi ((s : Int)))]) [0, 1, 6, 7] (by rw [← hst]; rfl) ?_
                exact ih23 (a + 1) (by omega) (by omega)
              · skip
                exact absurd rfl c131
            · skip
              rw [cmpZ_eq] at c119
              have hT : mbT (layV (m0 G) N) N s c a = true := by unfold mbT; rw [decide_eq_true c96, decide_eq_true c119]; rfl
              refine a_iconst (pc := 122) (c := 1) hC (by decide +kernel) ?_
              refine a_goto (pc := 123) (off := 4) hC 127 (by decide +kernel) (by decide) ?_
              refine a_istore (pc := 127) (q := 0) (i := 10) (lv' := [(10, vi 1), (8, vl (gcZ ((layV (m0 G) N) 59 (5 * c + s)) ((layV (m0 G) N) 60 c))), (6, vl ((layV (m0 G) N) 59 (5 * c + s))), (4, vl (gcZ (lcN (layV (m0 G) N) N s a c) (lcD (layV (m0 G) N) s a c))), (3, vi ((a : Int))), (2, vi (mbB (layV (m0 G) N) N s c a)), (0, .ref 50), (1, vi ((s : Int)))]) hC (by decide +kernel) (by decide) rfl ?_
              refine a_iload (pc := 129) (i := 10) (x := 1) hC (by decide +kernel) 0 rfl ?_
              refine a_if_eq (pc := 131) (off := 11) hC 142 (by decide +kernel) (by decide) (by unfold inI; omega) (fun c131 => ?_) (fun c131 => ?_)
              · skip
                exact absurd c131 (by decide)
              · skip
                have hst : orZ (mbB (layV (m0 G) N) N s c a) ((pw a : Nat) : Int) = mbB (layV (m0 G) N) N s c (a + 1) := by show _ = (if _ then _ else _); rw [if_pos hT]
                refine a_iload_n (pc := 134) (q := 2) (i := 2) (x := mbB (layV (m0 G) N) N s c a) hC (by decide +kernel) rfl 5 rfl ?_
                refine a_iconst (pc := 135) (c := 1) hC (by decide +kernel) ?_
                refine a_iload_n (pc := 136) (q := 3) (i := 3) (x := (a : Int)) hC (by decide +kernel) rfl 4 rfl ?_
                refine a_ishl (pc := 137) (z := ((pw a : Nat) : Int)) hC (by decide +kernel) (iZ_shl (by omega)) ?_
                refine a_ior (pc := 138) (z := orZ (mbB (layV (m0 G) N) N s c a) ((pw a : Nat) : Int)) hC (by decide +kernel) (iZ_or (by omega) (by omega)) ?_
                refine a_goto (pc := 139) (off := 4) hC 143 (by decide +kernel) (by decide) ?_
                refine a_istore_n (pc := 143) (q := 2) (i := 2) (lv' := [(2, vi (orZ (mbB (layV (m0 G) N) N s c a) ((pw a : Nat) : Int))), (10, vi 1), (8, vl (gcZ ((layV (m0 G) N) 59 (5 * c + s)) ((layV (m0 G) N) 60 c))), (6, vl ((layV (m0 G) N) 59 (5 * c + s))), (4, vl (gcZ (lcN (layV (m0 G) N) N s a c) (lcD (layV (m0 G) N) s a c))), (3, vi ((a : Int))), (0, .ref 50), (1, vi ((s : Int)))]) hC (by decide +kernel) rfl (by decide) rfl ?_
                refine a_iinc (pc := 144) (i := 3) (c := 1) (x := (a : Int)) (lv' := [(3, vi (((a : Int)) + 1)), (2, vi (orZ (mbB (layV (m0 G) N) N s c a) ((pw a : Nat) : Int))), (10, vi 1), (8, vl (gcZ ((layV (m0 G) N) 59 (5 * c + s)) ((layV (m0 G) N) 60 c))), (6, vl ((layV (m0 G) N) 59 (5 * c + s))), (4, vl (gcZ (lcN (layV (m0 G) N) N s a c) (lcD (layV (m0 G) N) s a c))), (0, .ref 50), (1, vi ((s : Int)))]) hC (by decide +kernel) 5 rfl (by decide) rfl ?_
                refine a_goto (pc := 147) (off := -124) hC 23 (by decide +kernel) (by decide) ?_
                refine a_sub (lv' := [(3, vi (((a + 1) : Int))), (2, vi (mbB (layV (m0 G) N) N s c (a + 1))), (0, .ref 50), (1, vi ((s : Int)))]) [0, 1, 6, 7] (by rw [← hst]; rfl) ?_
                exact ih23 (a + 1) (by omega) (by omega)
    refine a_sub (lv' := [(3, vi ((0 : Int))), (2, vi (mbB (layV (m0 G) N) N s c 0)), (0, .ref 50), (1, vi ((s : Int)))]) [0, 1, 2, 3] rfl ?_
    refine g_G (G' := mbG (layV (m0 G) N) N s c 0) rfl ?_
    exact L23 _ 0 (Nat.lt_succ_self _) (by omega)
  · skip
    exact absurd c10 (by decide)
