/-! LongRun: homes, rows, follow -/
theorem tb_congr {G G' : GT} (h : G' 42 = G 42) (s t : Nat) : tb G' s t = tb G s t := by unfold tb; rw [h]
theorem cirL_congr {G G' : GT} (h : G' 42 = G 42) (s : Nat) : ∀ n, cirL G' s n = cirL G s n
  | 0 => rfl
  | n + 1 => by unfold cirL; rw [cirL_congr h s n, tb_congr h, tb_congr h]
theorem inCir_congr {G G' : GT} (h : G' 42 = G 42) (s n : Nat) : inCir G' s n = inCir G s n := by unfold inCir; rw [cirL_congr h, tb_congr h]
def hoS (G : GT) (N s : Nat) : Nat → Int
  | 0 => (s : Int)
  | j + 1 => if inCir G s N = true ∧ tb G s (s + 1 + j) = true then ((s + 1 + j : Nat) : Int) else hoS G N s j
def homZ (G : GT) (N s : Nat) : Int := hoS G N s (N - (s + 1))
theorem hoS_in {G : GT} {N s : Nat} (hs : s < N) : ∀ j, s + 1 + j ≤ N → 0 ≤ hoS G N s j ∧ hoS G N s j < N
  | 0, _ => by unfold hoS; omega
  | j + 1, h => by
    unfold hoS
    split
    · omega
    · exact hoS_in hs j (by omega)
theorem homZ_in {G : GT} {N s : Nat} (hs : s < N) : 0 ≤ homZ G N s ∧ homZ G N s < N := hoS_in hs _ (by omega)
def homF (G : GT) (N i : Nat) : Nat → Int := fun z => if z < i then homZ G N z else G 43 z
theorem homF_0 (G : GT) (N : Nat) : homF G N 0 = G 43 := by funext s; exact if_neg (by omega)
theorem homF_s (G : GT) (N i : Nat) : up (homF G N i) i (homZ G N i) = homF G N (i + 1) := by
  funext j; unfold up homF
  by_cases h : j = i
  · subst h; rw [if_pos rfl, if_pos (by omega)]
  · rw [if_neg h]
    by_cases h2 : j < i
    · rw [if_pos h2, if_pos (by omega)]
    · rw [if_neg h2, if_neg (by omega)]
def homG (G : GT) (N : Nat) : GT := uG G 43 (homF G N N)
theorem up_up (f : Nat → Int) (i : Nat) (x y : Int) : up (up f i x) i y = up f i y := by
  funext j; unfold up; split <;> rfl
/-- a circle's row -/
def wcF (G : GT) (q h t : Nat) (r0 : Nat → Int) : Nat → Int := fun c => if c < t ∧ c ≠ h then r0 c - G (7 + q) c else r0 c
def wcH (G : GT) (N q h : Nat) (r0 : Nat → Int) : Nat → Int := up (wcF G q h N r0) h (wcF G q h N r0 h + G 5 q)
def wcR (G : GT) (N s q h : Nat) (r0 : Nat → Int) : Nat → Int := up (if s = h then wcH G N q h r0 else up (wcH G N q h r0) s (wcH G N q h r0 s + G 5 q)) 5 (G 5 q * G 4 q)
theorem wcF_0 (G : GT) (q h : Nat) (r0 : Nat → Int) : wcF G q h 0 r0 = r0 := by funext c; exact if_neg (by omega)
theorem wcF_hi {G : GT} {q h t c : Nat} {r0 : Nat → Int} (e : t ≤ c) : wcF G q h t r0 c = r0 c := if_neg (by omega)
theorem wcF_k {G : GT} {q h t : Nat} {r0 : Nat → Int} (e : t = h) : wcF G q h t r0 = wcF G q h (t + 1) r0 := by
  funext c; unfold wcF
  by_cases h2 : c < t ∧ c ≠ h
  · rw [if_pos h2, if_pos (by omega)]
  · rw [if_neg h2, if_neg (by omega)]
theorem wcF_s {G : GT} {q h t : Nat} {r0 : Nat → Int} (e : t ≠ h) : up (wcF G q h t r0) t (r0 t - G (7 + q) t) = wcF G q h (t + 1) r0 := by
  funext c
  by_cases hc : c = t
  · subst hc; rw [up_s]; unfold wcF; rw [if_pos (by omega)]
  · rw [up_n _ _ hc]; unfold wcF
    by_cases h2 : c < t ∧ c ≠ h
    · rw [if_pos h2, if_pos (by omega)]
    · rw [if_neg h2, if_neg (by omega)]
/-- a passage's row -/
def wpS (G : GT) (q : Nat) (r0 : Nat → Int) : Nat → Nat → Int
  | 0 => r0
  | t + 1 => up (wpS G q r0 t) (G 43 t).toNat (wpS G q r0 t (G 43 t).toNat - G (7 + q) t)
theorem wpS_s (G : GT) (q : Nat) (r0 : Nat → Int) (t : Nat) : wpS G q r0 (t + 1) = up (wpS G q r0 t) (G 43 t).toNat (wpS G q r0 t (G 43 t).toNat - G (7 + q) t) := rfl
def wpR (G : GT) (N s q : Nat) (r0 : Nat → Int) : Nat → Int := up (wpS G q r0 N) s (wpS G q r0 N s + maxZ 1 (G 5 q))

set_option maxRecDepth 100000 in
set_option maxHeartbeats 4000000 in
theorem ct_L_findHomes (l : Launch) (D : va_G) (K : K5) (G : GT) (N : Nat) (hN : N ≤ 5) (hrc : RcOk G N) : Ct l D K y_L_findHomes c_L_findHomes 5 none 2 45 [.ref 32, vi ((N : Int))] G none (homG G N) := by
  refine Ct.intro (by decide +kernel) (Nat.le_of_ble_eq_true rfl) ?_
  intro X hro hty hC hE
  refine a_iconst (pc := 0) (c := 0) hC (by decide +kernel) ?_
  refine a_istore_n (pc := 1) (q := 2) (i := 2) (lv' := [(2, vi 0), (0, .ref 32), (1, vi ((N : Int)))]) hC (by decide +kernel) rfl (by decide) rfl ?_
  have L2 : ∀ (fuel : Nat) (s : Nat), N - s < fuel → s ≤ N → AW X 5 0 0 2 [(2, vi ((s : Int))), (0, .ref 32), (1, vi ((N : Int)))] [] (hp K (uG G 43 (homF G N s))) := by
    intro fuel
    induction fuel with
    | zero => intro s h; exact absurd h (Nat.not_lt_zero _)
    | succ fuel ih2 =>
      intro s hm hs
      refine a_iload_n (pc := 2) (q := 2) (i := 2) (x := (s : Int)) hC (by decide +kernel) rfl 0 rfl ?_
      refine a_iload_n (pc := 3) (q := 1) (i := 1) (x := (N : Int)) hC (by decide +kernel) rfl 2 rfl ?_
      refine a_icmp_ge (pc := 4) (off := 62) hC 66 (by decide +kernel) (by decide) (by unfold inI; omega) (by unfold inI; omega) (fun c4 => ?_) (fun c4 => ?_)
      · skip
        exact g_vret (pc := 66) hC hE (by decide +kernel) (by rw [show s = N by omega]; rfl)
      · skip
        refine a_aload_n (pc := 7) (q := 0) (i := 0) (x := 32) hC (by decide +kernel) rfl 1 rfl ?_
        refine g_get (pc := 8) (idx := 29) (ci := 1) (v := .ref 43) hC 32 3 (by decide +kernel) rfl rfl rfl rfl wrL (by decide) rfl (by decide +kernel) ?_
        refine a_iload_n (pc := 11) (q := 2) (i := 2) (x := (s : Int)) hC (by decide +kernel) rfl 0 rfl ?_
        refine a_iload_n (pc := 12) (q := 2) (i := 2) (x := (s : Int)) hC (by decide +kernel) rfl 0 rfl ?_
        refine g_iast (pc := 13) (a := 43) (j := s) (x := (s : Int)) hC hty (by decide +kernel) rfl (by omega) (by first | decide | omega) ?_
        refine g_G (G' := uG G 43 (up (homF G N s) s (hoS G N s 0))) (by rw [uG_s, uG_uG]; rfl) ?_
        refine a_aload_n (pc := 14) (q := 0) (i := 0) (x := 32) hC (by decide +kernel) rfl 1 rfl ?_
        refine a_iload_n (pc := 15) (q := 2) (i := 2) (x := (s : Int)) hC (by decide +kernel) rfl 0 rfl ?_
        refine a_iload_n (pc := 16) (q := 1) (i := 1) (x := (N : Int)) hC (by decide +kernel) rfl 2 rfl ?_
        refine g_callV (pc := 17) (idx := 53) (i := 32) (av := [vi ((s : Int)), vi ((N : Int))]) (rest := []) (g := uG G 43 (up (homF G N s) s (hoS G N s 0))) (v := vi (bZ (inCir (uG G 43 (up (homF G N s) s (hoS G N s 0))) s N))) hC hro hty (by decide +kernel) rfl rfl k_L_isInCircle (by decide +kernel) (by decide +kernel) (by decide +kernel) (ct_L_isInCircle X.la X.dd K (uG G 43 (up (homF G N s) s (hoS G N s 0))) N s (by omega) (by omega) (fun z hz => by rw [uG_n _ _ (by decide)]; exact hrc z hz)) rfl rfl (by decide) (by first | decide | simp [Value.category]) ?_
        refine g_top (y := bZ (inCir G s N)) (by rw [inCir_congr (uG_n _ _ (by decide))]) ?_
        refine a_istore_n (pc := 20) (q := 3) (i := 3) (lv' := [(3, vi (bZ (inCir G s N))), (2, vi ((s : Int))), (0, .ref 32), (1, vi ((N : Int)))]) hC (by decide +kernel) rfl (by decide) rfl ?_
        refine a_iload_n (pc := 21) (q := 2) (i := 2) (x := (s : Int)) hC (by decide +kernel) rfl 1 rfl ?_
        refine a_iconst (pc := 22) (c := 1) hC (by decide +kernel) ?_
        refine a_iadd (pc := 23) hC (by decide +kernel) ?_
        refine a_istore (pc := 24) (q := 0) (i := 4) (lv' := [(4, vi (((s : Int)) + 1)), (3, vi (bZ (inCir G s N))), (2, vi ((s : Int))), (0, .ref 32), (1, vi ((N : Int)))]) hC (by decide +kernel) (by decide) rfl ?_
        have L26 : ∀ (fuel : Nat) (j : Nat), N - (s + 1 + j) < fuel → s + 1 + j ≤ N → AW X 5 0 0 26 [(4, vi (((s + 1 + j : Nat) : Int))), (3, vi (bZ (inCir G s N))), (2, vi ((s : Int))), (0, .ref 32), (1, vi ((N : Int)))] [] (hp K (uG G 43 (up (homF G N s) s (hoS G N s j)))) := by
          intro fuel
          induction fuel with
          | zero => intro j h; exact absurd h (Nat.not_lt_zero _)
          | succ fuel ih26 =>
            intro j hm hj
            have hb1 := bZ_01 (inCir G s N)
            refine a_iload (pc := 26) (i := 4) (x := ((s + 1 + j : Nat) : Int)) hC (by decide +kernel) 0 rfl ?_
            refine a_iload_n (pc := 28) (q := 1) (i := 1) (x := (N : Int)) hC (by decide +kernel) rfl 4 rfl ?_
            refine a_icmp_ge (pc := 29) (off := 31) hC 60 (by decide +kernel) (by decide) (by unfold inI; omega) (by unfold inI; omega) (fun c29 => ?_) (fun c29 => ?_)
            · skip
              refine a_iinc (pc := 60) (i := 2) (c := 1) (x := (s : Int)) (lv' := [(2, vi (((s : Int)) + 1)), (4, vi (((s + 1 + j : Nat) : Int))), (3, vi (bZ (inCir G s N))), (0, .ref 32), (1, vi ((N : Int)))]) hC (by decide +kernel) 2 rfl (by decide) rfl ?_
              refine a_goto (pc := 63) (off := -61) hC 2 (by decide +kernel) (by decide) ?_
              refine a_sub (lv' := [(2, vi (((s + 1) : Int))), (0, .ref 32), (1, vi ((N : Int)))]) [0, 3, 4] rfl ?_
              refine g_G (G' := uG G 43 (homF G N (s + 1))) (by rw [← homF_s]; unfold homZ; rw [show N - (s + 1) = j by omega]) ?_
              exact ih2 (s + 1) (by omega) (by omega)
            · skip
              refine a_iload_n (pc := 32) (q := 3) (i := 3) (x := bZ (inCir G s N)) hC (by decide +kernel) rfl 1 rfl ?_
              refine a_if_eq (pc := 33) (off := 21) hC 54 (by decide +kernel) (by decide) (by unfold inI; omega) (fun c33 => ?_) (fun c33 => ?_)
              · skip
                have hic : inCir G s N = false := by
                  cases hh : inCir G s N
                  · rfl
                  · rw [hh] at c33; exact absurd c33 (by decide)
                have hos : hoS G N s j = hoS G N s (j + 1) := by show _ = (if _ then _ else _); rw [if_neg (by rw [hic]; exact fun q => absurd q.1 (by decide))]
                refine a_iinc (pc := 54) (i := 4) (c := 1) (x := ((s + 1 + j : Nat) : Int)) (lv' := [(4, vi ((((s + 1 + j : Nat) : Int)) + 1)), (3, vi (bZ (inCir G s N))), (2, vi ((s : Int))), (0, .ref 32), (1, vi ((N : Int)))]) hC (by decide +kernel) 0 rfl (by decide) rfl ?_
                refine a_goto (pc := 57) (off := -31) hC 26 (by decide +kernel) (by decide) ?_
                refine a_sub (lv' := [(4, vi (((s + 1 + (j + 1) : Nat) : Int))), (3, vi (bZ (inCir G s N))), (2, vi ((s : Int))), (0, .ref 32), (1, vi ((N : Int)))]) [0, 1, 2, 3, 4] rfl ?_
                refine g_G (G' := uG G 43 (up (homF G N s) s (hoS G N s (j + 1)))) (by first | (rw [← hos]; done) | (rw [uG_s, uG_uG, up_up, hos])) ?_
                exact ih26 (j + 1) (by omega) (by omega)
              · skip
                have hic : inCir G s N = true := by
                  cases hh : inCir G s N
                  · rw [hh] at c33; exact absurd rfl c33
                  · rfl
                have hb2 := bZ_01 (tb G s (s + 1 + j))
                refine a_aload_n (pc := 36) (q := 0) (i := 0) (x := 32) hC (by decide +kernel) rfl 3 rfl ?_
                refine a_iload_n (pc := 37) (q := 2) (i := 2) (x := (s : Int)) hC (by decide +kernel) rfl 2 rfl ?_
                refine a_iload (pc := 38) (i := 4) (x := ((s + 1 + j : Nat) : Int)) hC (by decide +kernel) 0 rfl ?_
                refine g_callV (pc := 40) (idx := 75) (i := 32) (av := [vi ((s : Int)), vi (((s + 1 + j : Nat) : Int))]) (rest := []) (g := uG G 43 (up (homF G N s) s (hoS G N s j))) (v := vi (bZ (tb (uG G 43 (up (homF G N s) s (hoS G N s j))) s (s + 1 + j)))) hC hro hty (by decide +kernel) rfl rfl k_L_reaches (by decide +kernel) (by decide +kernel) (by decide +kernel) (ct_L_reaches X.la X.dd K (uG G 43 (up (homF G N s) s (hoS G N s j))) N s (s + 1 + j) (by omega) (by omega) (by omega) (fun z hz => by rw [uG_n _ _ (by decide)]; exact hrc z hz)) rfl rfl (by decide) (by first | decide | simp [Value.category]) ?_
                refine g_top (y := bZ (tb G s (s + 1 + j))) (by rw [tb_congr (uG_n _ _ (by decide))]) ?_
                refine a_if_eq (pc := 43) (off := 11) hC 54 (by decide +kernel) (by decide) (by unfold inI; omega) (fun c43 => ?_) (fun c43 => ?_)
                · skip
                  have htb : tb G s (s + 1 + j) = false := by
                    cases hh : tb G s (s + 1 + j)
                    · rfl
                    · rw [hh] at c43; exact absurd c43 (by decide)
                  have hos : hoS G N s j = hoS G N s (j + 1) := by show _ = (if _ then _ else _); rw [if_neg (by rw [htb]; exact fun q => absurd q.2 (by decide))]
                  refine a_iinc (pc := 54) (i := 4) (c := 1) (x := ((s + 1 + j : Nat) : Int)) (lv' := [(4, vi ((((s + 1 + j : Nat) : Int)) + 1)), (3, vi (bZ (inCir G s N))), (2, vi ((s : Int))), (0, .ref 32), (1, vi ((N : Int)))]) hC (by decide +kernel) 0 rfl (by decide) rfl ?_
                  refine a_goto (pc := 57) (off := -31) hC 26 (by decide +kernel) (by decide) ?_
                  refine a_sub (lv' := [(4, vi (((s + 1 + (j + 1) : Nat) : Int))), (3, vi (bZ (inCir G s N))), (2, vi ((s : Int))), (0, .ref 32), (1, vi ((N : Int)))]) [0, 1, 2, 3, 4] rfl ?_
                  refine g_G (G' := uG G 43 (up (homF G N s) s (hoS G N s (j + 1)))) (by first | (rw [← hos]; done) | (rw [uG_s, uG_uG, up_up, hos])) ?_
                  exact ih26 (j + 1) (by omega) (by omega)
                · skip
                  have htb : tb G s (s + 1 + j) = true := by
                    cases hh : tb G s (s + 1 + j)
                    · rw [hh] at c43; exact absurd rfl c43
                    · rfl
                  have hos : ((s + 1 + j : Nat) : Int) = hoS G N s (j + 1) := by show _ = (if _ then _ else _); rw [if_pos ⟨hic, htb⟩]
                  refine a_aload_n (pc := 46) (q := 0) (i := 0) (x := 32) hC (by decide +kernel) rfl 3 rfl ?_
                  refine g_get (pc := 47) (idx := 29) (ci := 1) (v := .ref 43) hC 32 3 (by decide +kernel) rfl rfl rfl rfl wrL (by decide) rfl (by decide +kernel) ?_
                  refine a_iload_n (pc := 50) (q := 2) (i := 2) (x := (s : Int)) hC (by decide +kernel) rfl 2 rfl ?_
                  refine a_iload (pc := 51) (i := 4) (x := ((s + 1 + j : Nat) : Int)) hC (by decide +kernel) 0 rfl ?_
                  refine g_iast (pc := 53) (a := 43) (j := s) (x := ((s + 1 + j : Nat) : Int)) hC hty (by decide +kernel) rfl (by omega) (by first | decide | omega) ?_
                  refine a_iinc (pc := 54) (i := 4) (c := 1) (x := ((s + 1 + j : Nat) : Int)) (lv' := [(4, vi ((((s + 1 + j : Nat) : Int)) + 1)), (3, vi (bZ (inCir G s N))), (2, vi ((s : Int))), (0, .ref 32), (1, vi ((N : Int)))]) hC (by decide +kernel) 0 rfl (by decide) rfl ?_
                  refine a_goto (pc := 57) (off := -31) hC 26 (by decide +kernel) (by decide) ?_
                  refine a_sub (lv' := [(4, vi (((s + 1 + (j + 1) : Nat) : Int))), (3, vi (bZ (inCir G s N))), (2, vi ((s : Int))), (0, .ref 32), (1, vi ((N : Int)))]) [0, 1, 2, 3, 4] rfl ?_
                  refine g_G (G' := uG G 43 (up (homF G N s) s (hoS G N s (j + 1)))) (by first | (rw [← hos]; done) | (rw [uG_s, uG_uG, up_up, hos])) ?_
                  exact ih26 (j + 1) (by omega) (by omega)
        refine a_sub (lv' := [(4, vi (((s + 1 + 0 : Nat) : Int))), (3, vi (bZ (inCir G s N))), (2, vi ((s : Int))), (0, .ref 32), (1, vi ((N : Int)))]) [0, 1, 2, 3, 4] rfl ?_
        exact L26 _ 0 (Nat.lt_succ_self _) (by omega)
  refine a_sub (lv' := [(2, vi ((0 : Int))), (0, .ref 32), (1, vi ((N : Int)))]) [0, 1, 2] rfl ?_
  refine g_G (G' := uG G 43 (homF G N 0)) (by rw [homF_0, uG_self]) ?_
  exact L2 _ 0 (Nat.lt_succ_self _) (by omega)

set_option maxRecDepth 100000 in
set_option maxHeartbeats 4000000 in
theorem ct_L_writeCircle (l : Launch) (D : va_G) (K : K5) (G : GT) (N s q h : Nat) (hs : s < 5) (hq : q < 15) (hh5 : h < 5) (hh : G 43 s = (h : Int)) (hw : WW G N) : Ct l D K y_L_writeCircle c_L_writeCircle 8 none 0 0 [.ref 32, .ref 1, vi ((s : Int)), vi ((q : Int))] G none (uG G (35 + s) (wcR G N s q h (G (35 + s)))) := by
  refine Ct.intro (by decide +kernel) (Nat.le_of_ble_eq_true rfl) ?_
  intro X hro hty hC hE
  obtain ⟨hn, hN5, hsh, hac, hpa, hwe, hth⟩ := id hw
  have hps := hpa q hq
  refine a_aload_n (pc := 0) (q := 0) (i := 0) (x := 32) hC (by decide +kernel) rfl 0 rfl ?_
  refine g_get (pc := 1) (idx := 12) (ci := 1) (v := .ref 33) hC 32 0 (by decide +kernel) rfl rfl rfl rfl wrL (by decide) rfl (by decide +kernel) ?_
  refine g_getN (pc := 4) (idx := 78) (ci := 0) (v := .ref 34) (host := "PlanValues") hC 33 0 (by decide +kernel) rfl rfl rfl rfl wrE (by decide) rfl (by decide +kernel) ?_
  refine a_iload_n (pc := 7) (q := 2) (i := 2) (x := (s : Int)) hC (by decide +kernel) rfl 2 rfl ?_
  refine g_aaldL (pc := 8) (a := 34) (j := s) hC hty (by decide +kernel) rfl (by omega) (by first | decide | omega) ?_
  refine a_astore (pc := 9) (q := 0) (i := 4) (lv' := [(4, .ref (35 + s)), (0, .ref 32), (1, .ref 1), (2, vi ((s : Int))), (3, vi ((q : Int)))]) hC (by decide +kernel) (by decide) rfl ?_
  refine a_aload_n (pc := 11) (q := 0) (i := 0) (x := 32) hC (by decide +kernel) rfl 1 rfl ?_
  refine g_get (pc := 12) (idx := 29) (ci := 1) (v := .ref 43) hC 32 3 (by decide +kernel) rfl rfl rfl rfl wrL (by decide) rfl (by decide +kernel) ?_
  refine a_iload_n (pc := 15) (q := 2) (i := 2) (x := (s : Int)) hC (by decide +kernel) rfl 3 rfl ?_
  refine g_iald (pc := 16) (a := 43) (j := s) hC hty (by decide +kernel) rfl (by omega) (by first | decide | omega) ?_
  refine g_top (y := (h : Int)) hh ?_
  refine a_istore (pc := 17) (q := 0) (i := 5) (lv' := [(5, vi ((h : Int))), (4, .ref (35 + s)), (0, .ref 32), (1, .ref 1), (2, vi ((s : Int))), (3, vi ((q : Int)))]) hC (by decide +kernel) (by decide) rfl ?_
  refine a_aload_n (pc := 19) (q := 1) (i := 1) (x := 1) hC (by decide +kernel) rfl 3 rfl ?_
  refine g_getN (pc := 20) (idx := 68) (ci := 4) (v := .ref 5) (host := "PlanValues") hC 1 6 (by decide +kernel) rfl rfl rfl rfl wrW (by decide) rfl (by decide +kernel) ?_
  refine a_iload_n (pc := 23) (q := 3) (i := 3) (x := (q : Int)) hC (by decide +kernel) rfl 5 rfl ?_
  refine g_iald (pc := 24) (a := 5) (j := q) hC hty (by decide +kernel) rfl (by omega) (by first | decide | omega) ?_
  refine a_istore (pc := 25) (q := 0) (i := 6) (lv' := [(6, vi (G 5 q)), (5, vi ((h : Int))), (4, .ref (35 + s)), (0, .ref 32), (1, .ref 1), (2, vi ((s : Int))), (3, vi ((q : Int)))]) hC (by decide +kernel) (by decide) rfl ?_
  refine a_iconst (pc := 27) (c := 0) hC (by decide +kernel) ?_
  refine a_istore (pc := 28) (q := 0) (i := 7) (lv' := [(7, vi 0), (6, vi (G 5 q)), (5, vi ((h : Int))), (4, .ref (35 + s)), (0, .ref 32), (1, .ref 1), (2, vi ((s : Int))), (3, vi ((q : Int)))]) hC (by decide +kernel) (by decide) rfl ?_
  have L30 : ∀ (fuel : Nat) (t : Nat), N - t < fuel → t ≤ N → AW X 8 0 0 30 [(7, vi ((t : Int))), (6, vi (G 5 q)), (5, vi ((h : Int))), (4, .ref (35 + s)), (0, .ref 32), (1, .ref 1), (2, vi ((s : Int))), (3, vi ((q : Int)))] [] (hp K (uG G (35 + s) (wcF G q h t (G (35 + s))))) := by
    intro fuel
    induction fuel with
    | zero => intro t h; exact absurd h (Nat.not_lt_zero _)
    | succ fuel ih30 =>
      intro t hm ht
      refine a_iload (pc := 30) (i := 7) (x := (t : Int)) hC (by decide +kernel) 0 rfl ?_
      refine a_aload_n (pc := 32) (q := 1) (i := 1) (x := 1) hC (by decide +kernel) rfl 5 rfl ?_
      refine g_getN (pc := 33) (idx := 36) (ci := 4) (v := vi ((uG G (35 + s) (wcF G q h t (G (35 + s)))) 1 0)) (host := "PlanValues") hC 1 0 (by decide +kernel) rfl rfl rfl rfl wrW (by decide) rfl (by decide +kernel) ?_
      refine g_top (y := (N : Int)) (by rw [uG_n _ _ (by omega)]; exact hn) ?_
      refine a_icmp_ge (pc := 36) (off := 34) hC 70 (by decide +kernel) (by decide) (by unfold inI; omega) (by unfold inI; omega) (fun c36 => ?_) (fun c36 => ?_)
      · skip
        refine a_aload (pc := 70) (i := 4) (x := 35 + s) hC (by decide +kernel) 3 rfl ?_
        refine a_iload (pc := 72) (i := 5) (x := (h : Int)) hC (by decide +kernel) 2 rfl ?_
        refine a_dup2 (pc := 74) hC (by decide +kernel) rfl rfl ?_
        refine g_lald (pc := 75) (a := 35 + s) (j := h) hC hty (by decide +kernel) (sh_e2 (by omega : s < 5)) (by omega) (by first | decide | omega) ?_
        refine g_topl (y := wcF G q h N (G (35 + s)) h) (by rw [uG_s, show t = N by omega]) ?_
        refine a_iload (pc := 76) (i := 6) (x := G 5 q) hC (by decide +kernel) 1 rfl ?_
        refine a_i2l (pc := 78) hC (by decide +kernel) (by unfold inI; omega) ?_
        refine a_ladd (pc := 79) hC (by decide +kernel) ?_
        refine g_last (pc := 80) (a := 35 + s) (j := h) (x := (wcF G q h N (G (35 + s)) h) + (G 5 q)) hC hty (by decide +kernel) (sh_e2 (by omega : s < 5)) (by omega) (by first | decide | omega) ?_
        refine g_G (G' := uG G (35 + s) (wcH G N q h (G (35 + s)))) (by rw [uG_s, uG_uG, show t = N by omega]; rfl) ?_
        refine a_iload_n (pc := 81) (q := 2) (i := 2) (x := (s : Int)) hC (by decide +kernel) rfl 6 rfl ?_
        refine a_iload (pc := 82) (i := 5) (x := (h : Int)) hC (by decide +kernel) 2 rfl ?_
        refine a_icmp_eq (pc := 84) (off := 13) hC 97 (by decide +kernel) (by decide) (by unfold inI; omega) (by unfold inI; omega) (fun c84 => ?_) (fun c84 => ?_)
        · skip
          have hsh2 : s = h := by omega
          refine a_aload (pc := 97) (i := 4) (x := 35 + s) hC (by decide +kernel) 3 rfl ?_
          refine a_iconst (pc := 99) (c := 5) hC (by decide +kernel) ?_
          refine a_iload (pc := 100) (i := 6) (x := G 5 q) hC (by decide +kernel) 1 rfl ?_
          refine a_i2l (pc := 102) hC (by decide +kernel) (by unfold inI; omega) ?_
          refine a_aload_n (pc := 103) (q := 1) (i := 1) (x := 1) hC (by decide +kernel) rfl 5 rfl ?_
          refine g_getN (pc := 104) (idx := 82) (ci := 4) (v := .ref 4) (host := "PlanValues") hC 1 5 (by decide +kernel) rfl rfl rfl rfl wrW (by decide) rfl (by decide +kernel) ?_
          refine a_iload_n (pc := 107) (q := 3) (i := 3) (x := (q : Int)) hC (by decide +kernel) rfl 7 rfl ?_
          refine g_iald (pc := 108) (a := 4) (j := q) hC hty (by decide +kernel) rfl (by omega) (by first | decide | omega) ?_
          refine g_top (y := G 4 q) (by rw [uG_n _ _ (by omega)]) ?_
          refine a_i2l (pc := 109) hC (by decide +kernel) (by unfold inI; omega) ?_
          refine a_lmul (pc := 110) hC (by decide +kernel) ?_
          refine g_snd (y := ((5 : Nat) : Int)) (by omega) ?_
          refine g_last (pc := 111) (a := 35 + s) (j := 5) (x := (G 5 q) * (G 4 q)) hC hty (by decide +kernel) (sh_e2 (by omega : s < 5)) (by omega) (by first | decide | omega) ?_
          exact g_vret (pc := 112) hC hE (by decide +kernel) (by rw [uG_s, uG_uG]; unfold wcR; first | rw [if_pos hsh2] | rw [if_neg hsh2])
        · skip
          have hsh2 : s ≠ h := by omega
          refine a_aload (pc := 87) (i := 4) (x := 35 + s) hC (by decide +kernel) 3 rfl ?_
          refine a_iload_n (pc := 89) (q := 2) (i := 2) (x := (s : Int)) hC (by decide +kernel) rfl 6 rfl ?_
          refine a_dup2 (pc := 90) hC (by decide +kernel) rfl rfl ?_
          refine g_lald (pc := 91) (a := 35 + s) (j := s) hC hty (by decide +kernel) (sh_e2 (by omega : s < 5)) (by omega) (by first | decide | omega) ?_
          refine g_topl (y := wcH G N q h (G (35 + s)) s) (by rw [uG_s]) ?_
          refine a_iload (pc := 92) (i := 6) (x := G 5 q) hC (by decide +kernel) 1 rfl ?_
          refine a_i2l (pc := 94) hC (by decide +kernel) (by unfold inI; omega) ?_
          refine a_ladd (pc := 95) hC (by decide +kernel) ?_
          refine g_last (pc := 96) (a := 35 + s) (j := s) (x := (wcH G N q h (G (35 + s)) s) + (G 5 q)) hC hty (by decide +kernel) (sh_e2 (by omega : s < 5)) (by omega) (by first | decide | omega) ?_
          refine g_G (G' := uG G (35 + s) (up (wcH G N q h (G (35 + s))) s (wcH G N q h (G (35 + s)) s + G 5 q))) (by rw [uG_s, uG_uG]) ?_
          refine a_aload (pc := 97) (i := 4) (x := 35 + s) hC (by decide +kernel) 3 rfl ?_
          refine a_iconst (pc := 99) (c := 5) hC (by decide +kernel) ?_
          refine a_iload (pc := 100) (i := 6) (x := G 5 q) hC (by decide +kernel) 1 rfl ?_
          refine a_i2l (pc := 102) hC (by decide +kernel) (by unfold inI; omega) ?_
          refine a_aload_n (pc := 103) (q := 1) (i := 1) (x := 1) hC (by decide +kernel) rfl 5 rfl ?_
          refine g_getN (pc := 104) (idx := 82) (ci := 4) (v := .ref 4) (host := "PlanValues") hC 1 5 (by decide +kernel) rfl rfl rfl rfl wrW (by decide) rfl (by decide +kernel) ?_
          refine a_iload_n (pc := 107) (q := 3) (i := 3) (x := (q : Int)) hC (by decide +kernel) rfl 7 rfl ?_
          refine g_iald (pc := 108) (a := 4) (j := q) hC hty (by decide +kernel) rfl (by omega) (by first | decide | omega) ?_
          refine g_top (y := G 4 q) (by rw [uG_n _ _ (by omega)]) ?_
          refine a_i2l (pc := 109) hC (by decide +kernel) (by unfold inI; omega) ?_
          refine a_lmul (pc := 110) hC (by decide +kernel) ?_
          refine g_snd (y := ((5 : Nat) : Int)) (by omega) ?_
          refine g_last (pc := 111) (a := 35 + s) (j := 5) (x := (G 5 q) * (G 4 q)) hC hty (by decide +kernel) (sh_e2 (by omega : s < 5)) (by omega) (by first | decide | omega) ?_
          exact g_vret (pc := 112) hC hE (by decide +kernel) (by rw [uG_s, uG_uG]; unfold wcR; first | rw [if_pos hsh2] | rw [if_neg hsh2])
      · skip
        refine a_iload (pc := 39) (i := 7) (x := (t : Int)) hC (by decide +kernel) 0 rfl ?_
        refine a_iload (pc := 41) (i := 5) (x := (h : Int)) hC (by decide +kernel) 2 rfl ?_
        refine a_icmp_eq (pc := 43) (off := 21) hC 64 (by decide +kernel) (by decide) (by unfold inI; omega) (by unfold inI; omega) (fun c43 => ?_) (fun c43 => ?_)
        · skip
          have hth2 : t = h := by omega
          refine a_iinc (pc := 64) (i := 7) (c := 1) (x := (t : Int)) (lv' := [(7, vi (((t : Int)) + 1)), (6, vi (G 5 q)), (5, vi ((h : Int))), (4, .ref (35 + s)), (0, .ref 32), (1, .ref 1), (2, vi ((s : Int))), (3, vi ((q : Int)))]) hC (by decide +kernel) 0 rfl (by decide) rfl ?_
          refine a_goto (pc := 67) (off := -37) hC 30 (by decide +kernel) (by decide) ?_
          refine a_sub (lv' := [(7, vi (((t + 1) : Int))), (6, vi (G 5 q)), (5, vi ((h : Int))), (4, .ref (35 + s)), (0, .ref 32), (1, .ref 1), (2, vi ((s : Int))), (3, vi ((q : Int)))]) [0, 1, 2, 3, 4, 5, 6, 7] rfl ?_
          refine g_G (G' := uG G (35 + s) (wcF G q h (t + 1) (G (35 + s)))) (by first | (rw [wcF_k hth2]; done) | (rw [uG_s, uG_uG, wcF_s hth2])) ?_
          exact ih30 (t + 1) (by omega) (by omega)
        · skip
          have hth2 : t ≠ h := by omega
          have hwt := hwe q t hq (by omega)
          refine a_aload (pc := 46) (i := 4) (x := 35 + s) hC (by decide +kernel) 3 rfl ?_
          refine a_iload (pc := 48) (i := 7) (x := (t : Int)) hC (by decide +kernel) 0 rfl ?_
          refine a_dup2 (pc := 50) hC (by decide +kernel) rfl rfl ?_
          refine g_lald (pc := 51) (a := 35 + s) (j := t) hC hty (by decide +kernel) (sh_e2 (by omega : s < 5)) (by omega) (by first | decide | omega) ?_
          refine g_topl (y := G (35 + s) t) (by rw [uG_s]; exact wcF_hi (Nat.le_refl _)) ?_
          refine a_aload_n (pc := 52) (q := 1) (i := 1) (x := 1) hC (by decide +kernel) rfl 5 rfl ?_
          refine g_getN (pc := 53) (idx := 71) (ci := 4) (v := .ref 6) (host := "PlanValues") hC 1 7 (by decide +kernel) rfl rfl rfl rfl wrW (by decide) rfl (by decide +kernel) ?_
          refine a_iload_n (pc := 56) (q := 3) (i := 3) (x := (q : Int)) hC (by decide +kernel) rfl 7 rfl ?_
          refine g_aaldI (pc := 57) (a := 6) (j := q) hC hty (by decide +kernel) rfl (by omega) (by first | decide | omega) ?_
          refine a_iload (pc := 58) (i := 7) (x := (t : Int)) hC (by decide +kernel) 0 rfl ?_
          refine g_iald (pc := 60) (a := 7 + q) (j := t) hC hty (by decide +kernel) (sh_we (by omega : q < 15)) (by omega) (by first | decide | omega) ?_
          refine g_top (y := G (7 + q) t) (by rw [uG_n _ _ (by omega)]) ?_
          refine a_i2l (pc := 61) hC (by decide +kernel) (by unfold inI; omega) ?_
          refine a_lsub (pc := 62) hC (by decide +kernel) ?_
          refine g_last (pc := 63) (a := 35 + s) (j := t) (x := (G (35 + s) t) - (G (7 + q) t)) hC hty (by decide +kernel) (sh_e2 (by omega : s < 5)) (by omega) (by first | decide | omega) ?_
          refine a_iinc (pc := 64) (i := 7) (c := 1) (x := (t : Int)) (lv' := [(7, vi (((t : Int)) + 1)), (6, vi (G 5 q)), (5, vi ((h : Int))), (4, .ref (35 + s)), (0, .ref 32), (1, .ref 1), (2, vi ((s : Int))), (3, vi ((q : Int)))]) hC (by decide +kernel) 0 rfl (by decide) rfl ?_
          refine a_goto (pc := 67) (off := -37) hC 30 (by decide +kernel) (by decide) ?_
          refine a_sub (lv' := [(7, vi (((t + 1) : Int))), (6, vi (G 5 q)), (5, vi ((h : Int))), (4, .ref (35 + s)), (0, .ref 32), (1, .ref 1), (2, vi ((s : Int))), (3, vi ((q : Int)))]) [0, 1, 2, 3, 4, 5, 6, 7] rfl ?_
          refine g_G (G' := uG G (35 + s) (wcF G q h (t + 1) (G (35 + s)))) (by first | (rw [wcF_k hth2]; done) | (rw [uG_s, uG_uG, wcF_s hth2])) ?_
          exact ih30 (t + 1) (by omega) (by omega)
  refine a_sub (lv' := [(7, vi ((0 : Int))), (6, vi (G 5 q)), (5, vi ((h : Int))), (4, .ref (35 + s)), (0, .ref 32), (1, .ref 1), (2, vi ((s : Int))), (3, vi ((q : Int)))]) [0, 1, 2, 3, 4, 5, 6, 7] rfl ?_
  refine g_G (G' := uG G (35 + s) (wcF G q h 0 (G (35 + s)))) (by rw [wcF_0, uG_self]) ?_
  exact L30 _ 0 (Nat.lt_succ_self _) (by omega)

set_option maxRecDepth 100000 in
set_option maxHeartbeats 4000000 in
theorem ct_L_writePassage (l : Launch) (D : va_G) (K : K5) (G : GT) (N s q : Nat) (hs : s < 5) (hq : q < 15) (hho : ∀ t, t < N → 0 ≤ G 43 t ∧ G 43 t < 5) (hw : WW G N) : Ct l D K y_L_writePassage c_L_writePassage 6 none 1 21 [.ref 32, .ref 1, vi ((s : Int)), vi ((q : Int))] G none (uG G (35 + s) (wpR G N s q (G (35 + s)))) := by
  refine Ct.intro (by decide +kernel) (Nat.le_of_ble_eq_true rfl) ?_
  intro X hro hty hC hE
  obtain ⟨hn, hN5, hsh, hac, hpa, hwe, hth⟩ := id hw
  have hps := hpa q hq
  refine a_aload_n (pc := 0) (q := 0) (i := 0) (x := 32) hC (by decide +kernel) rfl 0 rfl ?_
  refine g_get (pc := 1) (idx := 12) (ci := 1) (v := .ref 33) hC 32 0 (by decide +kernel) rfl rfl rfl rfl wrL (by decide) rfl (by decide +kernel) ?_
  refine g_getN (pc := 4) (idx := 78) (ci := 0) (v := .ref 34) (host := "PlanValues") hC 33 0 (by decide +kernel) rfl rfl rfl rfl wrE (by decide) rfl (by decide +kernel) ?_
  refine a_iload_n (pc := 7) (q := 2) (i := 2) (x := (s : Int)) hC (by decide +kernel) rfl 2 rfl ?_
  refine g_aaldL (pc := 8) (a := 34) (j := s) hC hty (by decide +kernel) rfl (by omega) (by first | decide | omega) ?_
  refine a_astore (pc := 9) (q := 0) (i := 4) (lv' := [(4, .ref (35 + s)), (0, .ref 32), (1, .ref 1), (2, vi ((s : Int))), (3, vi ((q : Int)))]) hC (by decide +kernel) (by decide) rfl ?_
  refine a_iconst (pc := 11) (c := 0) hC (by decide +kernel) ?_
  refine a_istore (pc := 12) (q := 0) (i := 5) (lv' := [(5, vi 0), (4, .ref (35 + s)), (0, .ref 32), (1, .ref 1), (2, vi ((s : Int))), (3, vi ((q : Int)))]) hC (by decide +kernel) (by decide) rfl ?_
  have L14 : ∀ (fuel : Nat) (t : Nat), N - t < fuel → t ≤ N → AW X 6 0 0 14 [(5, vi ((t : Int))), (4, .ref (35 + s)), (0, .ref 32), (1, .ref 1), (2, vi ((s : Int))), (3, vi ((q : Int)))] [] (hp K (uG G (35 + s) (wpS G q (G (35 + s)) t))) := by
    intro fuel
    induction fuel with
    | zero => intro t h; exact absurd h (Nat.not_lt_zero _)
    | succ fuel ih14 =>
      intro t hm ht
      refine a_iload (pc := 14) (i := 5) (x := (t : Int)) hC (by decide +kernel) 0 rfl ?_
      refine a_aload_n (pc := 16) (q := 1) (i := 1) (x := 1) hC (by decide +kernel) rfl 3 rfl ?_
      refine g_getN (pc := 17) (idx := 36) (ci := 4) (v := vi ((uG G (35 + s) (wpS G q (G (35 + s)) t)) 1 0)) (host := "PlanValues") hC 1 0 (by decide +kernel) rfl rfl rfl rfl wrW (by decide) rfl (by decide +kernel) ?_
      refine g_top (y := (N : Int)) (by rw [uG_n _ _ (by omega)]; exact hn) ?_
      refine a_icmp_ge (pc := 20) (off := 32) hC 52 (by decide +kernel) (by decide) (by unfold inI; omega) (by unfold inI; omega) (fun c20 => ?_) (fun c20 => ?_)
      · skip
        refine a_aload (pc := 52) (i := 4) (x := 35 + s) hC (by decide +kernel) 1 rfl ?_
        refine a_iload_n (pc := 54) (q := 2) (i := 2) (x := (s : Int)) hC (by decide +kernel) rfl 4 rfl ?_
        refine a_dup2 (pc := 55) hC (by decide +kernel) rfl rfl ?_
        refine g_lald (pc := 56) (a := 35 + s) (j := s) hC hty (by decide +kernel) (sh_e2 (by omega : s < 5)) (by omega) (by first | decide | omega) ?_
        refine g_topl (y := wpS G q (G (35 + s)) N s) (by rw [uG_s, show t = N by omega]) ?_
        refine a_iconst (pc := 57) (c := 1) hC (by decide +kernel) ?_
        refine a_aload_n (pc := 58) (q := 1) (i := 1) (x := 1) hC (by decide +kernel) rfl 3 rfl ?_
        refine g_getN (pc := 59) (idx := 68) (ci := 4) (v := .ref 5) (host := "PlanValues") hC 1 6 (by decide +kernel) rfl rfl rfl rfl wrW (by decide) rfl (by decide +kernel) ?_
        refine a_iload_n (pc := 62) (q := 3) (i := 3) (x := (q : Int)) hC (by decide +kernel) rfl 5 rfl ?_
        refine g_iald (pc := 63) (a := 5) (j := q) hC hty (by decide +kernel) rfl (by omega) (by first | decide | omega) ?_
        refine g_top (y := G 5 q) (by rw [uG_n _ _ (by omega)]) ?_
        refine g_callS (pc := 64) (idx := 85) (av := [vi 1, vi (G 5 q)]) (rest := [vl (wpS G q (G (35 + s)) N s), vi ((s : Int)), .ref (35 + s)]) (g := uG G (35 + s) (wpS G q (G (35 + s)) t)) (v := vi (maxZ 1 (G 5 q))) hC hro hty (by decide +kernel) k_JM_max_II (by decide +kernel) (by decide +kernel) (ct_JM_max_II X.la X.dd K (uG G (35 + s) (wpS G q (G (35 + s)) t)) 1 (G 5 q) (by unfold inI; omega) (by unfold inI; omega)) rfl rfl (by decide) (by first | decide | simp [Value.category]) ?_
        refine a_i2l (pc := 67) hC (by decide +kernel) (by unfold inI maxZ; split <;> omega) ?_
        refine a_ladd (pc := 68) hC (by decide +kernel) ?_
        refine g_last (pc := 69) (a := 35 + s) (j := s) (x := (wpS G q (G (35 + s)) N s) + (maxZ 1 (G 5 q))) hC hty (by decide +kernel) (sh_e2 (by omega : s < 5)) (by omega) (by first | decide | omega) ?_
        exact g_vret (pc := 70) hC hE (by decide +kernel) (by rw [uG_s, uG_uG, show t = N by omega]; rfl)
      · skip
        have hwt := hwe q t hq (by omega)
        obtain ⟨h, hh, hh5⟩ : ∃ h : Nat, G 43 t = (h : Int) ∧ h < 5 := ⟨(G 43 t).toNat, by have := hho t (by omega); omega, by have := hho t (by omega); omega⟩
        have hhn : (G 43 t).toNat = h := by omega
        refine a_aload (pc := 23) (i := 4) (x := 35 + s) hC (by decide +kernel) 1 rfl ?_
        refine a_aload_n (pc := 25) (q := 0) (i := 0) (x := 32) hC (by decide +kernel) rfl 2 rfl ?_
        refine g_get (pc := 26) (idx := 29) (ci := 1) (v := .ref 43) hC 32 3 (by decide +kernel) rfl rfl rfl rfl wrL (by decide) rfl (by decide +kernel) ?_
        refine a_iload (pc := 29) (i := 5) (x := (t : Int)) hC (by decide +kernel) 0 rfl ?_
        refine g_iald (pc := 31) (a := 43) (j := t) hC hty (by decide +kernel) rfl (by omega) (by first | decide | omega) ?_
        refine g_top (y := (h : Int)) (by rw [uG_n _ _ (by omega)]; exact hh) ?_
        refine a_dup2 (pc := 32) hC (by decide +kernel) rfl rfl ?_
        refine g_lald (pc := 33) (a := 35 + s) (j := h) hC hty (by decide +kernel) (sh_e2 (by omega : s < 5)) (by omega) (by first | decide | omega) ?_
        refine g_topl (y := wpS G q (G (35 + s)) t h) (by rw [uG_s]) ?_
        refine a_aload_n (pc := 34) (q := 1) (i := 1) (x := 1) hC (by decide +kernel) rfl 3 rfl ?_
        refine g_getN (pc := 35) (idx := 71) (ci := 4) (v := .ref 6) (host := "PlanValues") hC 1 7 (by decide +kernel) rfl rfl rfl rfl wrW (by decide) rfl (by decide +kernel) ?_
        refine a_iload_n (pc := 38) (q := 3) (i := 3) (x := (q : Int)) hC (by decide +kernel) rfl 5 rfl ?_
        refine g_aaldI (pc := 39) (a := 6) (j := q) hC hty (by decide +kernel) rfl (by omega) (by first | decide | omega) ?_
        refine a_iload (pc := 40) (i := 5) (x := (t : Int)) hC (by decide +kernel) 0 rfl ?_
        refine g_iald (pc := 42) (a := 7 + q) (j := t) hC hty (by decide +kernel) (sh_we (by omega : q < 15)) (by omega) (by first | decide | omega) ?_
        refine g_top (y := G (7 + q) t) (by rw [uG_n _ _ (by omega)]) ?_
        refine a_i2l (pc := 43) hC (by decide +kernel) (by unfold inI; omega) ?_
        refine a_lsub (pc := 44) hC (by decide +kernel) ?_
        refine g_last (pc := 45) (a := 35 + s) (j := h) (x := (wpS G q (G (35 + s)) t h) - (G (7 + q) t)) hC hty (by decide +kernel) (sh_e2 (by omega : s < 5)) (by omega) (by first | decide | omega) ?_
        refine a_iinc (pc := 46) (i := 5) (c := 1) (x := (t : Int)) (lv' := [(5, vi (((t : Int)) + 1)), (4, .ref (35 + s)), (0, .ref 32), (1, .ref 1), (2, vi ((s : Int))), (3, vi ((q : Int)))]) hC (by decide +kernel) 0 rfl (by decide) rfl ?_
        refine a_goto (pc := 49) (off := -35) hC 14 (by decide +kernel) (by decide) ?_
        refine a_sub (lv' := [(5, vi (((t + 1) : Int))), (4, .ref (35 + s)), (0, .ref 32), (1, .ref 1), (2, vi ((s : Int))), (3, vi ((q : Int)))]) [0, 1, 2, 3, 4, 5] rfl ?_
        refine g_G (G' := uG G (35 + s) (wpS G q (G (35 + s)) (t + 1))) (by rw [uG_s, uG_uG, wpS_s, hhn]) ?_
        exact ih14 (t + 1) (by omega) (by omega)
  refine a_sub (lv' := [(5, vi ((0 : Int))), (4, .ref (35 + s)), (0, .ref 32), (1, .ref 1), (2, vi ((s : Int))), (3, vi ((q : Int)))]) [0, 1, 2, 3, 4, 5] rfl ?_
  refine g_G (G' := uG G (35 + s) (wpS G q (G (35 + s)) 0)) (by show G = uG G (35 + s) (G (35 + s)); rw [uG_self]) ?_
  exact L14 _ 0 (Nat.lt_succ_self _) (by omega)

/-- the state behind findReach and findHomes -/
def lrH (G : GT) (pl N : Nat) : GT := homG (reaG G pl N) N
def rowL (G : GT) (pl N s : Nat) (old : Nat → Int) : Nat → Int := if inCir G s N = true then wcR G N s (slotN G pl s) (G 43 s).toNat old else wpR G N s (slotN G pl s) old
def lrG (G : GT) (pl N i : Nat) : GT := fun b => if 35 ≤ b ∧ b < 35 + i then rowL G pl N (b - 35) (clrG G 35 5 6 b) else clrG G 35 5 6 b
def lrR (G : GT) (pl N : Nat) : GT := solG (lrG (lrH G pl N) pl N N) 33 40 N
theorem lrG_0 (G : GT) (pl N : Nat) : lrG G pl N 0 = clrG G 35 5 6 := by funext b; exact if_neg (by omega)
theorem lrG_off {G : GT} {pl N i b : Nat} (hi : i ≤ 5) (h : b < 35 ∨ 40 ≤ b) : lrG G pl N i b = G b := by
  unfold lrG; rw [if_neg (by omega), clr_off (by omega)]
theorem lrG_at (G : GT) (pl N i : Nat) : lrG G pl N i (35 + i) = clrG G 35 5 6 (35 + i) := if_neg (by omega)
theorem lrG_s {G : GT} {pl N s : Nat} : uG (lrG G pl N s) (35 + s) (rowL G pl N s (clrG G 35 5 6 (35 + s))) = lrG G pl N (s + 1) := by
  funext b
  by_cases hb : b = 35 + s
  · subst hb
    rw [uG_s]; unfold lrG
    rw [if_pos (by omega), show 35 + s - 35 = s by omega]
  · rw [uG_n _ _ hb]; unfold lrG
    by_cases h2 : 35 ≤ b ∧ b < 35 + s
    · rw [if_pos h2, if_pos (by omega)]
    · rw [if_neg h2, if_neg (by omega)]
theorem lrH_off {G : GT} {pl N b : Nat} (h : b ≠ 42) (h2 : b ≠ 43) : lrH G pl N b = G b := by
  unfold lrH homG reaG; rw [uG_n _ _ h2, uG_n _ _ h]
theorem wcF_congr {G G' : GT} {q h : Nat} (e : ∀ b, b ≤ 21 → G' b = G b) (hq : q < 15) (t : Nat) (r : Nat → Int) : wcF G' q h t r = wcF G q h t r := by
  unfold wcF; rw [e (7 + q) (by omega)]
theorem wcR_congr {G G' : GT} {N s q h : Nat} (e : ∀ b, b ≤ 21 → G' b = G b) (hq : q < 15) (r : Nat → Int) : wcR G' N s q h r = wcR G N s q h r := by
  unfold wcR wcH; rw [wcF_congr e hq, e 5 (by omega), e 4 (by omega)]
theorem wpS_congr {G G' : GT} {q : Nat} (e : ∀ b, b ≤ 21 → G' b = G b) (e2 : G' 43 = G 43) (hq : q < 15) (r : Nat → Int) : ∀ t, wpS G' q r t = wpS G q r t
  | 0 => rfl
  | t + 1 => by rw [wpS_s, wpS_s, wpS_congr e e2 hq r t, e2, e (7 + q) (by omega)]
theorem wpR_congr {G G' : GT} {N s q : Nat} (e : ∀ b, b ≤ 21 → G' b = G b) (e2 : G' 43 = G 43) (hq : q < 15) (r : Nat → Int) : wpR G' N s q r = wpR G N s q r := by
  unfold wpR; rw [wpS_congr e e2 hq, e 5 (by omega)]

set_option maxRecDepth 100000 in
set_option maxHeartbeats 4000000 in
theorem ct_L_follow (l : Launch) (D : va_G) (K : K5) (G : GT) (pl N : Nat) (hw : WW G N) (hpl : PlOk G pl N) (hok : SolOk (lrG (lrH G pl N) pl N N) 33 N) : Ct l D K y_L_follow c_L_follow 5 none 3 69 [.ref 32, .ref 1, .ref pl] G none (lrR G pl N) := by
  refine Ct.intro (by decide +kernel) (Nat.le_of_ble_eq_true rfl) ?_
  intro X hro hty hC hE
  obtain ⟨hn, hN5, hsh, hac, hpa, hwe, hth⟩ := id hw
  have hplr := hpl.1
  have hwH : WW (lrH G pl N) N := hw.keep (fun a ha => lrH_off (by omega) (by omega))
  have hrcA : RcOk (reaG G pl N) N := fun z hz => by unfold reaG; rw [uG_s]; exact wB_in (rc1F_in hN5) N (Nat.le_refl _) z hz
  have hrcH : RcOk (lrH G pl N) N := fun z hz => by unfold lrH homG; rw [uG_n _ _ (by decide)]; exact hrcA z hz
  have hho : ∀ t, t < N → 0 ≤ (lrH G pl N) 43 t ∧ (lrH G pl N) 43 t < 5 := fun t ht => by
    unfold lrH homG; rw [uG_s]; unfold homF; rw [if_pos ht]; have := homZ_in (G := reaG G pl N) ht; omega
  refine a_aload_n (pc := 0) (q := 0) (i := 0) (x := 32) hC (by decide +kernel) rfl 0 rfl ?_
  refine a_aload_n (pc := 1) (q := 1) (i := 1) (x := 1) hC (by decide +kernel) rfl 1 rfl ?_
  refine a_aload_n (pc := 2) (q := 2) (i := 2) (x := pl) hC (by decide +kernel) rfl 2 rfl ?_
  refine g_callV0 (pc := 3) (idx := 32) (i := 32) (av := [.ref 1, .ref pl]) (rest := []) (g := reaG G pl N) hC hro hty (by decide +kernel) rfl rfl k_L_findReach (by decide +kernel) (by decide +kernel) (by decide +kernel) (ct_L_findReach X.la X.dd K G pl N hw hpl) rfl rfl (by decide) (by first | decide | simp [Value.category]) ?_
  refine a_aload_n (pc := 6) (q := 0) (i := 0) (x := 32) hC (by decide +kernel) rfl 0 rfl ?_
  refine a_aload_n (pc := 7) (q := 1) (i := 1) (x := 1) hC (by decide +kernel) rfl 1 rfl ?_
  refine g_getN (pc := 8) (idx := 36) (ci := 4) (v := vi ((reaG G pl N) 1 0)) (host := "PlanValues") hC 1 0 (by decide +kernel) rfl rfl rfl rfl wrW (by decide) rfl (by decide +kernel) ?_
  refine g_top (y := (N : Int)) (by unfold reaG; rw [uG_n _ _ (by omega)]; exact hn) ?_
  refine g_callV0 (pc := 11) (idx := 42) (i := 32) (av := [vi ((N : Int))]) (rest := []) (g := homG (reaG G pl N) N) hC hro hty (by decide +kernel) rfl rfl k_L_findHomes (by decide +kernel) (by decide +kernel) (by decide +kernel) (ct_L_findHomes X.la X.dd K (reaG G pl N) N (by omega) hrcA) rfl rfl (by decide) (by first | decide | simp [Value.category]) ?_
  refine g_G (G' := (lrH G pl N)) rfl ?_
  refine a_aload_n (pc := 14) (q := 0) (i := 0) (x := 32) hC (by decide +kernel) rfl 0 rfl ?_
  refine g_get (pc := 15) (idx := 12) (ci := 1) (v := .ref 33) hC 32 0 (by decide +kernel) rfl rfl rfl rfl wrL (by decide) rfl (by decide +kernel) ?_
  refine g_callVN0 (pc := 18) (idx := 46) (i := 33) (av := []) (rest := []) (g := clrG ((lrH G pl N)) 35 5 6) (host := "PlanValues") hC hro hty (by decide +kernel) rfl rfl k_E_begin (by decide +kernel) (by decide +kernel) (by decide +kernel) (ct_E_begin X.la X.dd K ((lrH G pl N)) 33 she33) rfl rfl (by decide) (by first | decide | simp [Value.category]) ?_
  refine a_iconst (pc := 21) (c := 0) hC (by decide +kernel) ?_
  refine a_istore_n (pc := 22) (q := 3) (i := 3) (lv' := [(3, vi 0), (0, .ref 32), (1, .ref 1), (2, .ref pl)]) hC (by decide +kernel) rfl (by decide) rfl ?_
  have L23 : ∀ (fuel : Nat) (s : Nat), N - s < fuel → s ≤ N → AW X 5 0 0 23 [(3, vi ((s : Int))), (0, .ref 32), (1, .ref 1), (2, .ref pl)] [] (hp K (lrG (lrH G pl N) pl N s)) := by
    intro fuel
    induction fuel with
    | zero => intro s h; exact absurd h (Nat.not_lt_zero _)
    | succ fuel ih23 =>
      intro s hm hs
      refine a_iload_n (pc := 23) (q := 3) (i := 3) (x := (s : Int)) hC (by decide +kernel) rfl 0 rfl ?_
      refine a_aload_n (pc := 24) (q := 1) (i := 1) (x := 1) hC (by decide +kernel) rfl 2 rfl ?_
      refine g_getN (pc := 25) (idx := 36) (ci := 4) (v := vi ((lrG (lrH G pl N) pl N s) 1 0)) (host := "PlanValues") hC 1 0 (by decide +kernel) rfl rfl rfl rfl wrW (by decide) rfl (by decide +kernel) ?_
      refine g_top (y := (N : Int)) (by rw [lrG_off (by omega) (by omega), lrH_off (by omega) (by omega)]; exact hn) ?_
      refine a_icmp_ge (pc := 28) (off := 49) hC 77 (by decide +kernel) (by decide) (by unfold inI; omega) (by unfold inI; omega) (fun c28 => ?_) (fun c28 => ?_)
      · skip
        refine a_aload_n (pc := 77) (q := 0) (i := 0) (x := 32) hC (by decide +kernel) rfl 1 rfl ?_
        refine g_get (pc := 78) (idx := 12) (ci := 1) (v := .ref 33) hC 32 0 (by decide +kernel) rfl rfl rfl rfl wrL (by decide) rfl (by decide +kernel) ?_
        refine a_aload_n (pc := 81) (q := 1) (i := 1) (x := 1) hC (by decide +kernel) rfl 2 rfl ?_
        refine g_getN (pc := 82) (idx := 36) (ci := 4) (v := vi ((lrG (lrH G pl N) pl N s) 1 0)) (host := "PlanValues") hC 1 0 (by decide +kernel) rfl rfl rfl rfl wrW (by decide) rfl (by decide +kernel) ?_
        refine g_top (y := (N : Int)) (by rw [lrG_off (by omega) (by omega), lrH_off (by omega) (by omega)]; exact hn) ?_
        refine a_aload_n (pc := 85) (q := 0) (i := 0) (x := 32) hC (by decide +kernel) rfl 1 rfl ?_
        refine g_get (pc := 86) (idx := 21) (ci := 1) (v := .ref 40) hC 32 1 (by decide +kernel) rfl rfl rfl rfl wrL (by decide) rfl (by decide +kernel) ?_
        rw [show s = N by omega]
        refine g_callVN0 (pc := 89) (idx := 64) (i := 33) (av := [vi ((N : Int)), .ref 40]) (rest := []) (g := solG (lrG (lrH G pl N) pl N N) 33 40 N) (host := "PlanValues") hC hro hty (by decide +kernel) rfl rfl k_E_solve (by decide +kernel) (by decide +kernel) (by decide +kernel) (ct_E_solve X.la X.dd K (lrG (lrH G pl N) pl N N) 33 N 40 she33 shu40 (by omega) (by omega) hok) rfl rfl (by decide) (by first | decide | simp [Value.category]) ?_
        exact g_vret (pc := 92) hC hE (by decide +kernel) rfl
      · skip
        obtain ⟨q, hq, hq3⟩ : ∃ q : Nat, G pl s = (q : Int) ∧ q < 3 := ⟨(G pl s).toNat, by have := hpl.2 s (by omega); omega, by have := hpl.2 s (by omega); omega⟩
        have hsl : slotN (lrH G pl N) pl s = s * 3 + q := by unfold slotN; rw [lrH_off (by omega) (by omega)]; omega
        obtain ⟨h, hh, hh5⟩ : ∃ h : Nat, (lrH G pl N) 43 s = (h : Int) ∧ h < 5 := ⟨((lrH G pl N) 43 s).toNat, by have := hho s (by omega); omega, by have := hho s (by omega); omega⟩
        have hhn : ((lrH G pl N) 43 s).toNat = h := by omega
        refine a_iload_n (pc := 31) (q := 3) (i := 3) (x := (s : Int)) hC (by decide +kernel) rfl 0 rfl ?_
        refine a_aload_n (pc := 32) (q := 2) (i := 2) (x := pl) hC (by decide +kernel) rfl 3 rfl ?_
        refine a_iload_n (pc := 33) (q := 3) (i := 3) (x := (s : Int)) hC (by decide +kernel) rfl 0 rfl ?_
        refine g_iald (pc := 34) (a := pl) (j := s) hC hty (by decide +kernel) hpl.sh (by omega) (by first | decide | omega) ?_
        refine g_top (y := (q : Int)) (by rw [lrG_off (by omega) (by omega), lrH_off (by omega) (by omega)]; exact hq) ?_
        refine g_callSN (pc := 35) (idx := 49) (av := [vi ((s : Int)), vi ((q : Int))]) (rest := []) (g := lrG (lrH G pl N) pl N s) (v := vi (((s : Int)) * 3 + ((q : Int)))) (host := "PlanValues") hC hro hty (by decide +kernel) k_W_slotOf (by decide +kernel) (by decide +kernel) (ct_W_slotOf X.la X.dd K (lrG (lrH G pl N) pl N s) ((s : Int)) ((q : Int))) rfl rfl (by decide) (by first | decide | simp [Value.category]) ?_
        refine g_top (y := ((s * 3 + q : Nat) : Int)) (by omega) ?_
        refine a_istore (pc := 38) (q := 0) (i := 4) (lv' := [(4, vi (((s * 3 + q : Nat) : Int))), (3, vi ((s : Int))), (0, .ref 32), (1, .ref 1), (2, .ref pl)]) hC (by decide +kernel) (by decide) rfl ?_
        refine a_aload_n (pc := 40) (q := 0) (i := 0) (x := 32) hC (by decide +kernel) rfl 2 rfl ?_
        refine a_iload_n (pc := 41) (q := 3) (i := 3) (x := (s : Int)) hC (by decide +kernel) rfl 1 rfl ?_
        refine a_aload_n (pc := 42) (q := 1) (i := 1) (x := 1) hC (by decide +kernel) rfl 3 rfl ?_
        refine g_getN (pc := 43) (idx := 36) (ci := 4) (v := vi ((lrG (lrH G pl N) pl N s) 1 0)) (host := "PlanValues") hC 1 0 (by decide +kernel) rfl rfl rfl rfl wrW (by decide) rfl (by decide +kernel) ?_
        refine g_top (y := (N : Int)) (by rw [lrG_off (by omega) (by omega), lrH_off (by omega) (by omega)]; exact hn) ?_
        refine g_callV (pc := 46) (idx := 53) (i := 32) (av := [vi ((s : Int)), vi ((N : Int))]) (rest := []) (g := lrG (lrH G pl N) pl N s) (v := vi (bZ (inCir (lrG (lrH G pl N) pl N s) s N))) hC hro hty (by decide +kernel) rfl rfl k_L_isInCircle (by decide +kernel) (by decide +kernel) (by decide +kernel) (ct_L_isInCircle X.la X.dd K (lrG (lrH G pl N) pl N s) N s (by omega) (by omega) (fun z hz => by rw [lrG_off (by omega) (by omega)]; exact hrcH z hz)) rfl rfl (by decide) (by first | decide | simp [Value.category]) ?_
        refine g_top (y := bZ (inCir (lrH G pl N) s N)) (by rw [inCir_congr (lrG_off (by omega) (by omega))]) ?_
        refine a_if_eq (pc := 49) (off := 14) hC 63 (by decide +kernel) (by decide) (by unfold inI; have := bZ_01 (inCir (lrH G pl N) s N); omega) (fun c49 => ?_) (fun c49 => ?_)
        · skip
          have hic : ¬ inCir (lrH G pl N) s N = true := by
            intro hh2; rw [hh2] at c49; exact absurd c49 (by decide)
          refine a_aload_n (pc := 63) (q := 0) (i := 0) (x := 32) hC (by decide +kernel) rfl 2 rfl ?_
          refine a_aload_n (pc := 64) (q := 1) (i := 1) (x := 1) hC (by decide +kernel) rfl 3 rfl ?_
          refine a_iload_n (pc := 65) (q := 3) (i := 3) (x := (s : Int)) hC (by decide +kernel) rfl 1 rfl ?_
          refine a_iload (pc := 66) (i := 4) (x := ((s * 3 + q : Nat) : Int)) hC (by decide +kernel) 0 rfl ?_
          have hcg : ∀ c, c ≤ 21 → lrG (lrH G pl N) pl N s c = (lrH G pl N) c := fun c hc => lrG_off (by omega) (by omega)
          refine g_callV0 (pc := 68) (idx := 61) (i := 32) (av := [.ref 1, vi ((s : Int)), vi (((s * 3 + q : Nat) : Int))]) (rest := []) (g := uG (lrG (lrH G pl N) pl N s) (35 + s) (wpR (lrG (lrH G pl N) pl N s) N s (s * 3 + q) ((lrG (lrH G pl N) pl N s) (35 + s)))) hC hro hty (by decide +kernel) rfl rfl k_L_writePassage (by decide +kernel) (by decide +kernel) (by decide +kernel) (ct_L_writePassage X.la X.dd K (lrG (lrH G pl N) pl N s) N s (s * 3 + q) (by omega) (by omega) (fun t ht => by rw [lrG_off (by omega) (by omega)]; exact hho t ht) (hwH.keep hcg)) rfl rfl (by decide) (by first | decide | simp [Value.category]) ?_
          refine a_iinc (pc := 71) (i := 3) (c := 1) (x := (s : Int)) (lv' := [(3, vi (((s : Int)) + 1)), (4, vi (((s * 3 + q : Nat) : Int))), (0, .ref 32), (1, .ref 1), (2, .ref pl)]) hC (by decide +kernel) 1 rfl (by decide) rfl ?_
          refine a_goto (pc := 74) (off := -51) hC 23 (by decide +kernel) (by decide) ?_
          refine a_sub (lv' := [(3, vi (((s + 1) : Int))), (0, .ref 32), (1, .ref 1), (2, .ref pl)]) [0, 2, 3, 4] rfl ?_
          refine g_G (G' := lrG (lrH G pl N) pl N (s + 1)) (by rw [lrG_at]; first | (rw [wcR_congr hcg (by omega), ← lrG_s]; unfold rowL; rw [if_pos hic, hsl, hhn]) | (rw [wpR_congr hcg (lrG_off (by omega) (by omega)) (by omega), ← lrG_s]; unfold rowL; rw [if_neg hic, hsl])) ?_
          exact ih23 (s + 1) (by omega) (by omega)
        · skip
          have hic : inCir (lrH G pl N) s N = true := by
            cases hh2 : inCir (lrH G pl N) s N
            · rw [hh2] at c49; exact absurd rfl c49
            · rfl
          refine a_aload_n (pc := 52) (q := 0) (i := 0) (x := 32) hC (by decide +kernel) rfl 2 rfl ?_
          refine a_aload_n (pc := 53) (q := 1) (i := 1) (x := 1) hC (by decide +kernel) rfl 3 rfl ?_
          refine a_iload_n (pc := 54) (q := 3) (i := 3) (x := (s : Int)) hC (by decide +kernel) rfl 1 rfl ?_
          refine a_iload (pc := 55) (i := 4) (x := ((s * 3 + q : Nat) : Int)) hC (by decide +kernel) 0 rfl ?_
          have hcg : ∀ c, c ≤ 21 → lrG (lrH G pl N) pl N s c = (lrH G pl N) c := fun c hc => lrG_off (by omega) (by omega)
          refine g_callV0 (pc := 57) (idx := 57) (i := 32) (av := [.ref 1, vi ((s : Int)), vi (((s * 3 + q : Nat) : Int))]) (rest := []) (g := uG (lrG (lrH G pl N) pl N s) (35 + s) (wcR (lrG (lrH G pl N) pl N s) N s (s * 3 + q) h ((lrG (lrH G pl N) pl N s) (35 + s)))) hC hro hty (by decide +kernel) rfl rfl k_L_writeCircle (by decide +kernel) (by decide +kernel) (by decide +kernel) (ct_L_writeCircle X.la X.dd K (lrG (lrH G pl N) pl N s) N s (s * 3 + q) h (by omega) (by omega) (by omega) (by rw [lrG_off (by omega) (by omega)]; exact hh) (hwH.keep hcg)) rfl rfl (by decide) (by first | decide | simp [Value.category]) ?_
          refine a_goto (pc := 60) (off := 11) hC 71 (by decide +kernel) (by decide) ?_
          refine a_iinc (pc := 71) (i := 3) (c := 1) (x := (s : Int)) (lv' := [(3, vi (((s : Int)) + 1)), (4, vi (((s * 3 + q : Nat) : Int))), (0, .ref 32), (1, .ref 1), (2, .ref pl)]) hC (by decide +kernel) 1 rfl (by decide) rfl ?_
          refine a_goto (pc := 74) (off := -51) hC 23 (by decide +kernel) (by decide) ?_
          refine a_sub (lv' := [(3, vi (((s + 1) : Int))), (0, .ref 32), (1, .ref 1), (2, .ref pl)]) [0, 2, 3, 4] rfl ?_
          refine g_G (G' := lrG (lrH G pl N) pl N (s + 1)) (by rw [lrG_at]; first | (rw [wcR_congr hcg (by omega), ← lrG_s]; unfold rowL; rw [if_pos hic, hsl, hhn]) | (rw [wpR_congr hcg (lrG_off (by omega) (by omega)) (by omega), ← lrG_s]; unfold rowL; rw [if_neg hic, hsl])) ?_
          exact ih23 (s + 1) (by omega) (by omega)
  refine a_sub (lv' := [(3, vi ((0 : Int))), (0, .ref 32), (1, .ref 1), (2, .ref pl)]) [0, 1, 2, 3] rfl ?_
  refine g_G (G' := lrG (lrH G pl N) pl N 0) (lrG_0 _ _ _).symm ?_
  exact L23 _ 0 (Nat.lt_succ_self _) (by omega)
