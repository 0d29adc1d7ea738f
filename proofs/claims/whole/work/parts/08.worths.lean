/-! PlanWorths -/
def scaleZ (G : GT) (q : Nat) : Int := G 1 2 * maxZ 1 (G 5 q)
def slotN (G : GT) (pl s : Nat) : Nat := s * 3 + (G pl s).toNat
/-- the row of a state whose act is in slot q: t weights written -/
def rowW (G : GT) (q t : Nat) (old : Nat → Int) : Nat → Int := fun c => if c < t then (-(G 1 1)) * (G (7 + q) c) else old c
def rowF (G : GT) (N q s : Nat) (old : Nat → Int) : Nat → Int := up (up (rowW G q N old) s (rowW G q N old s + scaleZ G q)) 5 (scaleZ G q * G 4 q)
def folG (G : GT) (pl N i : Nat) : GT := fun b => if 25 ≤ b ∧ b < 25 + i then rowF G N (slotN G pl (b - 25)) (b - 25) (clrG G 25 5 6 b) else clrG G 25 5 6 b
theorem clr_off {G : GT} {b0 n len b : Nat} (h : b < b0 ∨ b0 + n ≤ b) : clrG G b0 n len b = G b := if_neg (by omega)
theorem folG_0 (G : GT) (pl N : Nat) : folG G pl N 0 = clrG G 25 5 6 := by funext b; exact if_neg (by omega)
theorem folG_off {G : GT} {pl N i b : Nat} (hi : i ≤ 5) (h : b < 25 ∨ 30 ≤ b) : folG G pl N i b = G b := by
  unfold folG; rw [if_neg (by omega), clr_off (by omega)]
theorem folG_at (G : GT) (pl N i : Nat) : folG G pl N i (25 + i) = clrG G 25 5 6 (25 + i) := if_neg (by omega)
def inG (G : GT) (pl N s q t : Nat) : GT := uG (folG G pl N s) (25 + s) (rowW G q t (clrG G 25 5 6 (25 + s)))
theorem rowW_0 (G : GT) (q : Nat) (old : Nat → Int) : rowW G q 0 old = old := by funext c; exact if_neg (by omega)
theorem rowW_s (G : GT) (q t : Nat) (old : Nat → Int) : up (rowW G q t old) t ((-(G 1 1)) * (G (7 + q) t)) = rowW G q (t + 1) old := by
  funext c; unfold up rowW
  by_cases h : c = t
  · subst h; rw [if_pos rfl, if_pos (by omega)]
  · rw [if_neg h]
    by_cases h2 : c < t
    · rw [if_pos h2, if_pos (by omega)]
    · rw [if_neg h2, if_neg (by omega)]
theorem inG_0 (G : GT) (pl N s q : Nat) : inG G pl N s q 0 = folG G pl N s := by
  unfold inG; rw [rowW_0, ← folG_at, uG_self]
theorem inG_s (G : GT) (pl N s q t : Nat) : uG (inG G pl N s q t) (25 + s) (up (inG G pl N s q t (25 + s)) t ((-(G 1 1)) * (G (7 + q) t))) = inG G pl N s q (t + 1) := by
  unfold inG; rw [uG_s, uG_uG, rowW_s]
theorem inG_off {G : GT} {pl N s q t b : Nat} (hs : s < 5) (h : b < 25 ∨ 30 ≤ b) : inG G pl N s q t b = G b := by
  unfold inG; rw [uG_n _ _ (by omega), folG_off (by omega) h]
theorem inG_r (G : GT) (pl N s q t : Nat) : inG G pl N s q t (25 + s) = rowW G q t (clrG G 25 5 6 (25 + s)) := uG_s _ _ _
theorem folG_s {G : GT} {pl N s : Nat} : uG (folG G pl N s) (25 + s) (rowF G N (slotN G pl s) s (clrG G 25 5 6 (25 + s))) = folG G pl N (s + 1) := by
  funext b
  by_cases hb : b = 25 + s
  · subst hb
    rw [uG_s]; unfold folG
    rw [if_pos (by omega), show 25 + s - 25 = s by omega]
  · rw [uG_n _ _ hb]; unfold folG
    by_cases h2 : 25 ≤ b ∧ b < 25 + s
    · rw [if_pos h2, if_pos (by omega)]
    · rw [if_neg h2, if_neg (by omega)]
/-- behind follow -/
def folR (G : GT) (pl N : Nat) : GT := solG (folG G pl N N) 23 30 N
/-- a plan: an act's number for each state -/
def PlOk (G : GT) (pl N : Nat) : Prop := (pl = 47 ∨ pl = 48 ∨ pl = 49) ∧ ∀ s, s < N → 0 ≤ G pl s ∧ G pl s ≤ 2
theorem PlOk.sh {G : GT} {pl N : Nat} (h : PlOk G pl N) : shape[pl]? = some (shI 5) := by rcases h.1 with rfl | rfl | rfl <;> rfl
theorem WW.fol {G : GT} {pl N i : Nat} (h : WW G N) (hi : i ≤ 5) : WW (folG G pl N i) N := h.keep (fun a ha => folG_off hi (by omega))

set_option maxRecDepth 100000 in
set_option maxHeartbeats 4000000 in
theorem ct_P_follow (l : Launch) (D : va_G) (K : K5) (G : GT) (pl N : Nat) (hw : WW G N) (hpl : PlOk G pl N) (hok : SolOk (folG G pl N N) 23 N) : Ct l D K y_P_follow c_P_follow 8 none 2 57 [.ref 22, .ref 1, .ref pl] G none (folR G pl N) := by
  refine Ct.intro (by decide +kernel) (Nat.le_of_ble_eq_true rfl) ?_
  intro X hro hty hC hE
  obtain ⟨hn, hN5, hsh, hac, hpa, hwe, hth⟩ := id hw
  have hplr := hpl.1
  refine a_aload_n (pc := 0) (q := 0) (i := 0) (x := 22) hC (by decide +kernel) rfl 0 rfl ?_
  refine g_get (pc := 1) (idx := 12) (ci := 3) (v := .ref 23) hC 22 0 (by decide +kernel) rfl rfl rfl rfl wrP (by decide) rfl (by decide +kernel) ?_
  refine g_callVN0 (pc := 4) (idx := 25) (i := 23) (av := []) (rest := []) (g := clrG G 25 5 6) (host := "PlanValues") hC hro hty (by decide +kernel) rfl rfl k_E_begin (by decide +kernel) (by decide +kernel) (by decide +kernel) (ct_E_begin X.la X.dd K G 23 she23) rfl rfl (by decide) (by first | decide | simp [Value.category]) ?_
  refine a_iconst (pc := 7) (c := 0) hC (by decide +kernel) ?_
  refine a_istore_n (pc := 8) (q := 3) (i := 3) (lv' := [(3, vi 0), (0, .ref 22), (1, .ref 1), (2, .ref pl)]) hC (by decide +kernel) rfl (by decide) rfl ?_
  have L9 : ∀ (fuel : Nat) (s : Nat), N - s < fuel → s ≤ N → AW X 8 0 0 9 [(3, vi ((s : Int))), (0, .ref 22), (1, .ref 1), (2, .ref pl)] [] (hp K (folG G pl N s)) := by
    intro fuel
    induction fuel with
    | zero => intro s h; exact absurd h (Nat.not_lt_zero _)
    | succ fuel ih9 =>
      intro s hm hs
      refine a_iload_n (pc := 9) (q := 3) (i := 3) (x := (s : Int)) hC (by decide +kernel) rfl 0 rfl ?_
      refine a_aload_n (pc := 10) (q := 1) (i := 1) (x := 1) hC (by decide +kernel) rfl 2 rfl ?_
      refine g_getN (pc := 11) (idx := 28) (ci := 4) (v := vi ((folG G pl N s) 1 0)) (host := "PlanValues") hC 1 0 (by decide +kernel) rfl rfl rfl rfl wrW (by decide) rfl (by decide +kernel) ?_
      refine g_top (y := (N : Int)) (by rw [folG_off (by omega) (by omega)]; exact hn) ?_
      refine a_icmp_ge (pc := 14) (off := 114) hC 128 (by decide +kernel) (by decide) (by unfold inI; omega) (by unfold inI; omega) (fun c14 => ?_) (fun c14 => ?_)
      · skip
        refine a_aload_n (pc := 128) (q := 0) (i := 0) (x := 22) hC (by decide +kernel) rfl 1 rfl ?_
        refine g_get (pc := 129) (idx := 12) (ci := 3) (v := .ref 23) hC 22 0 (by decide +kernel) rfl rfl rfl rfl wrP (by decide) rfl (by decide +kernel) ?_
        refine a_aload_n (pc := 132) (q := 1) (i := 1) (x := 1) hC (by decide +kernel) rfl 2 rfl ?_
        refine g_getN (pc := 133) (idx := 28) (ci := 4) (v := vi ((folG G pl N s) 1 0)) (host := "PlanValues") hC 1 0 (by decide +kernel) rfl rfl rfl rfl wrW (by decide) rfl (by decide +kernel) ?_
        refine g_top (y := (N : Int)) (by rw [folG_off (by omega) (by omega)]; exact hn) ?_
        refine a_aload_n (pc := 136) (q := 0) (i := 0) (x := 22) hC (by decide +kernel) rfl 1 rfl ?_
        refine g_get (pc := 137) (idx := 21) (ci := 3) (v := .ref 30) hC 22 1 (by decide +kernel) rfl rfl rfl rfl wrP (by decide) rfl (by decide +kernel) ?_
        rw [show s = N by omega]
        refine g_callVN0 (pc := 140) (idx := 64) (i := 23) (av := [vi ((N : Int)), .ref 30]) (rest := []) (g := solG (folG G pl N N) 23 30 N) (host := "PlanValues") hC hro hty (by decide +kernel) rfl rfl k_E_solve (by decide +kernel) (by decide +kernel) (by decide +kernel) (ct_E_solve X.la X.dd K (folG G pl N N) 23 N 30 she23 shu30 (by omega) (by omega) hok) rfl rfl (by decide) (by first | decide | simp [Value.category]) ?_
        exact g_vret (pc := 143) hC hE (by decide +kernel) rfl
      · skip
        obtain ⟨q, hq, hq3⟩ : ∃ q : Nat, G pl s = (q : Int) ∧ q < 3 := ⟨(G pl s).toNat, by have := hpl.2 s (by omega); omega, by have := hpl.2 s (by omega); omega⟩
        have hsl : slotN G pl s = s * 3 + q := by unfold slotN; omega
        have hps := hpa (s * 3 + q) (by omega)
        refine a_iload_n (pc := 17) (q := 3) (i := 3) (x := (s : Int)) hC (by decide +kernel) rfl 0 rfl ?_
        refine a_aload_n (pc := 18) (q := 2) (i := 2) (x := pl) hC (by decide +kernel) rfl 3 rfl ?_
        refine a_iload_n (pc := 19) (q := 3) (i := 3) (x := (s : Int)) hC (by decide +kernel) rfl 0 rfl ?_
        refine g_iald (pc := 20) (a := pl) (j := s) hC hty (by decide +kernel) hpl.sh (by omega) (by first | decide | omega) ?_
        refine g_top (y := (q : Int)) (by rw [folG_off (by omega) (by omega)]; exact hq) ?_
        refine g_callSN (pc := 21) (idx := 34) (av := [vi ((s : Int)), vi ((q : Int))]) (rest := []) (g := folG G pl N s) (v := vi (((s : Int)) * 3 + ((q : Int)))) (host := "PlanValues") hC hro hty (by decide +kernel) k_W_slotOf (by decide +kernel) (by decide +kernel) (ct_W_slotOf X.la X.dd K (folG G pl N s) ((s : Int)) ((q : Int))) rfl rfl (by decide) (by first | decide | simp [Value.category]) ?_
        refine g_top (y := ((s * 3 + q : Nat) : Int)) (by omega) ?_
        refine a_istore (pc := 24) (q := 0) (i := 4) (lv' := [(4, vi (((s * 3 + q : Nat) : Int))), (3, vi ((s : Int))), (0, .ref 22), (1, .ref 1), (2, .ref pl)]) hC (by decide +kernel) (by decide) rfl ?_
        refine a_aload_n (pc := 26) (q := 0) (i := 0) (x := 22) hC (by decide +kernel) rfl 2 rfl ?_
        refine g_get (pc := 27) (idx := 12) (ci := 3) (v := .ref 23) hC 22 0 (by decide +kernel) rfl rfl rfl rfl wrP (by decide) rfl (by decide +kernel) ?_
        refine g_getN (pc := 30) (idx := 38) (ci := 0) (v := .ref 24) (host := "PlanValues") hC 23 0 (by decide +kernel) rfl rfl rfl rfl wrE (by decide) rfl (by decide +kernel) ?_
        refine a_iload_n (pc := 33) (q := 3) (i := 3) (x := (s : Int)) hC (by decide +kernel) rfl 1 rfl ?_
        refine g_aaldL (pc := 34) (a := 24) (j := s) hC hty (by decide +kernel) rfl (by omega) (by first | decide | omega) ?_
        refine a_astore (pc := 35) (q := 0) (i := 5) (lv' := [(5, .ref (25 + s)), (4, vi (((s * 3 + q : Nat) : Int))), (3, vi ((s : Int))), (0, .ref 22), (1, .ref 1), (2, .ref pl)]) hC (by decide +kernel) (by decide) rfl ?_
        refine a_iconst (pc := 37) (c := 0) hC (by decide +kernel) ?_
        refine a_istore (pc := 38) (q := 0) (i := 6) (lv' := [(6, vi 0), (5, .ref (25 + s)), (4, vi (((s * 3 + q : Nat) : Int))), (3, vi ((s : Int))), (0, .ref 22), (1, .ref 1), (2, .ref pl)]) hC (by decide +kernel) (by decide) rfl ?_
        have L40 : ∀ (fuel : Nat) (t : Nat), N - t < fuel → t ≤ N → AW X 8 0 0 40 [(6, vi ((t : Int))), (5, .ref (25 + s)), (4, vi (((s * 3 + q : Nat) : Int))), (3, vi ((s : Int))), (0, .ref 22), (1, .ref 1), (2, .ref pl)] [] (hp K (inG G pl N s (s * 3 + q) t)) := by
          intro fuel
          induction fuel with
          | zero => intro t h; exact absurd h (Nat.not_lt_zero _)
          | succ fuel ih40 =>
            intro t hm ht
            refine a_iload (pc := 40) (i := 6) (x := (t : Int)) hC (by decide +kernel) 0 rfl ?_
            refine a_aload_n (pc := 42) (q := 1) (i := 1) (x := 1) hC (by decide +kernel) rfl 5 rfl ?_
            refine g_getN (pc := 43) (idx := 28) (ci := 4) (v := vi ((inG G pl N s (s * 3 + q) t) 1 0)) (host := "PlanValues") hC 1 0 (by decide +kernel) rfl rfl rfl rfl wrW (by decide) rfl (by decide +kernel) ?_
            refine g_top (y := (N : Int)) (by rw [inG_off (by omega) (by omega)]; exact hn) ?_
            refine a_icmp_ge (pc := 46) (off := 32) hC 78 (by decide +kernel) (by decide) (by unfold inI; omega) (by unfold inI; omega) (fun c46 => ?_) (fun c46 => ?_)
            · skip
              refine a_aload_n (pc := 78) (q := 1) (i := 1) (x := 1) hC (by decide +kernel) rfl 5 rfl ?_
              refine g_getN (pc := 79) (idx := 49) (ci := 4) (v := vi ((inG G pl N s (s * 3 + q) t) 1 2)) (host := "PlanValues") hC 1 2 (by decide +kernel) rfl rfl rfl rfl wrW (by decide) rfl (by decide +kernel) ?_
              refine g_top (y := G 1 2) (by rw [inG_off (by omega) (by omega)]) ?_
              refine a_i2l (pc := 82) hC (by decide +kernel) (by unfold inI; omega) ?_
              refine a_iconst (pc := 83) (c := 1) hC (by decide +kernel) ?_
              refine a_aload_n (pc := 84) (q := 1) (i := 1) (x := 1) hC (by decide +kernel) rfl 5 rfl ?_
              refine g_getN (pc := 85) (idx := 52) (ci := 4) (v := .ref 5) (host := "PlanValues") hC 1 6 (by decide +kernel) rfl rfl rfl rfl wrW (by decide) rfl (by decide +kernel) ?_
              refine a_iload (pc := 88) (i := 4) (x := ((s * 3 + q : Nat) : Int)) hC (by decide +kernel) 2 rfl ?_
              refine g_iald (pc := 90) (a := 5) (j := s * 3 + q) hC hty (by decide +kernel) rfl (by omega) (by first | decide | omega) ?_
              refine g_top (y := G 5 (s * 3 + q)) (by rw [inG_off (by omega) (by omega)]) ?_
              refine g_callS (pc := 91) (idx := 56) (av := [vi 1, vi (G 5 (s * 3 + q))]) (rest := [vl (G 1 2)]) (g := inG G pl N s (s * 3 + q) t) (v := vi (maxZ 1 (G 5 (s * 3 + q)))) hC hro hty (by decide +kernel) k_JM_max_II (by decide +kernel) (by decide +kernel) (ct_JM_max_II X.la X.dd K (inG G pl N s (s * 3 + q) t) 1 (G 5 (s * 3 + q)) (by unfold inI; omega) (by unfold inI; omega)) rfl rfl (by decide) (by first | decide | simp [Value.category]) ?_
              refine a_i2l (pc := 94) hC (by decide +kernel) (by unfold inI maxZ; split <;> omega) ?_
              refine a_lmul (pc := 95) hC (by decide +kernel) ?_
              refine g_topl (y := scaleZ G (s * 3 + q)) rfl ?_
              refine a_lstore (pc := 96) (q := 0) (i := 6) (lv' := [(6, vl (scaleZ G (s * 3 + q))), (5, .ref (25 + s)), (4, vi (((s * 3 + q : Nat) : Int))), (3, vi ((s : Int))), (0, .ref 22), (1, .ref 1), (2, .ref pl)]) hC (by decide +kernel) (by decide) rfl ?_
              refine a_aload (pc := 98) (i := 5) (x := 25 + s) hC (by decide +kernel) 1 rfl ?_
              refine a_iload_n (pc := 100) (q := 3) (i := 3) (x := (s : Int)) hC (by decide +kernel) rfl 3 rfl ?_
              refine a_dup2 (pc := 101) hC (by decide +kernel) rfl rfl ?_
              refine g_lald (pc := 102) (a := 25 + s) (j := s) hC hty (by decide +kernel) (sh_e1 (by omega : s < 5)) (by omega) (by first | decide | omega) ?_
              refine g_topl (y := rowW G (s * 3 + q) N (clrG G 25 5 6 (25 + s)) s) (by rw [inG_r, show t = N by omega]) ?_
              refine a_lload (pc := 103) (i := 6) (x := scaleZ G (s * 3 + q)) hC (by decide +kernel) 0 rfl ?_
              refine a_ladd (pc := 105) hC (by decide +kernel) ?_
              refine g_last (pc := 106) (a := 25 + s) (j := s) (x := (rowW G (s * 3 + q) N (clrG G 25 5 6 (25 + s)) s) + (scaleZ G (s * 3 + q))) hC hty (by decide +kernel) (sh_e1 (by omega : s < 5)) (by omega) (by first | decide | omega) ?_
              refine a_aload (pc := 107) (i := 5) (x := 25 + s) hC (by decide +kernel) 1 rfl ?_
              refine a_iconst (pc := 109) (c := 5) hC (by decide +kernel) ?_
              refine a_lload (pc := 110) (i := 6) (x := scaleZ G (s * 3 + q)) hC (by decide +kernel) 0 rfl ?_
              refine a_aload_n (pc := 112) (q := 1) (i := 1) (x := 1) hC (by decide +kernel) rfl 5 rfl ?_
              refine g_getN (pc := 113) (idx := 61) (ci := 4) (v := .ref 4) (host := "PlanValues") hC 1 5 (by decide +kernel) rfl rfl rfl rfl wrW (by decide) rfl (by decide +kernel) ?_
              refine a_iload (pc := 116) (i := 4) (x := ((s * 3 + q : Nat) : Int)) hC (by decide +kernel) 2 rfl ?_
              refine g_iald (pc := 118) (a := 4) (j := s * 3 + q) hC hty (by decide +kernel) rfl (by omega) (by first | decide | omega) ?_
              refine g_top (y := G 4 (s * 3 + q)) (by rw [uG_n _ _ (by omega), inG_off (by omega) (by omega)]) ?_
              refine a_i2l (pc := 119) hC (by decide +kernel) (by unfold inI; omega) ?_
              refine a_lmul (pc := 120) hC (by decide +kernel) ?_
              refine g_snd (y := ((5 : Nat) : Int)) (by omega) ?_
              refine g_last (pc := 121) (a := 25 + s) (j := 5) (x := (scaleZ G (s * 3 + q)) * (G 4 (s * 3 + q))) hC hty (by decide +kernel) (sh_e1 (by omega : s < 5)) (by omega) (by first | decide | omega) ?_
              refine a_iinc (pc := 122) (i := 3) (c := 1) (x := (s : Int)) (lv' := [(3, vi (((s : Int)) + 1)), (6, vl (scaleZ G (s * 3 + q))), (5, .ref (25 + s)), (4, vi (((s * 3 + q : Nat) : Int))), (0, .ref 22), (1, .ref 1), (2, .ref pl)]) hC (by decide +kernel) 3 rfl (by decide) rfl ?_
              refine a_goto (pc := 125) (off := -116) hC 9 (by decide +kernel) (by decide) ?_
              refine a_sub (lv' := [(3, vi (((s + 1) : Int))), (0, .ref 22), (1, .ref 1), (2, .ref pl)]) [0, 4, 5, 6] rfl ?_
              refine g_G (G' := folG G pl N (s + 1)) (by rw [uG_s, uG_uG, show t = N by omega, inG_r]; unfold inG; rw [uG_uG, ← folG_s, hsl]; rfl) ?_
              exact ih9 (s + 1) (by omega) (by omega)
            · skip
              have hwt := hwe (s * 3 + q) t (by omega) (by omega)
              refine a_aload (pc := 49) (i := 5) (x := 25 + s) hC (by decide +kernel) 1 rfl ?_
              refine a_iload (pc := 51) (i := 6) (x := (t : Int)) hC (by decide +kernel) 0 rfl ?_
              refine a_aload_n (pc := 53) (q := 1) (i := 1) (x := 1) hC (by decide +kernel) rfl 5 rfl ?_
              refine g_getN (pc := 54) (idx := 42) (ci := 4) (v := vi ((inG G pl N s (s * 3 + q) t) 1 1)) (host := "PlanValues") hC 1 1 (by decide +kernel) rfl rfl rfl rfl wrW (by decide) rfl (by decide +kernel) ?_
              refine g_top (y := G 1 1) (by rw [inG_off (by omega) (by omega)]) ?_
              refine a_i2l (pc := 57) hC (by decide +kernel) (by unfold inI; omega) ?_
              refine a_lneg (pc := 58) hC (by decide +kernel) ?_
              refine a_aload_n (pc := 59) (q := 1) (i := 1) (x := 1) hC (by decide +kernel) rfl 5 rfl ?_
              refine g_getN (pc := 60) (idx := 45) (ci := 4) (v := .ref 6) (host := "PlanValues") hC 1 7 (by decide +kernel) rfl rfl rfl rfl wrW (by decide) rfl (by decide +kernel) ?_
              refine a_iload (pc := 63) (i := 4) (x := ((s * 3 + q : Nat) : Int)) hC (by decide +kernel) 2 rfl ?_
              refine g_aaldI (pc := 65) (a := 6) (j := s * 3 + q) hC hty (by decide +kernel) rfl (by omega) (by first | decide | omega) ?_
              refine a_iload (pc := 66) (i := 6) (x := (t : Int)) hC (by decide +kernel) 0 rfl ?_
              refine g_iald (pc := 68) (a := 7 + (s * 3 + q)) (j := t) hC hty (by decide +kernel) (sh_we (by omega : (s * 3 + q) < 15)) (by omega) (by first | decide | omega) ?_
              refine g_top (y := G (7 + (s * 3 + q)) t) (by rw [inG_off (by omega) (by omega)]) ?_
              refine a_i2l (pc := 69) hC (by decide +kernel) (by unfold inI; omega) ?_
              refine a_lmul (pc := 70) hC (by decide +kernel) ?_
              refine g_last (pc := 71) (a := 25 + s) (j := t) (x := (-(G 1 1)) * (G (7 + (s * 3 + q)) t)) hC hty (by decide +kernel) (sh_e1 (by omega : s < 5)) (by omega) (by first | decide | omega) ?_
              refine a_iinc (pc := 72) (i := 6) (c := 1) (x := (t : Int)) (lv' := [(6, vi (((t : Int)) + 1)), (5, .ref (25 + s)), (4, vi (((s * 3 + q : Nat) : Int))), (3, vi ((s : Int))), (0, .ref 22), (1, .ref 1), (2, .ref pl)]) hC (by decide +kernel) 0 rfl (by decide) rfl ?_
              refine a_goto (pc := 75) (off := -35) hC 40 (by decide +kernel) (by decide) ?_
              refine a_sub (lv' := [(6, vi (((t + 1) : Int))), (5, .ref (25 + s)), (4, vi (((s * 3 + q : Nat) : Int))), (3, vi ((s : Int))), (0, .ref 22), (1, .ref 1), (2, .ref pl)]) [0, 1, 2, 3, 4, 5, 6] rfl ?_
              refine g_G (G' := inG G pl N s (s * 3 + q) (t + 1)) (inG_s _ _ _ _ _ _) ?_
              exact ih40 (t + 1) (by omega) (by omega)
        refine a_sub (lv' := [(6, vi ((0 : Int))), (5, .ref (25 + s)), (4, vi (((s * 3 + q : Nat) : Int))), (3, vi ((s : Int))), (0, .ref 22), (1, .ref 1), (2, .ref pl)]) [0, 1, 2, 3, 4, 5, 6] rfl ?_
        refine g_G (G' := inG G pl N s (s * 3 + q) 0) (inG_0 _ _ _ _ _).symm ?_
        exact L40 _ 0 (Nat.lt_succ_self _) (by omega)
  refine a_sub (lv' := [(3, vi ((0 : Int))), (0, .ref 22), (1, .ref 1), (2, .ref pl)]) [0, 1, 2, 3] rfl ?_
  refine g_G (G' := folG G pl N 0) (folG_0 _ _ _).symm ?_
  exact L9 _ 0 (Nat.lt_succ_self _) (by omega)
