/-! Equations -/
def elimF (r p : Nat → Int) (pv : Nat) (bf : Int) (c : Nat) : Nat → Int := fun z => if pv < z ∧ z < c then Int.tdiv ((p pv) * (r z) - (r pv) * (p z)) bf else r z
theorem elimF_hi {r p : Nat → Int} {pv : Nat} {bf : Int} {c z : Nat} (h : c ≤ z) : elimF r p pv bf c z = r z := if_neg (by omega)
theorem elimF_0 (r p : Nat → Int) (pv : Nat) (bf : Int) : elimF r p pv bf (pv + 1) = r := by funext z; exact if_neg (by omega)
theorem elimF_s {r p : Nat → Int} {pv : Nat} {bf : Int} {c : Nat} (h : pv < c) : up (elimF r p pv bf c) c (Int.tdiv ((p pv) * (r c) - (r pv) * (p c)) bf) = elimF r p pv bf (c + 1) := by
  funext z
  by_cases hz : z = c
  · subst hz; rw [up_s]; unfold elimF; rw [if_pos (by omega)]
  · rw [up_n _ _ hz]; unfold elimF
    by_cases h2 : pv < z ∧ z < c
    · rw [if_pos h2, if_pos (by omega)]
    · rw [if_neg h2, if_neg (by omega)]
/-- the rows below i but pv are eliminated -/
def elG (G : GT) (eo pv : Nat) (bf : Int) (i : Nat) : GT := fun b => if eo + 2 ≤ b ∧ b < eo + 2 + i ∧ b ≠ eo + 2 + pv then elimF (G b) (G (eo + 2 + pv)) pv bf 6 else G b
theorem elG_0 (G : GT) (eo pv : Nat) (bf : Int) : elG G eo pv bf 0 = G := by funext b; exact if_neg (by omega)
theorem elG_p (G : GT) (eo pv : Nat) (bf : Int) (i : Nat) : elG G eo pv bf i (eo + 2 + pv) = G (eo + 2 + pv) := if_neg (by omega)
theorem elG_hi {G : GT} {eo pv : Nat} {bf : Int} {i j : Nat} (h : i ≤ j) : elG G eo pv bf i (eo + 2 + j) = G (eo + 2 + j) := if_neg (by omega)
theorem elG_off {G : GT} {eo pv : Nat} {bf : Int} {i b : Nat} (h : b < eo + 2 ∨ eo + 2 + i ≤ b) : elG G eo pv bf i b = G b := if_neg (by omega)
theorem elG_skip {G : GT} {eo pv : Nat} {bf : Int} : elG G eo pv bf (pv + 1) = elG G eo pv bf pv := by
  funext b; unfold elG
  by_cases h : eo + 2 ≤ b ∧ b < eo + 2 + pv ∧ b ≠ eo + 2 + pv
  · rw [if_pos h, if_pos (by omega)]
  · rw [if_neg h, if_neg (by omega)]
theorem elG_s {G : GT} {eo pv : Nat} {bf : Int} {i : Nat} (h : i ≠ pv) : uG (elG G eo pv bf i) (eo + 2 + i) (elimF (elG G eo pv bf i (eo + 2 + i)) (elG G eo pv bf i (eo + 2 + pv)) pv bf 6) = elG G eo pv bf (i + 1) := by
  funext b
  by_cases hb : b = eo + 2 + i
  · subst hb
    rw [uG_s, elG_p, elG_hi (Nat.le_refl _)]
    unfold elG; rw [if_pos (by omega)]
  · rw [uG_n _ _ hb]; unfold elG
    by_cases h2 : eo + 2 ≤ b ∧ b < eo + 2 + i ∧ b ≠ eo + 2 + pv
    · rw [if_pos h2, if_pos (by omega)]
    · rw [if_neg h2, if_neg (by omega)]
/-- the elimination's rounds: the rows, and the pivot before -/
def solS (G : GT) (eo n : Nat) : Nat → GT × Int
  | 0 => (G, 1)
  | p + 1 => (elG (solS G eo n p).1 eo p (solS G eo n p).2 n, maxZ 1 ((solS G eo n p).1 (eo + 2 + p) p))
theorem solS_off {G : GT} {eo n b : Nat} (h : b < eo + 2 ∨ eo + 2 + n ≤ b) : ∀ p, (solS G eo n p).1 b = G b
  | 0 => rfl
  | p + 1 => by show elG _ _ _ _ _ b = G b; rw [elG_off h]; exact solS_off h p
theorem solS_bf (G : GT) (eo n : Nat) : ∀ p, (solS G eo n p).2 ≠ 0
  | 0 => by show (1 : Int) ≠ 0; decide
  | p + 1 => by show maxZ 1 _ ≠ 0; unfold maxZ; split <;> omega
def cpF (G : GT) (eo u i : Nat) : Nat → Int := fun j => if j < i then G (eo + 2 + j) 5 else G (u + 1) j
theorem cpF_0 (G : GT) (eo u : Nat) : cpF G eo u 0 = G (u + 1) := by funext j; exact if_neg (by omega)
theorem cpF_s (G : GT) (eo u i : Nat) : up (cpF G eo u i) i (G (eo + 2 + i) 5) = cpF G eo u (i + 1) := by
  funext j; unfold up cpF
  by_cases h : j = i
  · subst h; rw [if_pos rfl, if_pos (by omega)]
  · rw [if_neg h]
    by_cases h2 : j < i
    · rw [if_pos h2, if_pos (by omega)]
    · rw [if_neg h2, if_neg (by omega)]
/-- behind solve: the numbers of cell u hold the solution -/
def solG (G : GT) (eo u n : Nat) : GT := uG (uG (solS G eo n n).1 (u + 1) (cpF (solS G eo n n).1 eo u n)) u (up ((solS G eo n n).1 u) 1 (solS G eo n n).2)
/-- nothing outgrows a long -/
def SolOk (G : GT) (eo n : Nat) : Prop := ∀ p, p < n → inL (solS G eo n p).2 ∧ inL ((solS G eo n p).1 (eo + 2 + p) p) ∧ ∀ r c, r < n → r ≠ p → p < c → c ≤ 5 → inL (((solS G eo n p).1 (eo + 2 + p) p) * ((solS G eo n p).1 (eo + 2 + r) c) - ((solS G eo n p).1 (eo + 2 + r) p) * ((solS G eo n p).1 (eo + 2 + p) c))
def ShE (eo : Nat) : Prop := shape[eo]? = some (.inr (0, [fR (eo + 1)])) ∧ shape[eo + 1]? = some (shLL 5 (eo + 2)) ∧ ∀ j, j < 5 → shape[eo + 2 + j]? = some (shL 6)
def ShU (u : Nat) : Prop := shape[u]? = some (.inr (2, [fR (u + 1), fL])) ∧ shape[u + 1]? = some (shL 5)
theorem she23 : ShE 23 := ⟨rfl, rfl, fun j h => sh_e1 h⟩
theorem she33 : ShE 33 := ⟨rfl, rfl, fun j h => sh_e2 h⟩
theorem shu30 : ShU 30 := ⟨rfl, rfl⟩
theorem shu40 : ShU 40 := ⟨rfl, rfl⟩
theorem shu44 : ShU 44 := ⟨rfl, rfl⟩

set_option maxRecDepth 100000 in
set_option maxHeartbeats 4000000 in
theorem ct_E_begin (l : Launch) (D : va_G) (K : K5) (G : GT) (eo : Nat) (so : ShE eo) : Ct l D K y_E_begin c_E_begin 2 none 1 24 [.ref eo] G none (clrG G (eo + 2) 5 6) := by
  refine Ct.intro (by decide +kernel) (Nat.le_of_ble_eq_true rfl) ?_
  intro X hro hty hC hE
  refine a_iconst (pc := 0) (c := 0) hC (by decide +kernel) ?_
  refine a_istore_n (pc := 1) (q := 1) (i := 1) (lv' := [(1, vi 0), (0, .ref eo)]) hC (by decide +kernel) rfl (by decide) rfl ?_
  have L2 : ∀ (fuel : Nat) (i : Nat), 5 - i < fuel → i ≤ 5 → AW X 2 0 0 2 [(1, vi ((i : Int))), (0, .ref eo)] [] (hp K (clrG G (eo + 2) i 6)) := by
    intro fuel
    induction fuel with
    | zero => intro i h; exact absurd h (Nat.not_lt_zero _)
    | succ fuel ih2 =>
      intro i hm hi
      refine a_iload_n (pc := 2) (q := 1) (i := 1) (x := (i : Int)) hC (by decide +kernel) rfl 0 rfl ?_
      refine a_iconst (pc := 3) (c := 5) hC (by decide +kernel) ?_
      refine a_icmp_ge (pc := 4) (off := 19) hC 23 (by decide +kernel) (by decide) (by unfold inI; omega) (by unfold inI; omega) (fun c4 => ?_) (fun c4 => ?_)
      · skip
        exact g_vret (pc := 23) hC hE (by decide +kernel) (by rw [show i = 5 by omega])
      · skip
        refine a_aload_n (pc := 7) (q := 0) (i := 0) (x := eo) hC (by decide +kernel) rfl 1 rfl ?_
        refine g_get (pc := 8) (idx := 11) (ci := 0) (v := .ref (eo + 1)) hC eo 0 (by decide +kernel) so.1 rfl rfl rfl wrE (by decide) rfl (by decide +kernel) ?_
        refine a_iload_n (pc := 11) (q := 1) (i := 1) (x := (i : Int)) hC (by decide +kernel) rfl 0 rfl ?_
        refine g_aaldL (pc := 12) (a := eo + 1) (j := i) hC hty (by decide +kernel) so.2.1 (by omega) (by first | decide | omega) ?_
        refine a_lconst (pc := 13) (c := 0) (z := 0) hC (by decide +kernel) rfl ?_
        refine g_callS0 (pc := 14) (idx := 16) (av := [.ref (eo + 2 + i), vl 0]) (rest := []) (g := uG (clrG G (eo + 2) i 6) (eo + 2 + i) (fillF ((clrG G (eo + 2) i 6) (eo + 2 + i)) 6 0)) hC hro hty (by decide +kernel) k_JA_fill_AJJ (by decide +kernel) (by decide +kernel) (ct_JA_fill_AJJ X.la X.dd K (clrG G (eo + 2) i 6) (eo + 2 + i) 6 0 (so.2.2 i (by omega)) (by decide)) rfl rfl (by decide) (by first | decide | simp [Value.category]) ?_
        refine a_iinc (pc := 17) (i := 1) (c := 1) (x := (i : Int)) (lv' := [(1, vi (((i : Int)) + 1)), (0, .ref eo)]) hC (by decide +kernel) 0 rfl (by decide) rfl ?_
        refine a_goto (pc := 20) (off := -18) hC 2 (by decide +kernel) (by decide) ?_
        refine a_sub (lv' := [(1, vi (((i + 1) : Int))), (0, .ref eo)]) [0, 1] rfl ?_
        refine g_G (G' := clrG G (eo + 2) (i + 1) 6) (clrG_s _ _ _ _) ?_
        exact ih2 (i + 1) (by omega) (by omega)
  refine a_sub (lv' := [(1, vi ((0 : Int))), (0, .ref eo)]) [0, 1] rfl ?_
  refine g_G (G' := clrG G (eo + 2) 0 6) (clrG_0 _ _ _).symm ?_
  exact L2 _ 0 (Nat.lt_succ_self _) (by omega)

set_option maxRecDepth 100000 in
set_option maxHeartbeats 4000000 in
theorem ct_E_eliminate (l : Launch) (D : va_G) (K : K5) (G : GT) (eo row pv : Nat) (bf : Int) (so : ShE eo) (hrow : row < 5) (hpv : pv < 5) (hne : row ≠ pv) (hbi : inL bf) (hb : bf ≠ 0) (hr : ∀ c, pv < c → c ≤ 5 → inL ((G (eo + 2 + pv) pv) * (G (eo + 2 + row) c) - (G (eo + 2 + row) pv) * (G (eo + 2 + pv) c))) : Ct l D K y_E_eliminate c_E_eliminate 12 none 0 0 [.ref eo, vi ((row : Int)), vi ((pv : Int)), vl bf] G none (uG G (eo + 2 + row) (elimF (G (eo + 2 + row)) (G (eo + 2 + pv)) pv bf 6)) := by
  refine Ct.intro (by decide +kernel) (Nat.le_of_ble_eq_true rfl) ?_
  intro X hro hty hC hE
  refine a_lload_n (pc := 0) (q := 3) (i := 3) (x := bf) hC (by decide +kernel) rfl 3 rfl ?_
  refine a_lconst (pc := 1) (c := 0) (z := 0) hC (by decide +kernel) rfl ?_
  refine a_lcmp (pc := 2) hC (by decide +kernel) hbi inL_0 ?_
  refine a_if_ne (pc := 3) (off := 4) hC 7 (by decide +kernel) (by decide) (cmpZ_in _ _) (fun c3 => ?_) (fun c3 => ?_)
  · skip
    rw [cmpZ_eq] at c3
    refine a_aload_n (pc := 7) (q := 0) (i := 0) (x := eo) hC (by decide +kernel) rfl 0 rfl ?_
    refine g_get (pc := 8) (idx := 11) (ci := 0) (v := .ref (eo + 1)) hC eo 0 (by decide +kernel) so.1 rfl rfl rfl wrE (by decide) rfl (by decide +kernel) ?_
    refine a_iload_n (pc := 11) (q := 2) (i := 2) (x := (pv : Int)) hC (by decide +kernel) rfl 2 rfl ?_
    refine g_aaldL (pc := 12) (a := eo + 1) (j := pv) hC hty (by decide +kernel) so.2.1 (by omega) (by first | decide | omega) ?_
    refine a_iload_n (pc := 13) (q := 2) (i := 2) (x := (pv : Int)) hC (by decide +kernel) rfl 2 rfl ?_
    refine g_lald (pc := 14) (a := eo + 2 + pv) (j := pv) hC hty (by decide +kernel) (so.2.2 pv (by omega)) (by omega) (by first | decide | omega) ?_
    refine a_lstore (pc := 15) (q := 0) (i := 5) (lv' := [(5, vl (G (eo + 2 + pv) pv)), (0, .ref eo), (1, vi ((row : Int))), (2, vi ((pv : Int))), (3, vl bf)]) hC (by decide +kernel) (by decide) rfl ?_
    refine a_aload_n (pc := 17) (q := 0) (i := 0) (x := eo) hC (by decide +kernel) rfl 1 rfl ?_
    refine g_get (pc := 18) (idx := 11) (ci := 0) (v := .ref (eo + 1)) hC eo 0 (by decide +kernel) so.1 rfl rfl rfl wrE (by decide) rfl (by decide +kernel) ?_
    refine a_iload_n (pc := 21) (q := 1) (i := 1) (x := (row : Int)) hC (by decide +kernel) rfl 2 rfl ?_
    refine g_aaldL (pc := 22) (a := eo + 1) (j := row) hC hty (by decide +kernel) so.2.1 (by omega) (by first | decide | omega) ?_
    refine a_iload_n (pc := 23) (q := 2) (i := 2) (x := (pv : Int)) hC (by decide +kernel) rfl 3 rfl ?_
    refine g_lald (pc := 24) (a := eo + 2 + row) (j := pv) hC hty (by decide +kernel) (so.2.2 row (by omega)) (by omega) (by first | decide | omega) ?_
    refine a_lstore (pc := 25) (q := 0) (i := 7) (lv' := [(7, vl (G (eo + 2 + row) pv)), (5, vl (G (eo + 2 + pv) pv)), (0, .ref eo), (1, vi ((row : Int))), (2, vi ((pv : Int))), (3, vl bf)]) hC (by decide +kernel) (by decide) rfl ?_
    refine a_iload_n (pc := 27) (q := 2) (i := 2) (x := (pv : Int)) hC (by decide +kernel) rfl 4 rfl ?_
    refine a_iconst (pc := 28) (c := 1) hC (by decide +kernel) ?_
    refine a_iadd (pc := 29) hC (by decide +kernel) ?_
    refine a_istore (pc := 30) (q := 0) (i := 9) (lv' := [(9, vi (((pv : Int)) + 1)), (7, vl (G (eo + 2 + row) pv)), (5, vl (G (eo + 2 + pv) pv)), (0, .ref eo), (1, vi ((row : Int))), (2, vi ((pv : Int))), (3, vl bf)]) hC (by decide +kernel) (by decide) rfl ?_
    have L32 : ∀ (fuel : Nat) (c : Nat), 6 - c < fuel → pv < c → c ≤ 6 → AW X 12 0 0 32 [(9, vi ((c : Int))), (7, vl (G (eo + 2 + row) pv)), (5, vl (G (eo + 2 + pv) pv)), (0, .ref eo), (1, vi ((row : Int))), (2, vi ((pv : Int))), (3, vl bf)] [] (hp K (uG G (eo + 2 + row) (elimF (G (eo + 2 + row)) (G (eo + 2 + pv)) pv bf c))) := by
      intro fuel
      induction fuel with
      | zero => intro c h; exact absurd h (Nat.not_lt_zero _)
      | succ fuel ih32 =>
        intro c hm hc hc6
        refine a_iload (pc := 32) (i := 9) (x := (c : Int)) hC (by decide +kernel) 0 rfl ?_
        refine a_iconst (pc := 34) (c := 5) hC (by decide +kernel) ?_
        refine a_icmp_gt (pc := 35) (off := 49) hC 84 (by decide +kernel) (by decide) (by unfold inI; omega) (by unfold inI; omega) (fun c35 => ?_) (fun c35 => ?_)
        · skip
          exact g_vret (pc := 84) hC hE (by decide +kernel) (by rw [show c = 6 by omega])
        · skip
          refine a_lload (pc := 38) (i := 5) (x := G (eo + 2 + pv) pv) hC (by decide +kernel) 2 rfl ?_
          refine a_aload_n (pc := 40) (q := 0) (i := 0) (x := eo) hC (by decide +kernel) rfl 3 rfl ?_
          refine g_get (pc := 41) (idx := 11) (ci := 0) (v := .ref (eo + 1)) hC eo 0 (by decide +kernel) so.1 rfl rfl rfl wrE (by decide) rfl (by decide +kernel) ?_
          refine a_iload_n (pc := 44) (q := 1) (i := 1) (x := (row : Int)) hC (by decide +kernel) rfl 4 rfl ?_
          refine g_aaldL (pc := 45) (a := eo + 1) (j := row) hC hty (by decide +kernel) so.2.1 (by omega) (by first | decide | omega) ?_
          refine a_iload (pc := 46) (i := 9) (x := (c : Int)) hC (by decide +kernel) 0 rfl ?_
          refine g_lald (pc := 48) (a := eo + 2 + row) (j := c) hC hty (by decide +kernel) (so.2.2 row (by omega)) (by omega) (by first | decide | omega) ?_
          refine g_topl (y := G (eo + 2 + row) c) (by rw [uG_s]; exact elimF_hi (Nat.le_refl _)) ?_
          refine a_lmul (pc := 49) hC (by decide +kernel) ?_
          refine a_lload (pc := 50) (i := 7) (x := G (eo + 2 + row) pv) hC (by decide +kernel) 1 rfl ?_
          refine a_aload_n (pc := 52) (q := 0) (i := 0) (x := eo) hC (by decide +kernel) rfl 3 rfl ?_
          refine g_get (pc := 53) (idx := 11) (ci := 0) (v := .ref (eo + 1)) hC eo 0 (by decide +kernel) so.1 rfl rfl rfl wrE (by decide) rfl (by decide +kernel) ?_
          refine a_iload_n (pc := 56) (q := 2) (i := 2) (x := (pv : Int)) hC (by decide +kernel) rfl 5 rfl ?_
          refine g_aaldL (pc := 57) (a := eo + 1) (j := pv) hC hty (by decide +kernel) so.2.1 (by omega) (by first | decide | omega) ?_
          refine a_iload (pc := 58) (i := 9) (x := (c : Int)) hC (by decide +kernel) 0 rfl ?_
          refine g_lald (pc := 60) (a := eo + 2 + pv) (j := c) hC hty (by decide +kernel) (so.2.2 pv (by omega)) (by omega) (by first | decide | omega) ?_
          refine g_topl (y := G (eo + 2 + pv) c) (by rw [uG_n _ _ (by omega)]) ?_
          refine a_lmul (pc := 61) hC (by decide +kernel) ?_
          refine a_lsub (pc := 62) hC (by decide +kernel) ?_
          refine a_lstore (pc := 63) (q := 0) (i := 10) (lv' := [(10, vl (((G (eo + 2 + pv) pv) * (G (eo + 2 + row) c)) - ((G (eo + 2 + row) pv) * (G (eo + 2 + pv) c)))), (9, vi ((c : Int))), (7, vl (G (eo + 2 + row) pv)), (5, vl (G (eo + 2 + pv) pv)), (0, .ref eo), (1, vi ((row : Int))), (2, vi ((pv : Int))), (3, vl bf)]) hC (by decide +kernel) (by decide) rfl ?_
          refine a_aload_n (pc := 65) (q := 0) (i := 0) (x := eo) hC (by decide +kernel) rfl 4 rfl ?_
          refine g_get (pc := 66) (idx := 11) (ci := 0) (v := .ref (eo + 1)) hC eo 0 (by decide +kernel) so.1 rfl rfl rfl wrE (by decide) rfl (by decide +kernel) ?_
          refine a_iload_n (pc := 69) (q := 1) (i := 1) (x := (row : Int)) hC (by decide +kernel) rfl 5 rfl ?_
          refine g_aaldL (pc := 70) (a := eo + 1) (j := row) hC hty (by decide +kernel) so.2.1 (by omega) (by first | decide | omega) ?_
          refine a_iload (pc := 71) (i := 9) (x := (c : Int)) hC (by decide +kernel) 1 rfl ?_
          refine a_lload (pc := 73) (i := 10) (x := ((G (eo + 2 + pv) pv) * (G (eo + 2 + row) c)) - ((G (eo + 2 + row) pv) * (G (eo + 2 + pv) c))) hC (by decide +kernel) 0 rfl ?_
          refine a_lload_n (pc := 75) (q := 3) (i := 3) (x := bf) hC (by decide +kernel) rfl 7 rfl ?_
          refine a_ldiv (pc := 76) hC (by decide +kernel) (hr c (by omega) (by omega)) hbi hb ?_
          refine g_last (pc := 77) (a := eo + 2 + row) (j := c) (x := Int.tdiv (((G (eo + 2 + pv) pv) * (G (eo + 2 + row) c)) - ((G (eo + 2 + row) pv) * (G (eo + 2 + pv) c))) bf) hC hty (by decide +kernel) (so.2.2 row (by omega)) (by omega) (by first | decide | omega) ?_
          refine a_iinc (pc := 78) (i := 9) (c := 1) (x := (c : Int)) (lv' := [(9, vi (((c : Int)) + 1)), (10, vl (((G (eo + 2 + pv) pv) * (G (eo + 2 + row) c)) - ((G (eo + 2 + row) pv) * (G (eo + 2 + pv) c)))), (7, vl (G (eo + 2 + row) pv)), (5, vl (G (eo + 2 + pv) pv)), (0, .ref eo), (1, vi ((row : Int))), (2, vi ((pv : Int))), (3, vl bf)]) hC (by decide +kernel) 1 rfl (by decide) rfl ?_
          refine a_goto (pc := 81) (off := -49) hC 32 (by decide +kernel) (by decide) ?_
          refine a_sub (lv' := [(9, vi (((c + 1) : Int))), (7, vl (G (eo + 2 + row) pv)), (5, vl (G (eo + 2 + pv) pv)), (0, .ref eo), (1, vi ((row : Int))), (2, vi ((pv : Int))), (3, vl bf)]) [0, 2, 3, 4, 5, 6, 7] rfl ?_
          refine g_G (G' := uG G (eo + 2 + row) (elimF (G (eo + 2 + row)) (G (eo + 2 + pv)) pv bf (c + 1))) (by rw [uG_s, uG_uG, elimF_s hc]) ?_
          exact ih32 (c + 1) (by omega) (by omega) (by omega)
    refine a_sub (lv' := [(9, vi (((pv + 1) : Int))), (7, vl (G (eo + 2 + row) pv)), (5, vl (G (eo + 2 + pv) pv)), (0, .ref eo), (1, vi ((row : Int))), (2, vi ((pv : Int))), (3, vl bf)]) [0, 1, 2, 3, 4, 5, 6] rfl ?_
    refine g_G (G' := uG G (eo + 2 + row) (elimF (G (eo + 2 + row)) (G (eo + 2 + pv)) pv bf (pv + 1))) (by rw [elimF_0, uG_self]) ?_
    exact L32 _ (pv + 1) (Nat.lt_succ_self _) (by omega) (by omega)
  · skip
    rw [cmpZ_eq] at c3
    exact absurd c3 hb

set_option maxRecDepth 100000 in
set_option maxHeartbeats 4000000 in
theorem ct_E_solve (l : Launch) (D : va_G) (K : K5) (G : GT) (eo n u : Nat) (so : ShE eo) (su : ShU u) (hn5 : n ≤ 5) (hu : eo + 2 + 5 ≤ u ∨ u + 2 ≤ eo) (hok : SolOk G eo n) : Ct l D K y_E_solve c_E_solve 7 none 1 31 [.ref eo, vi ((n : Int)), .ref u] G none (solG G eo u n) := by
  refine Ct.intro (by decide +kernel) (Nat.le_of_ble_eq_true rfl) ?_
  intro X hro hty hC hE
  refine a_lconst (pc := 0) (c := 1) (z := 1) hC (by decide +kernel) rfl ?_
  refine a_lstore_n (pc := 1) (q := 3) (i := 3) (lv' := [(3, vl 1), (0, .ref eo), (1, vi ((n : Int))), (2, .ref u)]) hC (by decide +kernel) rfl (by decide) rfl ?_
  refine a_iconst (pc := 2) (c := 0) hC (by decide +kernel) ?_
  refine a_istore (pc := 3) (q := 0) (i := 5) (lv' := [(5, vi 0), (3, vl 1), (0, .ref eo), (1, vi ((n : Int))), (2, .ref u)]) hC (by decide +kernel) (by decide) rfl ?_
  have L5 : ∀ (fuel : Nat) (p : Nat), n - p < fuel → p ≤ n → AW X 7 0 0 5 [(5, vi ((p : Int))), (3, vl ((solS G eo n p).2)), (0, .ref eo), (1, vi ((n : Int))), (2, .ref u)] [] (hp K ((solS G eo n p).1)) := by
    intro fuel
    induction fuel with
    | zero => intro p h; exact absurd h (Nat.not_lt_zero _)
    | succ fuel ih5 =>
      intro p hm hp5
      refine a_iload (pc := 5) (i := 5) (x := (p : Int)) hC (by decide +kernel) 0 rfl ?_
      refine a_iload_n (pc := 7) (q := 1) (i := 1) (x := (n : Int)) hC (by decide +kernel) rfl 3 rfl ?_
      refine a_icmp_ge (pc := 8) (off := 55) hC 63 (by decide +kernel) (by decide) (by unfold inI; omega) (by unfold inI; omega) (fun c8 => ?_) (fun c8 => ?_)
      · skip
        refine a_iconst (pc := 63) (c := 0) hC (by decide +kernel) ?_
        refine a_istore (pc := 64) (q := 0) (i := 5) (lv' := [(5, vi 0), (3, vl ((solS G eo n p).2)), (0, .ref eo), (1, vi ((n : Int))), (2, .ref u)]) hC (by decide +kernel) (by decide) rfl ?_
        have L66 : ∀ (fuel : Nat) (r : Nat), n - r < fuel → r ≤ n → AW X 7 0 0 66 [(5, vi ((r : Int))), (3, vl ((solS G eo n n).2)), (0, .ref eo), (1, vi ((n : Int))), (2, .ref u)] [] (hp K (uG (solS G eo n n).1 (u + 1) (cpF (solS G eo n n).1 eo u r))) := by
          intro fuel
          induction fuel with
          | zero => intro r h; exact absurd h (Nat.not_lt_zero _)
          | succ fuel ih66 =>
            intro r hm hr
            refine a_iload (pc := 66) (i := 5) (x := (r : Int)) hC (by decide +kernel) 0 rfl ?_
            refine a_iload_n (pc := 68) (q := 1) (i := 1) (x := (n : Int)) hC (by decide +kernel) rfl 3 rfl ?_
            refine a_icmp_ge (pc := 69) (off := 25) hC 94 (by decide +kernel) (by decide) (by unfold inI; omega) (by unfold inI; omega) (fun c69 => ?_) (fun c69 => ?_)
            · skip
              refine a_aload_n (pc := 94) (q := 2) (i := 2) (x := u) hC (by decide +kernel) rfl 4 rfl ?_
              refine a_lload_n (pc := 95) (q := 3) (i := 3) (x := (solS G eo n n).2) hC (by decide +kernel) rfl 1 rfl ?_
              refine g_putN (pc := 96) (idx := 38) (ci := 2) (x := (solS G eo n n).2) (host := "PlanValues") hC u 1 (by decide +kernel) su.1 rfl (congrArg (fun z => vl z) (up_s _ _ _)) rfl wrU (by decide) rfl (by decide +kernel) rfl (ok_long _) ?_
              exact g_vret (pc := 99) hC hE (by decide +kernel) (by rw [show r = n by omega]; unfold solG; rw [uG_n _ _ (by omega)])
            · skip
              refine a_aload_n (pc := 72) (q := 2) (i := 2) (x := u) hC (by decide +kernel) rfl 4 rfl ?_
              refine g_getN (pc := 73) (idx := 32) (ci := 2) (v := .ref (u + 1)) (host := "PlanValues") hC u 0 (by decide +kernel) su.1 rfl rfl rfl wrU (by decide) rfl (by decide +kernel) ?_
              refine a_iload (pc := 76) (i := 5) (x := (r : Int)) hC (by decide +kernel) 0 rfl ?_
              refine a_aload_n (pc := 78) (q := 0) (i := 0) (x := eo) hC (by decide +kernel) rfl 2 rfl ?_
              refine g_get (pc := 79) (idx := 11) (ci := 0) (v := .ref (eo + 1)) hC eo 0 (by decide +kernel) so.1 rfl rfl rfl wrE (by decide) rfl (by decide +kernel) ?_
              refine a_iload (pc := 82) (i := 5) (x := (r : Int)) hC (by decide +kernel) 0 rfl ?_
              refine g_aaldL (pc := 84) (a := eo + 1) (j := r) hC hty (by decide +kernel) so.2.1 (by omega) (by first | decide | omega) ?_
              refine a_iconst (pc := 85) (c := 5) hC (by decide +kernel) ?_
              refine g_top (y := ((5 : Nat) : Int)) (by omega) ?_
              refine g_lald (pc := 86) (a := eo + 2 + r) (j := 5) hC hty (by decide +kernel) (so.2.2 r (by omega)) (by omega) (by first | decide | omega) ?_
              refine g_topl (y := (solS G eo n n).1 (eo + 2 + r) 5) (by rw [uG_n _ _ (by omega)]) ?_
              refine g_last (pc := 87) (a := u + 1) (j := r) (x := (solS G eo n n).1 (eo + 2 + r) 5) hC hty (by decide +kernel) su.2 (by omega) (by first | decide | omega) ?_
              refine a_iinc (pc := 88) (i := 5) (c := 1) (x := (r : Int)) (lv' := [(5, vi (((r : Int)) + 1)), (3, vl ((solS G eo n n).2)), (0, .ref eo), (1, vi ((n : Int))), (2, .ref u)]) hC (by decide +kernel) 0 rfl (by decide) rfl ?_
              refine a_goto (pc := 91) (off := -25) hC 66 (by decide +kernel) (by decide) ?_
              refine a_sub (lv' := [(5, vi (((r + 1) : Int))), (3, vl ((solS G eo n n).2)), (0, .ref eo), (1, vi ((n : Int))), (2, .ref u)]) [0, 1, 2, 3, 4] rfl ?_
              refine g_G (G' := uG (solS G eo n n).1 (u + 1) (cpF (solS G eo n n).1 eo u (r + 1))) (by rw [uG_s, uG_uG, cpF_s]) ?_
              exact ih66 (r + 1) (by omega) (by omega)
        refine a_sub (lv' := [(5, vi ((0 : Int))), (3, vl ((solS G eo n n).2)), (0, .ref eo), (1, vi ((n : Int))), (2, .ref u)]) [0, 1, 2, 3, 4] (by rw [show p = n by omega]; rfl) ?_
        refine g_G (G' := uG (solS G eo n n).1 (u + 1) (cpF (solS G eo n n).1 eo u 0)) (by rw [show p = n by omega, cpF_0, uG_self]) ?_
        exact L66 _ 0 (Nat.lt_succ_self _) (by omega)
      · skip
        refine a_iconst (pc := 11) (c := 0) hC (by decide +kernel) ?_
        refine a_istore (pc := 12) (q := 0) (i := 6) (lv' := [(6, vi 0), (5, vi ((p : Int))), (3, vl ((solS G eo n p).2)), (0, .ref eo), (1, vi ((n : Int))), (2, .ref u)]) hC (by decide +kernel) (by decide) rfl ?_
        have L14 : ∀ (fuel : Nat) (i : Nat), n - i < fuel → i ≤ n → AW X 7 0 0 14 [(6, vi ((i : Int))), (5, vi ((p : Int))), (3, vl ((solS G eo n p).2)), (0, .ref eo), (1, vi ((n : Int))), (2, .ref u)] [] (hp K (elG (solS G eo n p).1 eo p (solS G eo n p).2 i)) := by
          intro fuel
          induction fuel with
          | zero => intro i h; exact absurd h (Nat.not_lt_zero _)
          | succ fuel ih14 =>
            intro i hm hi
            have hok2 := hok p (by omega)
            refine a_iload (pc := 14) (i := 6) (x := (i : Int)) hC (by decide +kernel) 0 rfl ?_
            refine a_iload_n (pc := 16) (q := 1) (i := 1) (x := (n : Int)) hC (by decide +kernel) rfl 4 rfl ?_
            refine a_icmp_ge (pc := 17) (off := 25) hC 42 (by decide +kernel) (by decide) (by unfold inI; omega) (by unfold inI; omega) (fun c17 => ?_) (fun c17 => ?_)
            · skip
              refine a_lconst (pc := 42) (c := 1) (z := 1) hC (by decide +kernel) rfl ?_
              refine a_aload_n (pc := 43) (q := 0) (i := 0) (x := eo) hC (by decide +kernel) rfl 3 rfl ?_
              refine g_get (pc := 44) (idx := 11) (ci := 0) (v := .ref (eo + 1)) hC eo 0 (by decide +kernel) so.1 rfl rfl rfl wrE (by decide) rfl (by decide +kernel) ?_
              refine a_iload (pc := 47) (i := 5) (x := (p : Int)) hC (by decide +kernel) 1 rfl ?_
              refine g_aaldL (pc := 49) (a := eo + 1) (j := p) hC hty (by decide +kernel) so.2.1 (by omega) (by first | decide | omega) ?_
              refine a_iload (pc := 50) (i := 5) (x := (p : Int)) hC (by decide +kernel) 1 rfl ?_
              refine g_lald (pc := 52) (a := eo + 2 + p) (j := p) hC hty (by decide +kernel) (so.2.2 p (by omega)) (by omega) (by first | decide | omega) ?_
              refine g_topl (y := (solS G eo n p).1 (eo + 2 + p) p) (by rw [elG_p]) ?_
              refine g_callS (pc := 53) (idx := 26) (av := [vl 1, vl ((solS G eo n p).1 (eo + 2 + p) p)]) (rest := []) (g := elG (solS G eo n p).1 eo p (solS G eo n p).2 i) (v := vl (maxZ 1 ((solS G eo n p).1 (eo + 2 + p) p))) hC hro hty (by decide +kernel) k_JM_max_JJ (by decide +kernel) (by decide +kernel) (ct_JM_max_JJ X.la X.dd K (elG (solS G eo n p).1 eo p (solS G eo n p).2 i) 1 ((solS G eo n p).1 (eo + 2 + p) p) ⟨by decide, by decide⟩ (hok p (by omega)).2.1) rfl rfl (by decide) (by first | decide | simp [Value.category]) ?_
              refine a_lstore_n (pc := 56) (q := 3) (i := 3) (lv' := [(3, vl (maxZ 1 ((solS G eo n p).1 (eo + 2 + p) p))), (6, vi ((i : Int))), (5, vi ((p : Int))), (0, .ref eo), (1, vi ((n : Int))), (2, .ref u)]) hC (by decide +kernel) rfl (by decide) rfl ?_
              refine a_iinc (pc := 57) (i := 5) (c := 1) (x := (p : Int)) (lv' := [(5, vi (((p : Int)) + 1)), (3, vl (maxZ 1 ((solS G eo n p).1 (eo + 2 + p) p))), (6, vi ((i : Int))), (0, .ref eo), (1, vi ((n : Int))), (2, .ref u)]) hC (by decide +kernel) 2 rfl (by decide) rfl ?_
              refine a_goto (pc := 60) (off := -55) hC 5 (by decide +kernel) (by decide) ?_
              refine a_sub (lv' := [(5, vi (((p + 1) : Int))), (3, vl ((solS G eo n (p + 1)).2)), (0, .ref eo), (1, vi ((n : Int))), (2, .ref u)]) [0, 1, 3, 4, 5] rfl ?_
              refine g_G (G' := (solS G eo n (p + 1)).1) (by rw [show i = n by omega]; rfl) ?_
              exact ih5 (p + 1) (by omega) (by omega)
            · skip
              refine a_iload (pc := 20) (i := 6) (x := (i : Int)) hC (by decide +kernel) 0 rfl ?_
              refine a_iload (pc := 22) (i := 5) (x := (p : Int)) hC (by decide +kernel) 1 rfl ?_
              refine a_icmp_eq (pc := 24) (off := 12) hC 36 (by decide +kernel) (by decide) (by unfold inI; omega) (by unfold inI; omega) (fun c24 => ?_) (fun c24 => ?_)
              · skip
                have hip : i = p := by omega
                refine a_iinc (pc := 36) (i := 6) (c := 1) (x := (i : Int)) (lv' := [(6, vi (((i : Int)) + 1)), (5, vi ((p : Int))), (3, vl ((solS G eo n p).2)), (0, .ref eo), (1, vi ((n : Int))), (2, .ref u)]) hC (by decide +kernel) 0 rfl (by decide) rfl ?_
                refine a_goto (pc := 39) (off := -25) hC 14 (by decide +kernel) (by decide) ?_
                refine a_sub (lv' := [(6, vi (((i + 1) : Int))), (5, vi ((p : Int))), (3, vl ((solS G eo n p).2)), (0, .ref eo), (1, vi ((n : Int))), (2, .ref u)]) [0, 1, 2, 3, 4, 5] rfl ?_
                refine g_G (G' := elG (solS G eo n p).1 eo p (solS G eo n p).2 (i + 1)) (by first | exact elG_s (fun e => c24 (by omega)) | (rw [hip]; exact elG_skip.symm)) ?_
                exact ih14 (i + 1) (by omega) (by omega)
              · skip
                refine a_aload_n (pc := 27) (q := 0) (i := 0) (x := eo) hC (by decide +kernel) rfl 3 rfl ?_
                refine a_iload (pc := 28) (i := 6) (x := (i : Int)) hC (by decide +kernel) 0 rfl ?_
                refine a_iload (pc := 30) (i := 5) (x := (p : Int)) hC (by decide +kernel) 1 rfl ?_
                refine a_lload_n (pc := 32) (q := 3) (i := 3) (x := (solS G eo n p).2) hC (by decide +kernel) rfl 2 rfl ?_
                refine g_callV0 (pc := 33) (idx := 22) (i := eo) (av := [vi ((i : Int)), vi ((p : Int)), vl ((solS G eo n p).2)]) (rest := []) (g := uG (elG (solS G eo n p).1 eo p (solS G eo n p).2 i) (eo + 2 + i) (elimF ((elG (solS G eo n p).1 eo p (solS G eo n p).2 i) (eo + 2 + i)) ((elG (solS G eo n p).1 eo p (solS G eo n p).2 i) (eo + 2 + p)) p (solS G eo n p).2 6)) hC hro hty (by decide +kernel) rfl so.1 k_E_eliminate (by decide +kernel) (by decide +kernel) (by decide +kernel) (ct_E_eliminate X.la X.dd K (elG (solS G eo n p).1 eo p (solS G eo n p).2 i) eo i p (solS G eo n p).2 so (by omega) (by omega) (fun e => c24 (by omega)) (hok p (by omega)).1 (solS_bf _ _ _ _) (fun c h1 h2 => by rw [elG_p, elG_hi (Nat.le_refl _)]; exact (hok p (by omega)).2.2 i c (by omega) (fun e => c24 (by omega)) h1 h2)) rfl rfl (by decide) (by first | decide | simp [Value.category]) ?_
                refine a_iinc (pc := 36) (i := 6) (c := 1) (x := (i : Int)) (lv' := [(6, vi (((i : Int)) + 1)), (5, vi ((p : Int))), (3, vl ((solS G eo n p).2)), (0, .ref eo), (1, vi ((n : Int))), (2, .ref u)]) hC (by decide +kernel) 0 rfl (by decide) rfl ?_
                refine a_goto (pc := 39) (off := -25) hC 14 (by decide +kernel) (by decide) ?_
                refine a_sub (lv' := [(6, vi (((i + 1) : Int))), (5, vi ((p : Int))), (3, vl ((solS G eo n p).2)), (0, .ref eo), (1, vi ((n : Int))), (2, .ref u)]) [0, 1, 2, 3, 4, 5] rfl ?_
                refine g_G (G' := elG (solS G eo n p).1 eo p (solS G eo n p).2 (i + 1)) (by first | exact elG_s (fun e => c24 (by omega)) | (rw [hip]; exact elG_skip.symm)) ?_
                exact ih14 (i + 1) (by omega) (by omega)
        refine a_sub (lv' := [(6, vi ((0 : Int))), (5, vi ((p : Int))), (3, vl ((solS G eo n p).2)), (0, .ref eo), (1, vi ((n : Int))), (2, .ref u)]) [0, 1, 2, 3, 4, 5] rfl ?_
        refine g_G (G' := elG (solS G eo n p).1 eo p (solS G eo n p).2 0) (elG_0 _ _ _ _).symm ?_
        exact L14 _ 0 (Nat.lt_succ_self _) (by omega)
  refine a_sub (lv' := [(5, vi ((0 : Int))), (3, vl ((solS G eo n 0).2)), (0, .ref eo), (1, vi ((n : Int))), (2, .ref u)]) [0, 1, 2, 3, 4] rfl ?_
  refine g_G (G' := (solS G eo n 0).1) rfl ?_
  exact L5 _ 0 (Nat.lt_succ_self _) (by omega)
