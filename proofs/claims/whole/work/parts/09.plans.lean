/-! PlanWorths: plans made better -/
theorem comesZ_congr {G G' : GT} {N sl u : Nat} (h : ∀ b, b ≤ 21 → G' b = G b) (hu : G' u = G u) (hu1 : G' (u + 1) = G (u + 1)) (hs : sl < 15) : comesZ G' N sl u = comesZ G N sl u := by
  unfold comesZ stepZ
  rw [h 5 (by omega), h 4 (by omega), h 1 (by omega), h (7 + sl) (by omega), hu, hu1]
theorem likS_congr {G G' : GT} {N s held u : Nat} (h : ∀ b, b ≤ 21 → G' b = G b) (hu : G' u = G u) (hu1 : G' (u + 1) = G (u + 1)) (hs : s < 5) (hh : held < 3) : ∀ a, a ≤ 3 → likS G' N s held u a = likS G N s held u a
  | 0, _ => by unfold likS; rw [comesZ_congr h hu hu1 (by omega)]
  | a + 1, ha => by
    unfold likS
    rw [likS_congr h hu hu1 hs hh a (by omega), comesZ_congr h hu hu1 (by omega)]
    unfold likesZ
    rw [h 2 (by omega)]
/-- the act that a state's side likes best by the worths' numbers, beside the plan's own -/
def likP (G : GT) (pl N s : Nat) : Int := (likS G N s (G pl s).toNat 30 (G 3 s).toNat).1
def impP (G : GT) (pl N : Nat) (b : Int) (i : Nat) : Nat → Int := fun s => if s < i ∧ G 2 s = b then likP G pl N s else G pl s
def impG (G : GT) (pl N : Nat) (b : Int) (i : Nat) : GT := uG G pl (impP G pl N b i)
def betS (G : GT) (pl N : Nat) (b : Int) : Nat → Int
  | 0 => 0
  | s + 1 => if G 2 s = b ∧ likP G pl N s ≠ G pl s then 1 else betS G pl N b s
theorem betS_01 (G : GT) (pl N : Nat) (b : Int) : ∀ s, betS G pl N b s = 0 ∨ betS G pl N b s = 1
  | 0 => Or.inl rfl
  | s + 1 => by unfold betS; split; exact Or.inr rfl; exact betS_01 G pl N b s
theorem impG_0 (G : GT) (pl N : Nat) (b : Int) : impG G pl N b 0 = G := by
  unfold impG
  have : impP G pl N b 0 = G pl := by funext s; exact if_neg (by omega)
  rw [this, uG_self]
theorem impG_off {G : GT} {pl N : Nat} {b : Int} {i c : Nat} (h : c ≠ pl) : impG G pl N b i c = G c := uG_n _ _ h
theorem impG_at (G : GT) (pl N : Nat) (b : Int) (i s : Nat) (h : i ≤ s) : impG G pl N b i pl s = G pl s := by
  unfold impG; rw [uG_s]; exact if_neg (by omega)
theorem impG_skip {G : GT} {pl N : Nat} {b : Int} {s : Nat} (h : ¬ G 2 s = b) : impG G pl N b s = impG G pl N b (s + 1) := by
  unfold impG; congr 1; funext z; unfold impP
  by_cases hz : z < s ∧ G 2 z = b
  · rw [if_pos hz, if_pos (by omega)]
  · rw [if_neg hz]
    by_cases h2 : z = s
    · subst h2; rw [if_neg (fun q => h q.2)]
    · rw [if_neg (fun q => hz ⟨by omega, q.2⟩)]
theorem impG_s {G : GT} {pl N : Nat} {b : Int} {s : Nat} (h : G 2 s = b) : uG (impG G pl N b s) pl (up (impG G pl N b s pl) s (likP G pl N s)) = impG G pl N b (s + 1) := by
  unfold impG; rw [uG_s, uG_uG]; congr 1; funext z
  by_cases hz : z = s
  · subst hz; rw [up_s]; unfold impP; rw [if_pos ⟨by omega, h⟩]
  · rw [up_n _ _ hz]; unfold impP
    by_cases h2 : z < s ∧ G 2 z = b
    · rw [if_pos h2, if_pos ⟨by omega, h2.2⟩]
    · rw [if_neg h2, if_neg (fun q => h2 ⟨by omega, q.2⟩)]
theorem impG_same {G : GT} {pl N : Nat} {b : Int} {s : Nat} (h : likP G pl N s = G pl s) : impG G pl N b s = impG G pl N b (s + 1) := by
  unfold impG; congr 1; funext z; unfold impP
  by_cases hz : z < s ∧ G 2 z = b
  · rw [if_pos hz, if_pos ⟨by omega, hz.2⟩]
  · rw [if_neg hz]
    by_cases h2 : z = s
    · subst h2
      by_cases h3 : G 2 z = b
      · rw [if_pos ⟨by omega, h3⟩, h]
      · rw [if_neg (fun q => h3 q.2)]
    · rw [if_neg (fun q => hz ⟨by omega, q.2⟩)]
/-- what all acts come to fits a long -/
def ComOk (G : GT) (N u : Nat) : Prop := ∀ q, q < 15 → inL (comesZ G N q u)
theorem likP_in {G : GT} {pl N s : Nat} (hw : WW G N) (hpl : PlOk G pl N) (hs : s < N) (hc : ComOk G N 30) : 0 ≤ likP G pl N s ∧ likP G pl N s < 3 := by
  obtain ⟨hn, hN5, hsh, hac, hpa, hwe, hth⟩ := hw
  have h1 := hac s (by omega)
  have h2 := hpl.2 s hs
  exact (likS_in (A := (G 3 s).toNat) (by omega) (by omega) (fun a ha => hc (s * 3 + a) (by omega)) _ (Nat.le_refl _)).2

set_option maxRecDepth 100000 in
set_option maxHeartbeats 4000000 in
theorem ct_P_improve (l : Launch) (D : va_G) (K : K5) (G : GT) (pl N : Nat) (b : Int) (hb : b = 0 ∨ b = 1) (hw : WW G N) (hpl : PlOk G pl N) (hco : ComOk G N 30) : Ct l D K y_P_improve c_P_improve 7 (some .boolean) 3 77 [.ref 22, vi b, .ref 1, .ref pl] G (some (vi (betS G pl N b N))) (impG G pl N b N) := by
  refine Ct.intro (by decide +kernel) (Nat.le_of_ble_eq_true rfl) ?_
  intro X hro hty hC hE
  obtain ⟨hn, hN5, hsh, hac, hpa, hwe, hth⟩ := id hw
  have hplr := hpl.1
  refine a_iconst (pc := 0) (c := 0) hC (by decide +kernel) ?_
  refine a_istore (pc := 1) (q := 0) (i := 4) (lv' := [(4, vi 0), (0, .ref 22), (1, vi b), (2, .ref 1), (3, .ref pl)]) hC (by decide +kernel) (by decide) rfl ?_
  refine a_iconst (pc := 3) (c := 0) hC (by decide +kernel) ?_
  refine a_istore (pc := 4) (q := 0) (i := 5) (lv' := [(5, vi 0), (4, vi 0), (0, .ref 22), (1, vi b), (2, .ref 1), (3, .ref pl)]) hC (by decide +kernel) (by decide) rfl ?_
  have L6 : ∀ (fuel : Nat) (s : Nat), N - s < fuel → s ≤ N → AW X 7 0 0 6 [(5, vi ((s : Int))), (4, vi (betS G pl N b s)), (0, .ref 22), (1, vi b), (2, .ref 1), (3, .ref pl)] [] (hp K (impG G pl N b s)) := by
    intro fuel
    induction fuel with
    | zero => intro s h; exact absurd h (Nat.not_lt_zero _)
    | succ fuel ih6 =>
      intro s hm hs
      have hbe := betS_01 G pl N b s
      refine a_iload (pc := 6) (i := 5) (x := (s : Int)) hC (by decide +kernel) 0 rfl ?_
      refine a_aload_n (pc := 8) (q := 2) (i := 2) (x := 1) hC (by decide +kernel) rfl 4 rfl ?_
      refine g_getN (pc := 9) (idx := 28) (ci := 4) (v := vi ((impG G pl N b s) 1 0)) (host := "PlanValues") hC 1 0 (by decide +kernel) rfl rfl rfl rfl wrW (by decide) rfl (by decide +kernel) ?_
      refine g_top (y := (N : Int)) (by rw [impG_off (by omega)]; exact hn) ?_
      refine a_icmp_ge (pc := 12) (off := 54) hC 66 (by decide +kernel) (by decide) (by unfold inI; omega) (by unfold inI; omega) (fun c12 => ?_) (fun c12 => ?_)
      · skip
        refine a_iload (pc := 66) (i := 4) (x := betS G pl N b s) hC (by decide +kernel) 1 rfl ?_
        exact g_zret (pc := 68) hC hE (by decide +kernel) (by omega) (by rw [show s = N by omega]) (by rw [show s = N by omega])
      · skip
        have hts := hth s (by omega)
        refine a_aload_n (pc := 15) (q := 2) (i := 2) (x := 1) hC (by decide +kernel) rfl 4 rfl ?_
        refine g_getN (pc := 16) (idx := 68) (ci := 4) (v := .ref 2) (host := "PlanValues") hC 1 3 (by decide +kernel) rfl rfl rfl rfl wrW (by decide) rfl (by decide +kernel) ?_
        refine a_iload (pc := 19) (i := 5) (x := (s : Int)) hC (by decide +kernel) 0 rfl ?_
        refine g_zald (pc := 21) (a := 2) (j := s) hC hty (by decide +kernel) rfl (by omega) (by first | decide | omega) ?_
        refine g_top (y := G 2 s) (by rw [impG_off (by omega)]) ?_
        refine a_iload_n (pc := 22) (q := 1) (i := 1) (x := b) hC (by decide +kernel) rfl 3 rfl ?_
        refine a_icmp_ne (pc := 23) (off := 37) hC 60 (by decide +kernel) (by decide) (by unfold inI; omega) (by unfold inI; omega) (fun c23 => ?_) (fun c23 => ?_)
        · skip
          have hbs : betS G pl N b s = betS G pl N b (s + 1) := by show _ = (if _ then _ else _); rw [if_neg (fun q => c23 q.1)]
          refine a_iinc (pc := 60) (i := 5) (c := 1) (x := (s : Int)) (lv' := [(5, vi (((s : Int)) + 1)), (4, vi (betS G pl N b s)), (0, .ref 22), (1, vi b), (2, .ref 1), (3, .ref pl)]) hC (by decide +kernel) 0 rfl (by decide) rfl ?_
          refine a_goto (pc := 63) (off := -57) hC 6 (by decide +kernel) (by decide) ?_
          refine a_sub (lv' := [(5, vi (((s + 1) : Int))), (4, vi (betS G pl N b (s + 1))), (0, .ref 22), (1, vi b), (2, .ref 1), (3, .ref pl)]) [0, 1, 2, 3, 4, 5] (by rw [← hbs]; rfl) ?_
          refine g_G (G' := impG G pl N b (s + 1)) (by first | exact impG_skip c23 | exact impG_same c48 | exact impG_s c23) ?_
          exact ih6 (s + 1) (by omega) (by omega)
        · skip
          obtain ⟨h, hh, hh3⟩ : ∃ h : Nat, G pl s = (h : Int) ∧ h < 3 := ⟨(G pl s).toNat, by have := hpl.2 s (by omega); omega, by have := hpl.2 s (by omega); omega⟩
          obtain ⟨A, hA⟩ : ∃ A : Nat, G 3 s = (A : Int) := ⟨(G 3 s).toNat, by have := hac s (by omega); omega⟩
          have hA3 := hac s (by omega)
          have hlp : likP G pl N s = (likS G N s h 30 A).1 := by unfold likP; rw [hh, hA]; rfl
          have hli := likP_in hw hpl (by omega : s < N) hco
          refine a_aload_n (pc := 26) (q := 2) (i := 2) (x := 1) hC (by decide +kernel) rfl 4 rfl ?_
          refine a_iload (pc := 27) (i := 5) (x := (s : Int)) hC (by decide +kernel) 0 rfl ?_
          refine a_aload_n (pc := 29) (q := 3) (i := 3) (x := pl) hC (by decide +kernel) rfl 5 rfl ?_
          refine a_iload (pc := 30) (i := 5) (x := (s : Int)) hC (by decide +kernel) 0 rfl ?_
          refine g_iald (pc := 32) (a := pl) (j := s) hC hty (by decide +kernel) hpl.sh (by omega) (by first | decide | omega) ?_
          refine g_top (y := (h : Int)) (by rw [impG_at _ _ _ _ _ _ (Nat.le_refl _)]; exact hh) ?_
          refine a_aload_n (pc := 33) (q := 0) (i := 0) (x := 22) hC (by decide +kernel) rfl 2 rfl ?_
          refine g_get (pc := 34) (idx := 21) (ci := 3) (v := .ref 30) hC 22 1 (by decide +kernel) rfl rfl rfl rfl wrP (by decide) rfl (by decide +kernel) ?_
          have hcg : ∀ c, c ≤ 45 → impG G pl N b s c = G c := fun c hc => impG_off (by omega)
          have hlk := likS_congr (N := N) (s := s) (held := h) (u := 30) (fun c hc => hcg c (by omega)) (hcg 30 (by omega)) (hcg 31 (by omega)) (by omega) (by omega) A (by omega)
          refine g_callVN (pc := 37) (idx := 72) (i := 1) (av := [vi ((s : Int)), vi ((h : Int)), .ref 30]) (rest := []) (g := impG G pl N b s) (v := vi ((likS (impG G pl N b s) N s h 30 A).1)) (host := "PlanValues") hC hro hty (by decide +kernel) rfl rfl k_W_likedAct (by decide +kernel) (by decide +kernel) (by decide +kernel) (ct_W_likedAct X.la X.dd K (impG G pl N b s) N s h 30 A (by omega) (by omega) (by rw [hcg 3 (by omega)]; exact hA) rfl rfl (hw.keep (fun c hc => hcg c (by omega))) (fun a ha => by rw [comesZ_congr (fun c hc => hcg c (by omega)) (hcg 30 (by omega)) (hcg 31 (by omega)) (by omega)]; exact hco (s * 3 + a) (by omega))) rfl rfl (by decide) (by first | decide | simp [Value.category]) ?_
          refine g_top (y := likP G pl N s) (by rw [hlk, hlp]) ?_
          refine a_istore (pc := 40) (q := 0) (i := 6) (lv' := [(6, vi (likP G pl N s)), (5, vi ((s : Int))), (4, vi (betS G pl N b s)), (0, .ref 22), (1, vi b), (2, .ref 1), (3, .ref pl)]) hC (by decide +kernel) (by decide) rfl ?_
          refine a_iload (pc := 42) (i := 6) (x := likP G pl N s) hC (by decide +kernel) 0 rfl ?_
          refine a_aload_n (pc := 44) (q := 3) (i := 3) (x := pl) hC (by decide +kernel) rfl 6 rfl ?_
          refine a_iload (pc := 45) (i := 5) (x := (s : Int)) hC (by decide +kernel) 1 rfl ?_
          refine g_iald (pc := 47) (a := pl) (j := s) hC hty (by decide +kernel) hpl.sh (by omega) (by first | decide | omega) ?_
          refine g_top (y := G pl s) (by rw [impG_at _ _ _ _ _ _ (Nat.le_refl _)]) ?_
          refine a_icmp_eq (pc := 48) (off := 12) hC 60 (by decide +kernel) (by decide) (by unfold inI; omega) (by have := hpl.2 s (by omega); unfold inI; omega) (fun c48 => ?_) (fun c48 => ?_)
          · skip
            have hbs : betS G pl N b s = betS G pl N b (s + 1) := by show _ = (if _ then _ else _); rw [if_neg (fun q => q.2 c48)]
            refine a_iinc (pc := 60) (i := 5) (c := 1) (x := (s : Int)) (lv' := [(5, vi (((s : Int)) + 1)), (6, vi (likP G pl N s)), (4, vi (betS G pl N b s)), (0, .ref 22), (1, vi b), (2, .ref 1), (3, .ref pl)]) hC (by decide +kernel) 1 rfl (by decide) rfl ?_
            refine a_goto (pc := 63) (off := -57) hC 6 (by decide +kernel) (by decide) ?_
            refine a_sub (lv' := [(5, vi (((s + 1) : Int))), (4, vi (betS G pl N b (s + 1))), (0, .ref 22), (1, vi b), (2, .ref 1), (3, .ref pl)]) [0, 2, 3, 4, 5, 6] (by rw [← hbs]; rfl) ?_
            refine g_G (G' := impG G pl N b (s + 1)) (by first | exact impG_skip c23 | exact impG_same c48 | exact impG_s c23) ?_
            exact ih6 (s + 1) (by omega) (by omega)
          · skip
            have hbs : (1 : Int) = betS G pl N b (s + 1) := by show _ = (if _ then _ else _); rw [if_pos ⟨c23, c48⟩]
            refine a_aload_n (pc := 51) (q := 3) (i := 3) (x := pl) hC (by decide +kernel) rfl 6 rfl ?_
            refine a_iload (pc := 52) (i := 5) (x := (s : Int)) hC (by decide +kernel) 1 rfl ?_
            refine a_iload (pc := 54) (i := 6) (x := likP G pl N s) hC (by decide +kernel) 0 rfl ?_
            refine g_iast (pc := 56) (a := pl) (j := s) (x := likP G pl N s) hC hty (by decide +kernel) hpl.sh (by omega) (by first | decide | omega) ?_
            refine a_iconst (pc := 57) (c := 1) hC (by decide +kernel) ?_
            refine a_istore (pc := 58) (q := 0) (i := 4) (lv' := [(4, vi 1), (6, vi (likP G pl N s)), (5, vi ((s : Int))), (0, .ref 22), (1, vi b), (2, .ref 1), (3, .ref pl)]) hC (by decide +kernel) (by decide) rfl ?_
            refine a_iinc (pc := 60) (i := 5) (c := 1) (x := (s : Int)) (lv' := [(5, vi (((s : Int)) + 1)), (4, vi 1), (6, vi (likP G pl N s)), (0, .ref 22), (1, vi b), (2, .ref 1), (3, .ref pl)]) hC (by decide +kernel) 2 rfl (by decide) rfl ?_
            refine a_goto (pc := 63) (off := -57) hC 6 (by decide +kernel) (by decide) ?_
            refine a_sub (lv' := [(5, vi (((s + 1) : Int))), (4, vi (betS G pl N b (s + 1))), (0, .ref 22), (1, vi b), (2, .ref 1), (3, .ref pl)]) [0, 1, 3, 4, 5, 6] (by rw [← hbs]; rfl) ?_
            refine g_G (G' := impG G pl N b (s + 1)) (by first | exact impG_skip c23 | exact impG_same c48 | exact impG_s c23) ?_
            exact ih6 (s + 1) (by omega) (by omega)
  refine a_sub (lv' := [(5, vi ((0 : Int))), (4, vi (betS G pl N b 0)), (0, .ref 22), (1, vi b), (2, .ref 1), (3, .ref pl)]) [0, 1, 2, 3, 4, 5] rfl ?_
  refine g_G (G' := impG G pl N b 0) (impG_0 _ _ _ _).symm ?_
  exact L6 _ 0 (Nat.lt_succ_self _) (by omega)

/-- the rounds of replyBy: at most k -/
def repL (pl N : Nat) (b : Int) : Nat → GT → GT
  | 0, G => G
  | k + 1, G => if betS G pl N b N = 0 then impG G pl N b N else repL pl N b k (folR (impG G pl N b N) pl N)
def repG (G : GT) (pl N : Nat) (b : Int) : GT := repL pl N b 243 (folR G pl N)
def fvL (pl N : Nat) : Nat → GT → GT
  | 0, G => G
  | k + 1, G => if betS G pl N 0 N = 0 then impG G pl N 0 N else fvL pl N k (repG (impG G pl N 0 N) pl N 1)
def fvG (G : GT) (pl N : Nat) : GT := fvL pl N 243 (repG G pl N 1)
/-- what the arithmetic must give: by every plan nothing outgrows a long -/
def NumOk (G : GT) (N : Nat) : Prop := 1 ≤ G 30 1 ∧ G 30 1 ≤ 60466176 ∧ ∀ s, s < N → -18139852800 ≤ G 31 s ∧ G 31 s ≤ 18139852800
def MathOk : Prop := ∀ (G : GT) (pl N : Nat), WW G N → PlOk G pl N → SolOk (folG G pl N N) 23 N ∧ ComOk (folR G pl N) N 30 ∧ NumOk (folR G pl N) N
theorem solG_off {G : GT} {eo u n b : Nat} (h : b < eo + 2 ∨ eo + 2 + n ≤ b) (h2 : b ≠ u) (h3 : b ≠ u + 1) : solG G eo u n b = G b := by
  unfold solG; rw [uG_n _ _ h2, uG_n _ _ h3, solS_off h]
theorem folR_off {G : GT} {pl N b : Nat} (hN : N ≤ 5) (h : b < 25 ∨ 32 ≤ b) : folR G pl N b = G b := by
  unfold folR; rw [solG_off (by omega) (by omega) (by omega), folG_off (by omega) (by omega)]
theorem WW.folR {G : GT} {pl N : Nat} (h : WW G N) : WW (folR G pl N) N := h.keep (fun a ha => folR_off h.2.1 (by omega))
theorem PlOk.folR {G : GT} {pl N p2 : Nat} (hw : WW G N) (h : PlOk G pl N) : PlOk (folR G p2 N) pl N := ⟨h.1, fun s hs => by rw [folR_off hw.2.1 (by have := h.1; omega)]; exact h.2 s hs⟩
theorem WW.imp {G : GT} {pl N i : Nat} {b : Int} (h : WW G N) (hp : PlOk G pl N) : WW (impG G pl N b i) N := h.keep (fun a ha => impG_off (by have := hp.1; omega))
theorem PlOk.imp {G : GT} {pl N i : Nat} {b : Int} (hw : WW G N) (hp : PlOk G pl N) (hc : ComOk G N 30) : PlOk (impG G pl N b i) pl N := ⟨hp.1, fun s hs => by
  unfold impG; rw [uG_s]; unfold impP
  split
  · have := likP_in hw hp hs hc; omega
  · exact hp.2 s hs⟩
/-- behind a follow -/
def FolSt (G : GT) (pl N : Nat) : Prop := WW G N ∧ PlOk G pl N ∧ ComOk G N 30 ∧ NumOk G N
theorem FolSt.fol {G : GT} {pl N : Nat} (hm : MathOk) (hw : WW G N) (hp : PlOk G pl N) : FolSt (folR G pl N) pl N := ⟨hw.folR, hp.folR hw, (hm G pl N hw hp).2.1, (hm G pl N hw hp).2.2⟩
theorem FolSt.imp {G : GT} {pl N i : Nat} {b : Int} (h : FolSt G pl N) : FolSt (impG G pl N b i) pl N := ⟨h.1.imp h.2.1, h.2.1.imp h.1 h.2.2.1, fun q hq => by
  have hpl := h.2.1.1
  rw [comesZ_congr (fun c hc => impG_off (by omega)) (impG_off (by omega)) (impG_off (by omega)) hq]; exact h.2.2.1 q hq, by
  have hpl := h.2.1.1
  unfold NumOk; rw [impG_off (by omega), impG_off (by omega)]; exact h.2.2.2⟩
theorem FolSt.next {G : GT} {pl N i : Nat} {b : Int} (hm : MathOk) (h : FolSt G pl N) : FolSt (folR (impG G pl N b i) pl N) pl N := FolSt.fol hm (h.imp (i := i) (b := b)).1 (h.imp (i := i) (b := b)).2.1
theorem FolSt.rep (hm : MathOk) {pl N : Nat} {b : Int} : ∀ (k : Nat) (G : GT), FolSt G pl N → FolSt (repL pl N b k G) pl N
  | 0, _, h => h
  | k + 1, G, h => by
    unfold repL
    split
    · exact h.imp
    · exact FolSt.rep hm k _ (h.next hm)
theorem FolSt.repG {G : GT} {pl N : Nat} {b : Int} (hm : MathOk) (hw : WW G N) (hp : PlOk G pl N) : FolSt (repG G pl N b) pl N := FolSt.rep hm 243 _ (FolSt.fol hm hw hp)
theorem FolSt.fv (hm : MathOk) {pl N : Nat} : ∀ (k : Nat) (G : GT), FolSt G pl N → FolSt (fvL pl N k G) pl N
  | 0, _, h => h
  | k + 1, G, h => by
    unfold fvL
    split
    · exact h.imp
    · exact FolSt.fv hm k _ (FolSt.repG hm h.imp.1 h.imp.2.1)
theorem FolSt.fvG {G : GT} {pl N : Nat} (hm : MathOk) (hw : WW G N) (hp : PlOk G pl N) : FolSt (fvG G pl N) pl N := FolSt.fv hm 243 _ (FolSt.repG hm hw hp)

set_option maxRecDepth 100000 in
set_option maxHeartbeats 4000000 in
theorem ct_P_replyBy (l : Launch) (D : va_G) (K : K5) (G : GT) (pl N : Nat) (b : Int) (hb : b = 0 ∨ b = 1) (hm0 : MathOk) (hw : WW G N) (hpl : PlOk G pl N) : Ct l D K y_P_replyBy c_P_replyBy 5 none 4 103 [.ref 22, vi b, .ref 1, .ref pl] G none (repG G pl N b) := by
  refine Ct.intro (by decide +kernel) (Nat.le_of_ble_eq_true rfl) ?_
  intro X hro hty hC hE
  refine a_aload_n (pc := 0) (q := 0) (i := 0) (x := 22) hC (by decide +kernel) rfl 0 rfl ?_
  refine a_aload_n (pc := 1) (q := 2) (i := 2) (x := 1) hC (by decide +kernel) rfl 2 rfl ?_
  refine a_aload_n (pc := 2) (q := 3) (i := 3) (x := pl) hC (by decide +kernel) rfl 3 rfl ?_
  refine g_callV0 (pc := 3) (idx := 76) (i := 22) (av := [.ref 1, .ref pl]) (rest := []) (g := folR G pl N) hC hro hty (by decide +kernel) rfl rfl k_P_follow (by decide +kernel) (by decide +kernel) (by decide +kernel) (ct_P_follow X.la X.dd K G pl N hw hpl (hm0 G pl N hw hpl).1) rfl rfl (by decide) (by first | decide | simp [Value.category]) ?_
  refine a_iconst (pc := 6) (c := 0) hC (by decide +kernel) ?_
  refine a_istore (pc := 7) (q := 0) (i := 4) (lv' := [(4, vi 0), (0, .ref 22), (1, vi b), (2, .ref 1), (3, .ref pl)]) hC (by decide +kernel) (by decide) rfl ?_
  have L9 : ∀ (fuel : Nat) (k : Nat) (H : GT), 243 - k < fuel → k ≤ 243 → FolSt H pl N → repL pl N b (243 - k) H = repG G pl N b → AW X 5 0 0 9 [(4, vi ((k : Int))), (0, .ref 22), (1, vi b), (2, .ref 1), (3, .ref pl)] [] (hp K H) := by
    intro fuel
    induction fuel with
    | zero => intro k H h; exact absurd h (Nat.not_lt_zero _)
    | succ fuel ih9 =>
      intro k H hm hk0 hf hH
      refine a_iload (pc := 9) (i := 4) (x := (k : Int)) hC (by decide +kernel) 0 rfl ?_
      refine a_sipush (pc := 11) (c := 243) hC (by decide +kernel) (by decide +kernel) ?_
      refine a_icmp_ge (pc := 14) (off := 25) hC 39 (by decide +kernel) (by decide) (by unfold inI; omega) (by unfold inI; omega) (fun c14 => ?_) (fun c14 => ?_)
      · skip
        have hk : k = 243 := by omega
        exact g_vret (pc := 39) hC hE (by decide +kernel) (by rw [← hH]; first | exact hst.symm | (rw [hk]; rfl))
      · skip
        have hf2 := hf.imp (i := N) (b := b)
        have hbe := betS_01 H pl N b N
        have hlt : k < 243 := by omega
        refine a_aload_n (pc := 17) (q := 0) (i := 0) (x := 22) hC (by decide +kernel) rfl 1 rfl ?_
        refine a_iload_n (pc := 18) (q := 1) (i := 1) (x := b) hC (by decide +kernel) rfl 2 rfl ?_
        refine a_aload_n (pc := 19) (q := 2) (i := 2) (x := 1) hC (by decide +kernel) rfl 3 rfl ?_
        refine a_aload_n (pc := 20) (q := 3) (i := 3) (x := pl) hC (by decide +kernel) rfl 4 rfl ?_
        refine g_callV (pc := 21) (idx := 80) (i := 22) (av := [vi b, .ref 1, .ref pl]) (rest := []) (g := impG H pl N b N) (v := vi (betS H pl N b N)) hC hro hty (by decide +kernel) rfl rfl k_P_improve (by decide +kernel) (by decide +kernel) (by decide +kernel) (ct_P_improve X.la X.dd K H pl N b hb hf.1 hf.2.1 hf.2.2.1) rfl rfl (by decide) (by first | decide | simp [Value.category]) ?_
        refine a_if_eq (pc := 24) (off := 15) hC 39 (by decide +kernel) (by decide) (by unfold inI; omega) (fun c24 => ?_) (fun c24 => ?_)
        · skip
          have hst : repL pl N b (243 - k) H = impG H pl N b N := by
            rw [show 243 - k = (242 - k) + 1 by omega]; show (if _ then _ else _) = _; rw [if_pos c24]
          exact g_vret (pc := 39) hC hE (by decide +kernel) (by rw [← hH]; first | exact hst.symm | (rw [hk]; rfl))
        · skip
          have hst : repL pl N b (243 - k) H = repL pl N b (243 - (k + 1)) (folR (impG H pl N b N) pl N) := by
            rw [show 243 - k = (242 - k) + 1 by omega, show 243 - (k + 1) = 242 - k by omega]; show (if _ then _ else _) = _; rw [if_neg c24]
          refine a_aload_n (pc := 27) (q := 0) (i := 0) (x := 22) hC (by decide +kernel) rfl 1 rfl ?_
          refine a_aload_n (pc := 28) (q := 2) (i := 2) (x := 1) hC (by decide +kernel) rfl 3 rfl ?_
          refine a_aload_n (pc := 29) (q := 3) (i := 3) (x := pl) hC (by decide +kernel) rfl 4 rfl ?_
          refine g_callV0 (pc := 30) (idx := 76) (i := 22) (av := [.ref 1, .ref pl]) (rest := []) (g := folR (impG H pl N b N) pl N) hC hro hty (by decide +kernel) rfl rfl k_P_follow (by decide +kernel) (by decide +kernel) (by decide +kernel) (ct_P_follow X.la X.dd K (impG H pl N b N) pl N hf2.1 hf2.2.1 (hm0 _ pl N hf2.1 hf2.2.1).1) rfl rfl (by decide) (by first | decide | simp [Value.category]) ?_
          refine a_iinc (pc := 33) (i := 4) (c := 1) (x := (k : Int)) (lv' := [(4, vi (((k : Int)) + 1)), (0, .ref 22), (1, vi b), (2, .ref 1), (3, .ref pl)]) hC (by decide +kernel) 0 rfl (by decide) rfl ?_
          refine a_goto (pc := 36) (off := -27) hC 9 (by decide +kernel) (by decide) ?_
          refine a_sub (lv' := [(4, vi (((k + 1) : Int))), (0, .ref 22), (1, vi b), (2, .ref 1), (3, .ref pl)]) [0, 1, 2, 3, 4] rfl ?_
          refine g_G (G' := (folR (impG H pl N b N) pl N)) rfl ?_
          exact ih9 (k + 1) (folR (impG H pl N b N) pl N) (by omega) (by omega) (hf.next hm0) (by rw [← hst]; exact hH)
  refine a_sub (lv' := [(4, vi ((0 : Int))), (0, .ref 22), (1, vi b), (2, .ref 1), (3, .ref pl)]) [0, 1, 2, 3, 4] rfl ?_
  refine g_G (G' := (folR G pl N)) rfl ?_
  exact L9 _ 0 (folR G pl N) (Nat.lt_succ_self _) (by omega) (FolSt.fol hm0 hw hpl) rfl

set_option maxRecDepth 100000 in
set_option maxHeartbeats 4000000 in
theorem ct_P_findValues (l : Launch) (D : va_G) (K : K5) (G : GT) (pl N : Nat) (hm0 : MathOk) (hw : WW G N) (hpl : PlOk G pl N) : Ct l D K y_P_findValues c_P_findValues 4 none 5 127 [.ref 22, .ref 1, .ref pl] G none (fvG G pl N) := by
  refine Ct.intro (by decide +kernel) (Nat.le_of_ble_eq_true rfl) ?_
  intro X hro hty hC hE
  refine a_aload_n (pc := 0) (q := 0) (i := 0) (x := 22) hC (by decide +kernel) rfl 0 rfl ?_
  refine a_iconst (pc := 1) (c := 1) hC (by decide +kernel) ?_
  refine a_aload_n (pc := 2) (q := 1) (i := 1) (x := 1) hC (by decide +kernel) rfl 1 rfl ?_
  refine a_aload_n (pc := 3) (q := 2) (i := 2) (x := pl) hC (by decide +kernel) rfl 2 rfl ?_
  refine g_callV0 (pc := 4) (idx := 84) (i := 22) (av := [vi 1, .ref 1, .ref pl]) (rest := []) (g := repG G pl N 1) hC hro hty (by decide +kernel) rfl rfl k_P_replyBy (by decide +kernel) (by decide +kernel) (by decide +kernel) (ct_P_replyBy X.la X.dd K G pl N 1 (Or.inr rfl) hm0 hw hpl) rfl rfl (by decide) (by first | decide | simp [Value.category]) ?_
  refine a_iconst (pc := 7) (c := 0) hC (by decide +kernel) ?_
  refine a_istore_n (pc := 8) (q := 3) (i := 3) (lv' := [(3, vi 0), (0, .ref 22), (1, .ref 1), (2, .ref pl)]) hC (by decide +kernel) rfl (by decide) rfl ?_
  have L9 : ∀ (fuel : Nat) (k : Nat) (H : GT), 243 - k < fuel → k ≤ 243 → FolSt H pl N → fvL pl N (243 - k) H = fvG G pl N → AW X 4 0 0 9 [(3, vi ((k : Int))), (0, .ref 22), (1, .ref 1), (2, .ref pl)] [] (hp K H) := by
    intro fuel
    induction fuel with
    | zero => intro k H h; exact absurd h (Nat.not_lt_zero _)
    | succ fuel ih9 =>
      intro k H hm hk0 hf hH
      refine a_iload_n (pc := 9) (q := 3) (i := 3) (x := (k : Int)) hC (by decide +kernel) rfl 0 rfl ?_
      refine a_sipush (pc := 10) (c := 243) hC (by decide +kernel) (by decide +kernel) ?_
      refine a_icmp_ge (pc := 13) (off := 26) hC 39 (by decide +kernel) (by decide) (by unfold inI; omega) (by unfold inI; omega) (fun c13 => ?_) (fun c13 => ?_)
      · skip
        have hk : k = 243 := by omega
        exact g_vret (pc := 39) hC hE (by decide +kernel) (by rw [← hH]; first | exact hst.symm | (rw [hk]; rfl))
      · skip
        have hf2 := hf.imp (i := N) (b := 0)
        have hbe := betS_01 H pl N 0 N
        have hlt : k < 243 := by omega
        refine a_aload_n (pc := 16) (q := 0) (i := 0) (x := 22) hC (by decide +kernel) rfl 1 rfl ?_
        refine a_iconst (pc := 17) (c := 0) hC (by decide +kernel) ?_
        refine a_aload_n (pc := 18) (q := 1) (i := 1) (x := 1) hC (by decide +kernel) rfl 2 rfl ?_
        refine a_aload_n (pc := 19) (q := 2) (i := 2) (x := pl) hC (by decide +kernel) rfl 3 rfl ?_
        refine g_callV (pc := 20) (idx := 80) (i := 22) (av := [vi 0, .ref 1, .ref pl]) (rest := []) (g := impG H pl N 0 N) (v := vi (betS H pl N 0 N)) hC hro hty (by decide +kernel) rfl rfl k_P_improve (by decide +kernel) (by decide +kernel) (by decide +kernel) (ct_P_improve X.la X.dd K H pl N 0 (Or.inl rfl) hf.1 hf.2.1 hf.2.2.1) rfl rfl (by decide) (by first | decide | simp [Value.category]) ?_
        refine a_if_eq (pc := 23) (off := 16) hC 39 (by decide +kernel) (by decide) (by unfold inI; omega) (fun c23 => ?_) (fun c23 => ?_)
        · skip
          have hst : fvL pl N (243 - k) H = impG H pl N 0 N := by
            rw [show 243 - k = (242 - k) + 1 by omega]; show (if _ then _ else _) = _; rw [if_pos c23]
          exact g_vret (pc := 39) hC hE (by decide +kernel) (by rw [← hH]; first | exact hst.symm | (rw [hk]; rfl))
        · skip
          have hst : fvL pl N (243 - k) H = fvL pl N (243 - (k + 1)) (repG (impG H pl N 0 N) pl N 1) := by
            rw [show 243 - k = (242 - k) + 1 by omega, show 243 - (k + 1) = 242 - k by omega]; show (if _ then _ else _) = _; rw [if_neg c23]
          refine a_aload_n (pc := 26) (q := 0) (i := 0) (x := 22) hC (by decide +kernel) rfl 1 rfl ?_
          refine a_iconst (pc := 27) (c := 1) hC (by decide +kernel) ?_
          refine a_aload_n (pc := 28) (q := 1) (i := 1) (x := 1) hC (by decide +kernel) rfl 2 rfl ?_
          refine a_aload_n (pc := 29) (q := 2) (i := 2) (x := pl) hC (by decide +kernel) rfl 3 rfl ?_
          refine g_callV0 (pc := 30) (idx := 84) (i := 22) (av := [vi 1, .ref 1, .ref pl]) (rest := []) (g := repG (impG H pl N 0 N) pl N 1) hC hro hty (by decide +kernel) rfl rfl k_P_replyBy (by decide +kernel) (by decide +kernel) (by decide +kernel) (ct_P_replyBy X.la X.dd K (impG H pl N 0 N) pl N 1 (Or.inr rfl) hm0 hf2.1 hf2.2.1) rfl rfl (by decide) (by first | decide | simp [Value.category]) ?_
          refine a_iinc (pc := 33) (i := 3) (c := 1) (x := (k : Int)) (lv' := [(3, vi (((k : Int)) + 1)), (0, .ref 22), (1, .ref 1), (2, .ref pl)]) hC (by decide +kernel) 0 rfl (by decide) rfl ?_
          refine a_goto (pc := 36) (off := -27) hC 9 (by decide +kernel) (by decide) ?_
          refine a_sub (lv' := [(3, vi (((k + 1) : Int))), (0, .ref 22), (1, .ref 1), (2, .ref pl)]) [0, 1, 2, 3] rfl ?_
          refine g_G (G' := (repG (impG H pl N 0 N) pl N 1)) rfl ?_
          exact ih9 (k + 1) (repG (impG H pl N 0 N) pl N 1) (by omega) (by omega) (FolSt.repG hm0 hf2.1 hf2.2.1) (by rw [← hst]; exact hH)
  refine a_sub (lv' := [(3, vi ((0 : Int))), (0, .ref 22), (1, .ref 1), (2, .ref pl)]) [0, 1, 2, 3] rfl ?_
  refine g_G (G' := (repG G pl N 1)) rfl ?_
  exact L9 _ 0 (repG G pl N 1) (Nat.lt_succ_self _) (by omega) (FolSt.repG hm0 hw hpl) rfl
