/-! the reference: run -/
theorem rnT_congr {G G' : GT} (e : ∀ b, 52 ≤ b ∧ b ≤ 55 → G' b = G b) (s nx : Nat) : ∀ t, rnT G' s nx t = rnT G s nx t
  | 0 => rfl
  | t + 1 => by unfold rnT; rw [rnT_congr e s nx t, tWei_congr e]
theorem rnS_congr {G G' : GT} (e : ∀ b, 52 ≤ b ∧ b ≤ 55 → G' b = G b) (N m : Nat) : ∀ s, rnS G' N m s = rnS G N m s
  | 0 => rfl
  | s + 1 => by unfold rnS; rw [rnS_congr e N m s, rnT_congr e]
theorem rchL_congr {G G' : GT} (e : ∀ b, 52 ≤ b ∧ b ≤ 55 → G' b = G b) (N : Nat) : ∀ k m, rchL G' N k m = rchL G N k m
  | 0, _ => rfl
  | k + 1, m => by unfold rchL; rw [rnS_congr e, rchL_congr e N k]
theorem rch_congr {G G' : GT} (e : ∀ b, 52 ≤ b ∧ b ≤ 55 → G' b = G b) (N f : Nat) : rch G' N f = rch G N f := rchL_congr e N 32 _
theorem rgL_congr {G G' : GT} (e : ∀ b, 52 ≤ b ∧ b ≤ 55 → G' b = G b) (N s m : Nat) : ∀ t, rgL G' N s m t = rgL G N s m t
  | 0 => rfl
  | t + 1 => by unfold rgL; rw [rgL_congr e N s m t, tTot_congr e, rch_congr e]
theorem rng_congr {G G' : GT} (e : ∀ b, 52 ≤ b ∧ b ≤ 55 → G' b = G b) (N s : Nat) : rng G' N s = rng G N s := by unfold rng; rw [rch_congr e, rgL_congr e]
def riS (G : GT) (N : Nat) : Nat → Nat
  | 0 => 0
  | s + 1 => if rng G N s = 0 then riS G N s else orN (riS G N s) s
def frS (G : GT) (N : Nat) : Nat → Nat
  | 0 => 0
  | s + 1 => if rng G N s = 0 ∧ 0 < tTot G s then orN (frS G N s) s else frS G N s
theorem riS_lt (G : GT) (N : Nat) : ∀ s, s ≤ 5 → riS G N s < 32
  | 0, _ => by unfold riS; decide
  | s + 1, h => by
    have ih := riS_lt G N s (by omega)
    unfold riS
    split
    · exact ih
    · exact orN_lt ih (by omega)
theorem frS_lt (G : GT) (N : Nat) : ∀ s, s ≤ 5 → frS G N s < 32
  | 0, _ => by unfold frS; decide
  | s + 1, h => by
    have ih := frS_lt G N s (by omega)
    unfold frS
    split
    · exact orN_lt ih (by omega)
    · exact ih
def loN (m s : Nat) : Nat := m &&& (pw s - 1)
theorem and_lo {m s : Nat} : iZ (m : Int) &&& iZ ((pw s - 1 : Nat) : Int) = iZ ((loN m s : Nat) : Int) := by
  rw [iZ_and (by omega) (by omega)]; unfold andZ; rw [Int.toNat_natCast, Int.toNat_natCast]; rfl
theorem loN_le (m s : Nat) : loN m s ≤ m := Nat.and_le_left
def isF (G : GT) (N s : Nat) : Bool := decide (¬ rng G N s = 0) && decide (loN (rng G N s) s = 0)
def rtF (f : Nat → Int) (m k : Nat) : Nat → Int := fun j => if j < k then ((bt2 m j : Nat) : Int) else f j
theorem rtF_0 (f : Nat → Int) (m : Nat) : rtF f m 0 = f := by funext j; exact if_neg (by omega)
theorem rtF_s (f : Nat → Int) (m k : Nat) (x : Int) (hx : x = ((bt2 m k : Nat) : Int)) : up (rtF f m k) k x = rtF f m (k + 1) := by
  funext j; unfold up rtF
  by_cases h : j = k
  · subst h; rw [if_pos rfl, if_pos (by omega), hx]
  · rw [if_neg h]
    have e : (j < k + 1) ↔ (j < k) := by omega
    simp only [e]
theorem gcZ_in1 {a b : Int} (ha : 1 ≤ a) : 1 ≤ gcZ a b ∧ gcZ a b ≤ a := by
  have h1 : gcZ a b = gcZ b a := by unfold gcZ; rw [Nat.gcd_comm]
  rw [h1]; exact gcZ_in ha
/-- one ring: the cells laid, the gain, the share of the walks from f that come there -/
def ruG (H : GT) (N m : Nat) : GT := gnS H N m N
def ruU (H : GT) (N m : Nat) : Int := ruG H N m 50 24
def ruD (H : GT) (N m : Nat) : Int := ruG H N m 50 25
def ruR (H : GT) (N fr m : Nat) : GT := uG (lkS (ruG H N m) N fr N) 57 (rtF (lkS (ruG H N m) N fr N 57) m N)
def ruX0 (H : GT) (N f fr m : Nat) : Int := Int.tdiv (ruU H N m) (gcZ (ruU H N m) (ruD H N m)) * allZ (ruR H N fr m) (f : Int) N
def ruA (H : GT) (N f fr m : Nat) : GT := alG (ruR H N fr m) (f : Int) N
def ruY0 (H : GT) (N f fr m : Nat) : Int := Int.tdiv (ruD H N m) (gcZ (ruU H N m) (ruD H N m)) * allZ (ruA H N f fr m) (-1) N
def ruB (H : GT) (N f fr m : Nat) : GT := alG (ruA H N f fr m) (-1) N
def ruX (H : GT) (N f fr m : Nat) : Int := Int.tdiv (ruX0 H N f fr m) (gcZ (ruX0 H N f fr m) (ruY0 H N f fr m))
def ruY (H : GT) (N f fr m : Nat) : Int := Int.tdiv (ruY0 H N f fr m) (gcZ (ruX0 H N f fr m) (ruY0 H N f fr m))
def ruS (G : GT) (N f : Nat) : Nat → GT × Int × Int
  | 0 => (G, 0, 1)
  | s + 1 => if isF G N s = true then (ruB (ruS G N f s).1 N f (frS G N N) (rng G N s), (ruS G N f s).2.1 * Int.tdiv (ruY (ruS G N f s).1 N f (frS G N N) (rng G N s)) (gcZ (ruS G N f s).2.2 (ruY (ruS G N f s).1 N f (frS G N N) (rng G N s))) + ruX (ruS G N f s).1 N f (frS G N N) (rng G N s) * Int.tdiv (ruS G N f s).2.2 (gcZ (ruS G N f s).2.2 (ruY (ruS G N f s).1 N f (frS G N N) (rng G N s))), Int.tdiv (ruS G N f s).2.2 (gcZ (ruS G N f s).2.2 (ruY (ruS G N f s).1 N f (frS G N N) (rng G N s))) * ruY (ruS G N f s).1 N f (frS G N N) (rng G N s)) else ruS G N f s
theorem ruS_n {G : GT} {N f b : Nat} (h : b ≠ 50) (h1 : b ≠ 56) (h2 : b ≠ 57) (h3 : b ≠ 58) : ∀ s, (ruS G N f s).1 b = G b
  | 0 => rfl
  | s + 1 => by
    unfold ruS
    split
    · show ruB (ruS G N f s).1 N f (frS G N N) (rng G N s) b = _
      unfold ruB ruA ruR ruG; rw [alG_off h3, alG_off h3, uG_n _ _ h2, lkS_off h1 h2, gnS_n h h1 h2 h3, ruS_n h h1 h2 h3 s]
    · exact ruS_n h h1 h2 h3 s
theorem ruS_k {G : GT} {N f k : Nat} (h : k ≠ 24) (h2 : k ≠ 25) : ∀ s, (ruS G N f s).1 50 k = G 50 k
  | 0 => rfl
  | s + 1 => by
    unfold ruS
    split
    · show ruB (ruS G N f s).1 N f (frS G N N) (rng G N s) 50 k = _
      unfold ruB ruA ruR ruG; rw [alG_off (by decide), alG_off (by decide), uG_n _ _ (by decide), lkS_off (by decide) (by decide), gnS_k h h2, ruS_k h h2 s]
    · exact ruS_k h h2 s
theorem MM.ru {G : GT} {N f s : Nat} (h : MM G N) : MM (ruS G N f s).1 N := h.keep (fun a ha => ruS_n (by omega) (by omega) (by omega) (by omega) s) (fun k hk => ruS_k (by omega) (by omega) s)
def InA (x : Int) : Prop := inL x ∧ inL (absZ x)
/-- what run needs of the arithmetic, for the reference -/
def RuOk (G : GT) (N f : Nat) : Prop := ∀ s, s ≤ N → InA (ruS G N f s).2.1 ∧ (1 ≤ (ruS G N f s).2.2 ∧ inL (ruS G N f s).2.2) ∧ (s < N → isF G N s = true → InA (ruU (ruS G N f s).1 N (rng G N s)) ∧ (1 ≤ ruD (ruS G N f s).1 N (rng G N s) ∧ inL (ruD (ruS G N f s).1 N (rng G N s))) ∧ InA (ruX0 (ruS G N f s).1 N f (frS G N N) (rng G N s)) ∧ (1 ≤ ruY0 (ruS G N f s).1 N f (frS G N N) (rng G N s) ∧ inL (ruY0 (ruS G N f s).1 N f (frS G N N) (rng G N s))) ∧ InA (ruY (ruS G N f s).1 N f (frS G N N) (rng G N s)))
theorem InA.pos {x : Int} (h : 1 ≤ x ∧ inL x) : InA x := ⟨h.2, by unfold absZ; rw [if_neg (by omega)]; exact h.2⟩

set_option maxRecDepth 100000 in
set_option maxHeartbeats 4000000 in
theorem ct_M_run_no (l : Launch) (D : va_G) (K : K5) (G : GT) (N : Nat) (s : Int)  (hsi : inI s) (hmm : MM G N) (hno : mS G s = 0) : Ct l D K y_M_run c_M_run 25 (some .int) 5 115 [.ref 50, vi s] G (some (vi (-1))) (m0 G) := by
  refine Ct.intro (by decide +kernel) (Nat.le_of_ble_eq_true rfl) ?_
  intro X hro hty hC hE
  obtain ⟨hn, hN5, hsh, hac, hpa, hwe, hth, hch⟩ := id hmm
  refine a_aload_n (pc := 0) (q := 0) (i := 0) (x := 50) hC (by decide +kernel) rfl 0 rfl ?_
  refine a_iconst (pc := 1) (c := 0) hC (by decide +kernel) ?_
  refine g_put (pc := 2) (idx := 62) (ci := 6) (x := 0) hC 50 0 (by decide +kernel) rfl rfl (congrArg (fun z => vi z) (up_s _ _ _)) rfl wrM (by decide) rfl (by decide +kernel) rfl (ok_int _) ?_
  refine g_G (G' := m0 G) rfl ?_
  refine a_aload_n (pc := 5) (q := 0) (i := 0) (x := 50) hC (by decide +kernel) rfl 0 rfl ?_
  refine a_iload_n (pc := 6) (q := 1) (i := 1) (x := s) hC (by decide +kernel) rfl 1 rfl ?_
  refine g_callV (pc := 7) (idx := 79) (i := 50) (av := [vi s]) (rest := []) (g := m0 G) (v := vi (mS (m0 G) s)) hC hro hty (by decide +kernel) rfl rfl k_M_isState (by decide +kernel) (by decide +kernel) (by decide +kernel) (ct_M_isState X.la X.dd K (m0 G) N s hsi hmm.m0) rfl rfl (by decide) (by first | decide | simp [Value.category]) ?_
  refine g_top (y := mS G s) (mS_m0 _ _) ?_
  refine a_if_ne (pc := 10) (off := 5) hC 15 (by decide +kernel) (by decide) (by unfold inI; omega) (fun c10 => ?_) (fun c10 => ?_)
  · skip
    exact absurd hno c10
  · skip
    refine a_iconst (pc := 13) (c := -1) hC (by decide +kernel) ?_
    exact g_iret (pc := 14) hC hE (by decide +kernel) rfl rfl

set_option maxRecDepth 100000 in
set_option maxHeartbeats 4000000 in
theorem ct_M_run (l : Launch) (D : va_G) (K : K5) (G : GT) (N f : Nat) (hs : f < N) (hmm : MM G N) (hru : RuOk (m0 G) N f) : Ct l D K y_M_run c_M_run 25 (some .int) 5 115 [.ref 50, vi ((f : Int))] G (some (vi 1)) (mansG (ruS (m0 G) N f N).1 (ruS (m0 G) N f N).2.1 (ruS (m0 G) N f N).2.2) := by
  refine Ct.intro (by decide +kernel) (Nat.le_of_ble_eq_true rfl) ?_
  intro X hro hty hC hE
  obtain ⟨hn, hN5, hsh, hac, hpa, hwe, hth, hch⟩ := id hmm
  have hm1 := hmm.m0
  obtain ⟨fr, hfe⟩ : ∃ fr : Nat, (frS (m0 G) N N) = fr := ⟨_, rfl⟩
  have hfr32 : fr < 32 := by rw [← hfe]; exact frS_lt _ _ _ hN5
  refine a_aload_n (pc := 0) (q := 0) (i := 0) (x := 50) hC (by decide +kernel) rfl 0 rfl ?_
  refine a_iconst (pc := 1) (c := 0) hC (by decide +kernel) ?_
  refine g_put (pc := 2) (idx := 62) (ci := 6) (x := 0) hC 50 0 (by decide +kernel) rfl rfl (congrArg (fun z => vi z) (up_s _ _ _)) rfl wrM (by decide) rfl (by decide +kernel) rfl (ok_int _) ?_
  refine g_G (G' := m0 G) rfl ?_
  refine a_aload_n (pc := 5) (q := 0) (i := 0) (x := 50) hC (by decide +kernel) rfl 0 rfl ?_
  refine a_iload_n (pc := 6) (q := 1) (i := 1) (x := (f : Int)) hC (by decide +kernel) rfl 1 rfl ?_
  refine g_callV (pc := 7) (idx := 79) (i := 50) (av := [vi ((f : Int))]) (rest := []) (g := m0 G) (v := vi (mS (m0 G) ((f : Int)))) hC hro hty (by decide +kernel) rfl rfl k_M_isState (by decide +kernel) (by decide +kernel) (by decide +kernel) (ct_M_isState X.la X.dd K (m0 G) N ((f : Int)) (by unfold inI; omega) hmm.m0) rfl rfl (by decide) (by first | decide | simp [Value.category]) ?_
  refine g_top (y := 1) (by rw [mS_m0]; exact mS_ok hmm hs) ?_
  refine a_if_ne (pc := 10) (off := 5) hC 15 (by decide +kernel) (by decide) (by unfold inI; omega) (fun c10 => ?_) (fun c10 => ?_)
  · skip
    refine a_iconst (pc := 15) (c := 0) hC (by decide +kernel) ?_
    refine a_istore_n (pc := 16) (q := 2) (i := 2) (lv' := [(2, vi 0), (0, .ref 50), (1, vi ((f : Int)))]) hC (by decide +kernel) rfl (by decide) rfl ?_
    refine a_iconst (pc := 17) (c := 0) hC (by decide +kernel) ?_
    refine a_istore_n (pc := 18) (q := 3) (i := 3) (lv' := [(3, vi 0), (2, vi 0), (0, .ref 50), (1, vi ((f : Int)))]) hC (by decide +kernel) rfl (by decide) rfl ?_
    refine a_iconst (pc := 19) (c := 0) hC (by decide +kernel) ?_
    refine a_istore (pc := 20) (q := 0) (i := 4) (lv' := [(4, vi 0), (3, vi 0), (2, vi 0), (0, .ref 50), (1, vi ((f : Int)))]) hC (by decide +kernel) (by decide) rfl ?_
    have L22 : ∀ (fuel : Nat) (s : Nat), N - s < fuel → s ≤ N → AW X 25 0 0 22 [(4, vi ((s : Int))), (3, vi ((((frS (m0 G) N s) : Nat) : Int))), (2, vi ((((riS (m0 G) N s) : Nat) : Int))), (0, .ref 50), (1, vi ((f : Int)))] [] (hp K (m0 G)) := by
      intro fuel
      induction fuel with
      | zero => intro s h; exact absurd h (Nat.not_lt_zero _)
      | succ fuel ih22 =>
        intro s hm hs1
        refine a_iload (pc := 22) (i := 4) (x := (s : Int)) hC (by decide +kernel) 0 rfl ?_
        refine a_aload_n (pc := 24) (q := 0) (i := 0) (x := 50) hC (by decide +kernel) rfl 3 rfl ?_
        refine g_get (pc := 25) (idx := 72) (ci := 6) (v := vi ((m0 G) 50 1)) hC 50 1 (by decide +kernel) rfl rfl rfl rfl wrM (by decide) rfl (by decide +kernel) ?_
        refine g_top (y := (N : Int)) hm1.1 ?_
        refine a_icmp_ge (pc := 28) (off := 58) hC 86 (by decide +kernel) (by decide) (by unfold inI; omega) (by unfold inI; omega) (fun c28 => ?_) (fun c28 => ?_)
        · skip
          refine a_lconst (pc := 86) (c := 0) (z := 0) hC (by decide +kernel) rfl ?_
          refine a_lstore (pc := 87) (q := 0) (i := 4) (lv' := [(4, vl 0), (3, vi ((((frS (m0 G) N s) : Nat) : Int))), (2, vi ((((riS (m0 G) N s) : Nat) : Int))), (0, .ref 50), (1, vi ((f : Int)))]) hC (by decide +kernel) (by decide) rfl ?_
          refine a_lconst (pc := 89) (c := 1) (z := 1) hC (by decide +kernel) rfl ?_
          refine a_lstore (pc := 90) (q := 0) (i := 6) (lv' := [(6, vl 1), (4, vl 0), (3, vi ((((frS (m0 G) N s) : Nat) : Int))), (2, vi ((((riS (m0 G) N s) : Nat) : Int))), (0, .ref 50), (1, vi ((f : Int)))]) hC (by decide +kernel) (by decide) rfl ?_
          refine a_iconst (pc := 92) (c := 0) hC (by decide +kernel) ?_
          refine a_istore (pc := 93) (q := 0) (i := 8) (lv' := [(8, vi 0), (6, vl 1), (4, vl 0), (3, vi ((((frS (m0 G) N s) : Nat) : Int))), (2, vi ((((riS (m0 G) N s) : Nat) : Int))), (0, .ref 50), (1, vi ((f : Int)))]) hC (by decide +kernel) (by decide) rfl ?_
          have L95 : ∀ (fuel : Nat) (s : Nat), N - s < fuel → s ≤ N → AW X 25 0 0 95 [(8, vi ((s : Int))), (6, vl ((ruS (m0 G) N f s).2.2)), (4, vl ((ruS (m0 G) N f s).2.1)), (3, vi ((fr : Int))), (0, .ref 50), (1, vi ((f : Int)))] [] (hp K ((ruS (m0 G) N f s).1)) := by
            intro fuel
            induction fuel with
            | zero => intro s h; exact absurd h (Nat.not_lt_zero _)
            | succ fuel ih95 =>
              intro s hm hs2
              have hmH : MM (ruS (m0 G) N f s).1 N := hm1.ru
              have hro3 := hru s hs2
              refine a_iload (pc := 95) (i := 8) (x := (s : Int)) hC (by decide +kernel) 0 rfl ?_
              refine a_aload_n (pc := 97) (q := 0) (i := 0) (x := 50) hC (by decide +kernel) rfl 4 rfl ?_
              refine g_get (pc := 98) (idx := 72) (ci := 6) (v := vi (((ruS (m0 G) N f s).1) 50 1)) hC 50 1 (by decide +kernel) rfl rfl rfl rfl wrM (by decide) rfl (by decide +kernel) ?_
              refine g_top (y := (N : Int)) hmH.1 ?_
              refine a_icmp_ge (pc := 101) (off := 210) hC 311 (by decide +kernel) (by decide) (by unfold inI; omega) (by unfold inI; omega) (fun c101 => ?_) (fun c101 => ?_)
              · skip
                have hsN : s = N := by omega
                refine a_aload_n (pc := 311) (q := 0) (i := 0) (x := 50) hC (by decide +kernel) rfl 4 rfl ?_
                refine a_lload (pc := 312) (i := 4) (x := (ruS (m0 G) N f s).2.1) hC (by decide +kernel) 2 rfl ?_
                refine a_lload (pc := 314) (i := 6) (x := (ruS (m0 G) N f s).2.2) hC (by decide +kernel) 1 rfl ?_
                refine g_callV (pc := 316) (idx := 149) (i := 50) (av := [vl ((ruS (m0 G) N f s).2.1), vl ((ruS (m0 G) N f s).2.2)]) (rest := []) (g := mansG ((ruS (m0 G) N f s).1) ((ruS (m0 G) N f s).2.1) ((ruS (m0 G) N f s).2.2)) (v := vi 1) hC hro hty (by decide +kernel) rfl rfl k_M_answer (by decide +kernel) (by decide +kernel) (by decide +kernel) (ct_M_answer X.la X.dd K ((ruS (m0 G) N f s).1) ((ruS (m0 G) N f s).2.1) ((ruS (m0 G) N f s).2.2) hro3.1 hro3.2.1) rfl rfl (by decide) (by first | decide | simp [Value.category]) ?_
                exact g_iret (pc := 319) hC hE (by decide +kernel) rfl (by rw [hsN])
              · skip
                obtain ⟨m, hme⟩ : ∃ m : Nat, (rng (m0 G) N s) = m := ⟨_, rfl⟩
                have hm32 : m < 32 := by rw [← hme]; exact rng_lt hN5 (by omega)
                have hpt := pw_in (k := s) (by omega)
                have hp1 := pw_1 s
                have hlo := loN_le m s
                refine a_aload_n (pc := 104) (q := 0) (i := 0) (x := 50) hC (by decide +kernel) rfl 4 rfl ?_
                refine a_iload (pc := 105) (i := 8) (x := (s : Int)) hC (by decide +kernel) 0 rfl ?_
                refine g_callV (pc := 107) (idx := 198) (i := 50) (av := [vi ((s : Int))]) (rest := []) (g := (ruS (m0 G) N f s).1) (v := vi (((rng ((ruS (m0 G) N f s).1) N s : Nat) : Int))) hC hro hty (by decide +kernel) rfl rfl k_M_ring (by decide +kernel) (by decide +kernel) (by decide +kernel) (ct_M_ring X.la X.dd K ((ruS (m0 G) N f s).1) N s (by omega) hmH) rfl rfl (by decide) (by first | decide | simp [Value.category]) ?_
                refine g_top (y := (m : Int)) (by rw [rng_congr (fun b hb => ruS_n (by omega) (by omega) (by omega) (by omega) s), hme]) ?_
                refine a_istore (pc := 110) (q := 0) (i := 9) (lv' := [(9, vi ((m : Int))), (8, vi ((s : Int))), (6, vl ((ruS (m0 G) N f s).2.2)), (4, vl ((ruS (m0 G) N f s).2.1)), (3, vi ((fr : Int))), (0, .ref 50), (1, vi ((f : Int)))]) hC (by decide +kernel) (by decide) rfl ?_
                refine a_iload (pc := 112) (i := 9) (x := (m : Int)) hC (by decide +kernel) 0 rfl ?_
                refine a_if_eq (pc := 114) (off := 19) hC 133 (by decide +kernel) (by decide) (by unfold inI; omega) (fun c114 => ?_) (fun c114 => ?_)
                · skip
                  have hF : isF (m0 G) N s = false := by unfold isF; rw [hme, decide_eq_false (by omega)]; rfl
                  refine a_iconst (pc := 133) (c := 0) hC (by decide +kernel) ?_
                  refine a_istore (pc := 134) (q := 0) (i := 10) (lv' := [(10, vi 0), (9, vi ((m : Int))), (8, vi ((s : Int))), (6, vl ((ruS (m0 G) N f s).2.2)), (4, vl ((ruS (m0 G) N f s).2.1)), (3, vi ((fr : Int))), (0, .ref 50), (1, vi ((f : Int)))]) hC (by decide +kernel) (by decide) rfl ?_
                  refine a_iload (pc := 136) (i := 10) (x := 0) hC (by decide +kernel) 0 rfl ?_
                  refine a_if_eq (pc := 138) (off := 167) hC 305 (by decide +kernel) (by decide) (by unfold inI; omega) (fun c138 => ?_) (fun c138 => ?_)
                  · skip
                    have hst : ruS (m0 G) N f (s + 1) = (ruS (m0 G) N f s) := by show (if _ then _ else _) = _; rw [if_neg (by rw [hF]; decide)]
                    refine a_iinc (pc := 305) (i := 8) (c := 1) (x := (s : Int)) (lv' := [(8, vi (((s : Int)) + 1)), (10, vi 0), (9, vi ((m : Int))), (6, vl ((ruS (m0 G) N f s).2.2)), (4, vl ((ruS (m0 G) N f s).2.1)), (3, vi ((fr : Int))), (0, .ref 50), (1, vi ((f : Int)))]) hC (by decide +kernel) 2 rfl (by decide) rfl ?_
                    refine a_goto (pc := 308) (off := -213) hC 95 (by decide +kernel) (by decide) ?_
                    refine a_sub (lv' := [(8, vi (((s + 1) : Int))), (6, vl ((ruS (m0 G) N f (s + 1)).2.2)), (4, vl ((ruS (m0 G) N f (s + 1)).2.1)), (3, vi ((fr : Int))), (0, .ref 50), (1, vi ((f : Int)))]) [0, 3, 4, 5, 6, 7] (by rw [hst]; rfl) ?_
                    refine g_G (G' := (ruS (m0 G) N f (s + 1)).1) (by rw [hst]) ?_
                    exact ih95 (s + 1) (by omega) (by omega)
                  · skip
                    exact absurd rfl c138
                · skip
                  refine a_iload (pc := 117) (i := 9) (x := (m : Int)) hC (by decide +kernel) 0 rfl ?_
                  refine a_iconst (pc := 119) (c := 1) hC (by decide +kernel) ?_
                  refine a_iload (pc := 120) (i := 8) (x := (s : Int)) hC (by decide +kernel) 1 rfl ?_
                  refine a_ishl (pc := 122) (z := ((pw s : Nat) : Int)) hC (by decide +kernel) (iZ_shl (by omega)) ?_
                  refine a_iconst (pc := 123) (c := 1) hC (by decide +kernel) ?_
                  refine a_isub (pc := 124) hC (by decide +kernel) ?_
                  refine g_top (y := ((pw s - 1 : Nat) : Int)) (by omega) ?_
                  refine a_iand (pc := 125) (z := ((loN m s : Nat) : Int)) hC (by decide +kernel) and_lo ?_
                  refine a_if_ne (pc := 126) (off := 7) hC 133 (by decide +kernel) (by decide) (by unfold inI; omega) (fun c126 => ?_) (fun c126 => ?_)
                  · skip
                    have hF : isF (m0 G) N s = false := by unfold isF; rw [hme, decide_eq_false (p := loN m s = 0) (by omega), Bool.and_false]
                    refine a_iconst (pc := 133) (c := 0) hC (by decide +kernel) ?_
                    refine a_istore (pc := 134) (q := 0) (i := 10) (lv' := [(10, vi 0), (9, vi ((m : Int))), (8, vi ((s : Int))), (6, vl ((ruS (m0 G) N f s).2.2)), (4, vl ((ruS (m0 G) N f s).2.1)), (3, vi ((fr : Int))), (0, .ref 50), (1, vi ((f : Int)))]) hC (by decide +kernel) (by decide) rfl ?_
                    refine a_iload (pc := 136) (i := 10) (x := 0) hC (by decide +kernel) 0 rfl ?_
                    refine a_if_eq (pc := 138) (off := 167) hC 305 (by decide +kernel) (by decide) (by unfold inI; omega) (fun c138 => ?_) (fun c138 => ?_)
                    · skip
                      have hst : ruS (m0 G) N f (s + 1) = (ruS (m0 G) N f s) := by show (if _ then _ else _) = _; rw [if_neg (by rw [hF]; decide)]
                      refine a_iinc (pc := 305) (i := 8) (c := 1) (x := (s : Int)) (lv' := [(8, vi (((s : Int)) + 1)), (10, vi 0), (9, vi ((m : Int))), (6, vl ((ruS (m0 G) N f s).2.2)), (4, vl ((ruS (m0 G) N f s).2.1)), (3, vi ((fr : Int))), (0, .ref 50), (1, vi ((f : Int)))]) hC (by decide +kernel) 2 rfl (by decide) rfl ?_
                      refine a_goto (pc := 308) (off := -213) hC 95 (by decide +kernel) (by decide) ?_
                      refine a_sub (lv' := [(8, vi (((s + 1) : Int))), (6, vl ((ruS (m0 G) N f (s + 1)).2.2)), (4, vl ((ruS (m0 G) N f (s + 1)).2.1)), (3, vi ((fr : Int))), (0, .ref 50), (1, vi ((f : Int)))]) [0, 3, 4, 5, 6, 7] (by rw [hst]; rfl) ?_
                      refine g_G (G' := (ruS (m0 G) N f (s + 1)).1) (by rw [hst]) ?_
                      exact ih95 (s + 1) (by omega) (by omega)
                    · skip
                      exact absurd rfl c138
                  · skip
                    have hF : isF (m0 G) N s = true := by unfold isF; rw [hme, decide_eq_true (p := loN m s = 0) (by omega), decide_eq_true (by omega)]; rfl
                    refine a_iconst (pc := 129) (c := 1) hC (by decide +kernel) ?_
                    refine a_goto (pc := 130) (off := 4) hC 134 (by decide +kernel) (by decide) ?_
                    refine a_istore (pc := 134) (q := 0) (i := 10) (lv' := [(10, vi 1), (9, vi ((m : Int))), (8, vi ((s : Int))), (6, vl ((ruS (m0 G) N f s).2.2)), (4, vl ((ruS (m0 G) N f s).2.1)), (3, vi ((fr : Int))), (0, .ref 50), (1, vi ((f : Int)))]) hC (by decide +kernel) (by decide) rfl ?_
                    refine a_iload (pc := 136) (i := 10) (x := 1) hC (by decide +kernel) 0 rfl ?_
                    refine a_if_eq (pc := 138) (off := 167) hC 305 (by decide +kernel) (by decide) (by unfold inI; omega) (fun c138 => ?_) (fun c138 => ?_)
                    · skip
                      exact absurd c138 (by decide)
                    · skip
                      have hst : ruS (m0 G) N f (s + 1) = (ruB (ruS (m0 G) N f s).1 N f fr m, (ruS (m0 G) N f s).2.1 * Int.tdiv (ruY (ruS (m0 G) N f s).1 N f fr m) (gcZ (ruS (m0 G) N f s).2.2 (ruY (ruS (m0 G) N f s).1 N f fr m)) + ruX (ruS (m0 G) N f s).1 N f fr m * Int.tdiv (ruS (m0 G) N f s).2.2 (gcZ (ruS (m0 G) N f s).2.2 (ruY (ruS (m0 G) N f s).1 N f fr m)), Int.tdiv (ruS (m0 G) N f s).2.2 (gcZ (ruS (m0 G) N f s).2.2 (ruY (ruS (m0 G) N f s).1 N f fr m)) * ruY (ruS (m0 G) N f s).1 N f fr m) := by show (if _ then _ else _) = _; rw [if_pos hF, hfe, hme]
                      have h4 := hro3.2.2 (by omega) hF
                      rw [hfe, hme] at h4
                      obtain ⟨hU, hD, hX0, hY0, hYA⟩ := h4
                      have hd := hro3.2.1
                      have hDA := InA.pos hD
                      have hg := gcZ_in (a := (ruU (ruS (m0 G) N f s).1 N m)) hD.1
                      have hgi : inL (gcZ (ruU (ruS (m0 G) N f s).1 N m) (ruD (ruS (m0 G) N f s).1 N m)) := by have := hD.2; unfold inL at *; omega
                      have hY0A := InA.pos hY0
                      have hh := gcZ_in (a := (ruX0 (ruS (m0 G) N f s).1 N f fr m)) hY0.1
                      have hhi : inL (gcZ (ruX0 (ruS (m0 G) N f s).1 N f fr m) (ruY0 (ruS (m0 G) N f s).1 N f fr m)) := by have := hY0.2; unfold inL at *; omega
                      have hdA := InA.pos hd
                      have hk := gcZ_in1 (b := (ruY (ruS (m0 G) N f s).1 N f fr m)) hd.1
                      have hki : inL (gcZ (ruS (m0 G) N f s).2.2 (ruY (ruS (m0 G) N f s).1 N f fr m)) := by have := hd.2; unfold inL at *; omega
                      have hmG : MM (ruG (ruS (m0 G) N f s).1 N m) N := hmH.gn
                      have hmL : MM (lkS (ruG (ruS (m0 G) N f s).1 N m) N fr N) N := hmG.off (fun b hb => lkS_off (by omega) (by omega) N)
                      refine a_aload_n (pc := 141) (q := 0) (i := 0) (x := 50) hC (by decide +kernel) rfl 6 rfl ?_
                      refine a_iload (pc := 142) (i := 9) (x := (m : Int)) hC (by decide +kernel) 1 rfl ?_
                      refine g_callV0 (pc := 144) (idx := 201) (i := 50) (av := [vi ((m : Int))]) (rest := []) (g := gnS ((ruS (m0 G) N f s).1) N m N) hC hro hty (by decide +kernel) rfl rfl k_M_layGain (by decide +kernel) (by decide +kernel) (by decide +kernel) (ct_M_layGain X.la X.dd K ((ruS (m0 G) N f s).1) N m (by omega) hmH) rfl rfl (by decide) (by first | decide | simp [Value.category]) ?_
                      refine g_G (G' := ruG (ruS (m0 G) N f s).1 N m) rfl ?_
                      refine a_aload_n (pc := 147) (q := 0) (i := 0) (x := 50) hC (by decide +kernel) rfl 6 rfl ?_
                      refine g_get (pc := 148) (idx := 188) (ci := 6) (v := vl ((ruG (ruS (m0 G) N f s).1 N m) 50 24)) hC 50 24 (by decide +kernel) rfl rfl rfl rfl wrM (by decide) rfl (by decide +kernel) ?_
                      refine g_topl (y := ruU (ruS (m0 G) N f s).1 N m) rfl ?_
                      refine a_aload_n (pc := 151) (q := 0) (i := 0) (x := 50) hC (by decide +kernel) rfl 6 rfl ?_
                      refine g_get (pc := 152) (idx := 191) (ci := 6) (v := vl ((ruG (ruS (m0 G) N f s).1 N m) 50 25)) hC 50 25 (by decide +kernel) rfl rfl rfl rfl wrM (by decide) rfl (by decide +kernel) ?_
                      refine g_topl (y := ruD (ruS (m0 G) N f s).1 N m) rfl ?_
                      refine g_callS (pc := 155) (idx := 65) (av := [vl (ruU (ruS (m0 G) N f s).1 N m), vl (ruD (ruS (m0 G) N f s).1 N m)]) (rest := []) (g := ruG (ruS (m0 G) N f s).1 N m) (v := vl (gcZ (ruU (ruS (m0 G) N f s).1 N m) (ruD (ruS (m0 G) N f s).1 N m))) hC hro hty (by decide +kernel) k_M_divisor (by decide +kernel) (by decide +kernel) (ct_M_divisor X.la X.dd K (ruG (ruS (m0 G) N f s).1 N m) (ruU (ruS (m0 G) N f s).1 N m) (ruD (ruS (m0 G) N f s).1 N m) hU hDA) rfl rfl (by decide) (by first | decide | simp [Value.category]) ?_
                      refine a_lstore (pc := 158) (q := 0) (i := 11) (lv' := [(11, vl (gcZ (ruU (ruS (m0 G) N f s).1 N m) (ruD (ruS (m0 G) N f s).1 N m))), (10, vi 1), (9, vi ((m : Int))), (8, vi ((s : Int))), (6, vl ((ruS (m0 G) N f s).2.2)), (4, vl ((ruS (m0 G) N f s).2.1)), (3, vi ((fr : Int))), (0, .ref 50), (1, vi ((f : Int)))]) hC (by decide +kernel) (by decide) rfl ?_
                      refine a_aload_n (pc := 160) (q := 0) (i := 0) (x := 50) hC (by decide +kernel) rfl 7 rfl ?_
                      refine g_get (pc := 161) (idx := 188) (ci := 6) (v := vl ((ruG (ruS (m0 G) N f s).1 N m) 50 24)) hC 50 24 (by decide +kernel) rfl rfl rfl rfl wrM (by decide) rfl (by decide +kernel) ?_
                      refine g_topl (y := ruU (ruS (m0 G) N f s).1 N m) rfl ?_
                      refine a_lload (pc := 164) (i := 11) (x := gcZ (ruU (ruS (m0 G) N f s).1 N m) (ruD (ruS (m0 G) N f s).1 N m)) hC (by decide +kernel) 0 rfl ?_
                      refine a_ldiv (pc := 166) hC (by decide +kernel) hU.1 hgi (by omega) ?_
                      refine a_lstore (pc := 167) (q := 0) (i := 13) (lv' := [(13, vl (Int.tdiv (ruU (ruS (m0 G) N f s).1 N m) (gcZ (ruU (ruS (m0 G) N f s).1 N m) (ruD (ruS (m0 G) N f s).1 N m)))), (11, vl (gcZ (ruU (ruS (m0 G) N f s).1 N m) (ruD (ruS (m0 G) N f s).1 N m))), (10, vi 1), (9, vi ((m : Int))), (8, vi ((s : Int))), (6, vl ((ruS (m0 G) N f s).2.2)), (4, vl ((ruS (m0 G) N f s).2.1)), (3, vi ((fr : Int))), (0, .ref 50), (1, vi ((f : Int)))]) hC (by decide +kernel) (by decide) rfl ?_
                      refine a_aload_n (pc := 169) (q := 0) (i := 0) (x := 50) hC (by decide +kernel) rfl 8 rfl ?_
                      refine g_get (pc := 170) (idx := 191) (ci := 6) (v := vl ((ruG (ruS (m0 G) N f s).1 N m) 50 25)) hC 50 25 (by decide +kernel) rfl rfl rfl rfl wrM (by decide) rfl (by decide +kernel) ?_
                      refine g_topl (y := ruD (ruS (m0 G) N f s).1 N m) rfl ?_
                      refine a_lload (pc := 173) (i := 11) (x := gcZ (ruU (ruS (m0 G) N f s).1 N m) (ruD (ruS (m0 G) N f s).1 N m)) hC (by decide +kernel) 1 rfl ?_
                      refine a_ldiv (pc := 175) hC (by decide +kernel) hD.2 hgi (by omega) ?_
                      refine a_lstore (pc := 176) (q := 0) (i := 15) (lv' := [(15, vl (Int.tdiv (ruD (ruS (m0 G) N f s).1 N m) (gcZ (ruU (ruS (m0 G) N f s).1 N m) (ruD (ruS (m0 G) N f s).1 N m)))), (13, vl (Int.tdiv (ruU (ruS (m0 G) N f s).1 N m) (gcZ (ruU (ruS (m0 G) N f s).1 N m) (ruD (ruS (m0 G) N f s).1 N m)))), (11, vl (gcZ (ruU (ruS (m0 G) N f s).1 N m) (ruD (ruS (m0 G) N f s).1 N m))), (10, vi 1), (9, vi ((m : Int))), (8, vi ((s : Int))), (6, vl ((ruS (m0 G) N f s).2.2)), (4, vl ((ruS (m0 G) N f s).2.1)), (3, vi ((fr : Int))), (0, .ref 50), (1, vi ((f : Int)))]) hC (by decide +kernel) (by decide) rfl ?_
                      refine a_aload_n (pc := 178) (q := 0) (i := 0) (x := 50) hC (by decide +kernel) rfl 9 rfl ?_
                      refine a_iload_n (pc := 179) (q := 3) (i := 3) (x := (fr : Int)) hC (by decide +kernel) rfl 8 rfl ?_
                      refine g_callV0 (pc := 180) (idx := 194) (i := 50) (av := [vi ((fr : Int))]) (rest := []) (g := lkS (ruG (ruS (m0 G) N f s).1 N m) N fr N) hC hro hty (by decide +kernel) rfl rfl k_M_layWalk (by decide +kernel) (by decide +kernel) (by decide +kernel) (ct_M_layWalk X.la X.dd K (ruG (ruS (m0 G) N f s).1 N m) N fr (by omega) hmG) rfl rfl (by decide) (by first | decide | simp [Value.category]) ?_
                      refine a_iconst (pc := 183) (c := 0) hC (by decide +kernel) ?_
                      refine a_istore (pc := 184) (q := 0) (i := 17) (lv' := [(17, vi 0), (15, vl (Int.tdiv (ruD (ruS (m0 G) N f s).1 N m) (gcZ (ruU (ruS (m0 G) N f s).1 N m) (ruD (ruS (m0 G) N f s).1 N m)))), (13, vl (Int.tdiv (ruU (ruS (m0 G) N f s).1 N m) (gcZ (ruU (ruS (m0 G) N f s).1 N m) (ruD (ruS (m0 G) N f s).1 N m)))), (11, vl (gcZ (ruU (ruS (m0 G) N f s).1 N m) (ruD (ruS (m0 G) N f s).1 N m))), (10, vi 1), (9, vi ((m : Int))), (8, vi ((s : Int))), (6, vl ((ruS (m0 G) N f s).2.2)), (4, vl ((ruS (m0 G) N f s).2.1)), (3, vi ((fr : Int))), (0, .ref 50), (1, vi ((f : Int)))]) hC (by decide +kernel) (by decide) rfl ?_
                      have L186 : ∀ (fuel : Nat) (t : Nat), N - t < fuel → t ≤ N → AW X 25 0 0 186 [(17, vi ((t : Int))), (15, vl (Int.tdiv (ruD (ruS (m0 G) N f s).1 N m) (gcZ (ruU (ruS (m0 G) N f s).1 N m) (ruD (ruS (m0 G) N f s).1 N m)))), (13, vl (Int.tdiv (ruU (ruS (m0 G) N f s).1 N m) (gcZ (ruU (ruS (m0 G) N f s).1 N m) (ruD (ruS (m0 G) N f s).1 N m)))), (9, vi ((m : Int))), (8, vi ((s : Int))), (6, vl ((ruS (m0 G) N f s).2.2)), (4, vl ((ruS (m0 G) N f s).2.1)), (3, vi ((fr : Int))), (0, .ref 50), (1, vi ((f : Int)))] [] (hp K (uG (lkS (ruG (ruS (m0 G) N f s).1 N m) N fr N) 57 (rtF ((lkS (ruG (ruS (m0 G) N f s).1 N m) N fr N) 57) m t))) := by
                        intro fuel
                        induction fuel with
                        | zero => intro t h; exact absurd h (Nat.not_lt_zero _)
                        | succ fuel ih186 =>
                          intro t hm ht
                          refine a_iload (pc := 186) (i := 17) (x := (t : Int)) hC (by decide +kernel) 0 rfl ?_
                          refine a_aload_n (pc := 188) (q := 0) (i := 0) (x := 50) hC (by decide +kernel) rfl 8 rfl ?_
                          refine g_get (pc := 189) (idx := 72) (ci := 6) (v := vi ((uG (lkS (ruG (ruS (m0 G) N f s).1 N m) N fr N) 57 (rtF ((lkS (ruG (ruS (m0 G) N f s).1 N m) N fr N) 57) m t)) 50 1)) hC 50 1 (by decide +kernel) rfl rfl rfl rfl wrM (by decide) rfl (by decide +kernel) ?_
                          refine g_top (y := (N : Int)) (by rw [uG_n _ _ (by decide)]; exact hmL.1) ?_
                          refine a_icmp_ge (pc := 192) (off := 32) hC 224 (by decide +kernel) (by decide) (by unfold inI; omega) (by unfold inI; omega) (fun c192 => ?_) (fun c192 => ?_)
                          · skip
                            have htN : t = N := by omega
                            have hmR : MM (uG (lkS (ruG (ruS (m0 G) N f s).1 N m) N fr N) 57 (rtF ((lkS (ruG (ruS (m0 G) N f s).1 N m) N fr N) 57) m t)) N := hmL.off (fun b hb => uG_n _ _ (by omega))
                            refine a_lload (pc := 224) (i := 13) (x := Int.tdiv (ruU (ruS (m0 G) N f s).1 N m) (gcZ (ruU (ruS (m0 G) N f s).1 N m) (ruD (ruS (m0 G) N f s).1 N m))) hC (by decide +kernel) 2 rfl ?_
                            refine a_aload_n (pc := 226) (q := 0) (i := 0) (x := 50) hC (by decide +kernel) rfl 8 rfl ?_
                            refine a_iload_n (pc := 227) (q := 1) (i := 1) (x := (f : Int)) hC (by decide +kernel) rfl 9 rfl ?_
                            refine g_callV (pc := 228) (idx := 119) (i := 50) (av := [vi ((f : Int))]) (rest := [vl (Int.tdiv (ruU (ruS (m0 G) N f s).1 N m) (gcZ (ruU (ruS (m0 G) N f s).1 N m) (ruD (ruS (m0 G) N f s).1 N m)))]) (g := alG (uG (lkS (ruG (ruS (m0 G) N f s).1 N m) N fr N) 57 (rtF ((lkS (ruG (ruS (m0 G) N f s).1 N m) N fr N) 57) m t)) ((f : Int)) N) (v := vl (allZ (uG (lkS (ruG (ruS (m0 G) N f s).1 N m) N fr N) 57 (rtF ((lkS (ruG (ruS (m0 G) N f s).1 N m) N fr N) 57) m t)) ((f : Int)) N)) hC hro hty (by decide +kernel) rfl rfl k_M_all (by decide +kernel) (by decide +kernel) (by decide +kernel) (ct_M_all X.la X.dd K (uG (lkS (ruG (ruS (m0 G) N f s).1 N m) N fr N) 57 (rtF ((lkS (ruG (ruS (m0 G) N f s).1 N m) N fr N) 57) m t)) N ((f : Int)) (by omega) (by omega) hmR.1) rfl rfl (by decide) (by first | decide | simp [Value.category]) ?_
                            refine g_G (G' := ruA (ruS (m0 G) N f s).1 N f fr m) (by rw [htN]; rfl) ?_
                            refine a_lmul (pc := 231) hC (by decide +kernel) ?_
                            refine g_topl (y := ruX0 (ruS (m0 G) N f s).1 N f fr m) (by rw [htN]; rfl) ?_
                            refine a_lstore (pc := 232) (q := 0) (i := 17) (lv' := [(17, vl (ruX0 (ruS (m0 G) N f s).1 N f fr m)), (15, vl (Int.tdiv (ruD (ruS (m0 G) N f s).1 N m) (gcZ (ruU (ruS (m0 G) N f s).1 N m) (ruD (ruS (m0 G) N f s).1 N m)))), (13, vl (Int.tdiv (ruU (ruS (m0 G) N f s).1 N m) (gcZ (ruU (ruS (m0 G) N f s).1 N m) (ruD (ruS (m0 G) N f s).1 N m)))), (9, vi ((m : Int))), (8, vi ((s : Int))), (6, vl ((ruS (m0 G) N f s).2.2)), (4, vl ((ruS (m0 G) N f s).2.1)), (3, vi ((fr : Int))), (0, .ref 50), (1, vi ((f : Int)))]) hC (by decide +kernel) (by decide) rfl ?_
                            have hmA : MM (ruA (ruS (m0 G) N f s).1 N f fr m) N := by
                              rw [htN] at hmR
                              exact hmR.off (fun b hb => alG_off (by omega))
                            refine a_lload (pc := 234) (i := 15) (x := Int.tdiv (ruD (ruS (m0 G) N f s).1 N m) (gcZ (ruU (ruS (m0 G) N f s).1 N m) (ruD (ruS (m0 G) N f s).1 N m))) hC (by decide +kernel) 1 rfl ?_
                            refine a_aload_n (pc := 236) (q := 0) (i := 0) (x := 50) hC (by decide +kernel) rfl 8 rfl ?_
                            refine a_iconst (pc := 237) (c := -1) hC (by decide +kernel) ?_
                            refine g_callV (pc := 238) (idx := 119) (i := 50) (av := [vi (-1)]) (rest := [vl (Int.tdiv (ruD (ruS (m0 G) N f s).1 N m) (gcZ (ruU (ruS (m0 G) N f s).1 N m) (ruD (ruS (m0 G) N f s).1 N m)))]) (g := alG (ruA (ruS (m0 G) N f s).1 N f fr m) (-1) N) (v := vl (allZ (ruA (ruS (m0 G) N f s).1 N f fr m) (-1) N)) hC hro hty (by decide +kernel) rfl rfl k_M_all (by decide +kernel) (by decide +kernel) (by decide +kernel) (ct_M_all X.la X.dd K (ruA (ruS (m0 G) N f s).1 N f fr m) N (-1) (by omega) (by omega) hmA.1) rfl rfl (by decide) (by first | decide | simp [Value.category]) ?_
                            refine g_G (G' := ruB (ruS (m0 G) N f s).1 N f fr m) rfl ?_
                            refine a_lmul (pc := 241) hC (by decide +kernel) ?_
                            refine g_topl (y := ruY0 (ruS (m0 G) N f s).1 N f fr m) rfl ?_
                            refine a_lstore (pc := 242) (q := 0) (i := 19) (lv' := [(19, vl (ruY0 (ruS (m0 G) N f s).1 N f fr m)), (17, vl (ruX0 (ruS (m0 G) N f s).1 N f fr m)), (15, vl (Int.tdiv (ruD (ruS (m0 G) N f s).1 N m) (gcZ (ruU (ruS (m0 G) N f s).1 N m) (ruD (ruS (m0 G) N f s).1 N m)))), (13, vl (Int.tdiv (ruU (ruS (m0 G) N f s).1 N m) (gcZ (ruU (ruS (m0 G) N f s).1 N m) (ruD (ruS (m0 G) N f s).1 N m)))), (9, vi ((m : Int))), (8, vi ((s : Int))), (6, vl ((ruS (m0 G) N f s).2.2)), (4, vl ((ruS (m0 G) N f s).2.1)), (3, vi ((fr : Int))), (0, .ref 50), (1, vi ((f : Int)))]) hC (by decide +kernel) (by decide) rfl ?_
                            refine a_lload (pc := 244) (i := 17) (x := ruX0 (ruS (m0 G) N f s).1 N f fr m) hC (by decide +kernel) 1 rfl ?_
                            refine a_lload (pc := 246) (i := 19) (x := ruY0 (ruS (m0 G) N f s).1 N f fr m) hC (by decide +kernel) 0 rfl ?_
                            refine g_callS (pc := 248) (idx := 65) (av := [vl (ruX0 (ruS (m0 G) N f s).1 N f fr m), vl (ruY0 (ruS (m0 G) N f s).1 N f fr m)]) (rest := []) (g := ruB (ruS (m0 G) N f s).1 N f fr m) (v := vl (gcZ (ruX0 (ruS (m0 G) N f s).1 N f fr m) (ruY0 (ruS (m0 G) N f s).1 N f fr m))) hC hro hty (by decide +kernel) k_M_divisor (by decide +kernel) (by decide +kernel) (ct_M_divisor X.la X.dd K (ruB (ruS (m0 G) N f s).1 N f fr m) (ruX0 (ruS (m0 G) N f s).1 N f fr m) (ruY0 (ruS (m0 G) N f s).1 N f fr m) hX0 hY0A) rfl rfl (by decide) (by first | decide | simp [Value.category]) ?_
                            refine a_lstore (pc := 251) (q := 0) (i := 21) (lv' := [(21, vl (gcZ (ruX0 (ruS (m0 G) N f s).1 N f fr m) (ruY0 (ruS (m0 G) N f s).1 N f fr m))), (19, vl (ruY0 (ruS (m0 G) N f s).1 N f fr m)), (17, vl (ruX0 (ruS (m0 G) N f s).1 N f fr m)), (15, vl (Int.tdiv (ruD (ruS (m0 G) N f s).1 N m) (gcZ (ruU (ruS (m0 G) N f s).1 N m) (ruD (ruS (m0 G) N f s).1 N m)))), (13, vl (Int.tdiv (ruU (ruS (m0 G) N f s).1 N m) (gcZ (ruU (ruS (m0 G) N f s).1 N m) (ruD (ruS (m0 G) N f s).1 N m)))), (9, vi ((m : Int))), (8, vi ((s : Int))), (6, vl ((ruS (m0 G) N f s).2.2)), (4, vl ((ruS (m0 G) N f s).2.1)), (3, vi ((fr : Int))), (0, .ref 50), (1, vi ((f : Int)))]) hC (by decide +kernel) (by decide) rfl ?_
                            refine a_lload (pc := 253) (i := 17) (x := ruX0 (ruS (m0 G) N f s).1 N f fr m) hC (by decide +kernel) 2 rfl ?_
                            refine a_lload (pc := 255) (i := 21) (x := gcZ (ruX0 (ruS (m0 G) N f s).1 N f fr m) (ruY0 (ruS (m0 G) N f s).1 N f fr m)) hC (by decide +kernel) 0 rfl ?_
                            refine a_ldiv (pc := 257) hC (by decide +kernel) hX0.1 hhi (by omega) ?_
                            refine g_topl (y := ruX (ruS (m0 G) N f s).1 N f fr m) rfl ?_
                            refine a_lstore (pc := 258) (q := 0) (i := 17) (lv' := [(17, vl (ruX (ruS (m0 G) N f s).1 N f fr m)), (21, vl (gcZ (ruX0 (ruS (m0 G) N f s).1 N f fr m) (ruY0 (ruS (m0 G) N f s).1 N f fr m))), (19, vl (ruY0 (ruS (m0 G) N f s).1 N f fr m)), (15, vl (Int.tdiv (ruD (ruS (m0 G) N f s).1 N m) (gcZ (ruU (ruS (m0 G) N f s).1 N m) (ruD (ruS (m0 G) N f s).1 N m)))), (13, vl (Int.tdiv (ruU (ruS (m0 G) N f s).1 N m) (gcZ (ruU (ruS (m0 G) N f s).1 N m) (ruD (ruS (m0 G) N f s).1 N m)))), (9, vi ((m : Int))), (8, vi ((s : Int))), (6, vl ((ruS (m0 G) N f s).2.2)), (4, vl ((ruS (m0 G) N f s).2.1)), (3, vi ((fr : Int))), (0, .ref 50), (1, vi ((f : Int)))]) hC (by decide +kernel) (by decide) rfl ?_
                            refine a_lload (pc := 260) (i := 19) (x := ruY0 (ruS (m0 G) N f s).1 N f fr m) hC (by decide +kernel) 2 rfl ?_
                            refine a_lload (pc := 262) (i := 21) (x := gcZ (ruX0 (ruS (m0 G) N f s).1 N f fr m) (ruY0 (ruS (m0 G) N f s).1 N f fr m)) hC (by decide +kernel) 1 rfl ?_
                            refine a_ldiv (pc := 264) hC (by decide +kernel) hY0.2 hhi (by omega) ?_
                            refine g_topl (y := ruY (ruS (m0 G) N f s).1 N f fr m) rfl ?_
                            refine a_lstore (pc := 265) (q := 0) (i := 19) (lv' := [(19, vl (ruY (ruS (m0 G) N f s).1 N f fr m)), (17, vl (ruX (ruS (m0 G) N f s).1 N f fr m)), (21, vl (gcZ (ruX0 (ruS (m0 G) N f s).1 N f fr m) (ruY0 (ruS (m0 G) N f s).1 N f fr m))), (15, vl (Int.tdiv (ruD (ruS (m0 G) N f s).1 N m) (gcZ (ruU (ruS (m0 G) N f s).1 N m) (ruD (ruS (m0 G) N f s).1 N m)))), (13, vl (Int.tdiv (ruU (ruS (m0 G) N f s).1 N m) (gcZ (ruU (ruS (m0 G) N f s).1 N m) (ruD (ruS (m0 G) N f s).1 N m)))), (9, vi ((m : Int))), (8, vi ((s : Int))), (6, vl ((ruS (m0 G) N f s).2.2)), (4, vl ((ruS (m0 G) N f s).2.1)), (3, vi ((fr : Int))), (0, .ref 50), (1, vi ((f : Int)))]) hC (by decide +kernel) (by decide) rfl ?_
                            refine a_lload (pc := 267) (i := 6) (x := (ruS (m0 G) N f s).2.2) hC (by decide +kernel) 7 rfl ?_
                            refine a_lload (pc := 269) (i := 19) (x := ruY (ruS (m0 G) N f s).1 N f fr m) hC (by decide +kernel) 0 rfl ?_
                            refine g_callS (pc := 271) (idx := 65) (av := [vl ((ruS (m0 G) N f s).2.2), vl (ruY (ruS (m0 G) N f s).1 N f fr m)]) (rest := []) (g := ruB (ruS (m0 G) N f s).1 N f fr m) (v := vl (gcZ ((ruS (m0 G) N f s).2.2) (ruY (ruS (m0 G) N f s).1 N f fr m))) hC hro hty (by decide +kernel) k_M_divisor (by decide +kernel) (by decide +kernel) (ct_M_divisor X.la X.dd K (ruB (ruS (m0 G) N f s).1 N f fr m) ((ruS (m0 G) N f s).2.2) (ruY (ruS (m0 G) N f s).1 N f fr m) hdA hYA) rfl rfl (by decide) (by first | decide | simp [Value.category]) ?_
                            refine a_lstore (pc := 274) (q := 0) (i := 23) (lv' := [(23, vl (gcZ ((ruS (m0 G) N f s).2.2) (ruY (ruS (m0 G) N f s).1 N f fr m))), (19, vl (ruY (ruS (m0 G) N f s).1 N f fr m)), (17, vl (ruX (ruS (m0 G) N f s).1 N f fr m)), (21, vl (gcZ (ruX0 (ruS (m0 G) N f s).1 N f fr m) (ruY0 (ruS (m0 G) N f s).1 N f fr m))), (15, vl (Int.tdiv (ruD (ruS (m0 G) N f s).1 N m) (gcZ (ruU (ruS (m0 G) N f s).1 N m) (ruD (ruS (m0 G) N f s).1 N m)))), (13, vl (Int.tdiv (ruU (ruS (m0 G) N f s).1 N m) (gcZ (ruU (ruS (m0 G) N f s).1 N m) (ruD (ruS (m0 G) N f s).1 N m)))), (9, vi ((m : Int))), (8, vi ((s : Int))), (6, vl ((ruS (m0 G) N f s).2.2)), (4, vl ((ruS (m0 G) N f s).2.1)), (3, vi ((fr : Int))), (0, .ref 50), (1, vi ((f : Int)))]) hC (by decide +kernel) (by decide) rfl ?_
                            refine a_lload (pc := 276) (i := 4) (x := (ruS (m0 G) N f s).2.1) hC (by decide +kernel) 9 rfl ?_
                            refine a_lload (pc := 278) (i := 19) (x := ruY (ruS (m0 G) N f s).1 N f fr m) hC (by decide +kernel) 1 rfl ?_
                            refine a_lload (pc := 280) (i := 23) (x := gcZ ((ruS (m0 G) N f s).2.2) (ruY (ruS (m0 G) N f s).1 N f fr m)) hC (by decide +kernel) 0 rfl ?_
                            refine a_ldiv (pc := 282) hC (by decide +kernel) hYA.1 hki (by omega) ?_
                            refine a_lmul (pc := 283) hC (by decide +kernel) ?_
                            refine a_lload (pc := 284) (i := 17) (x := ruX (ruS (m0 G) N f s).1 N f fr m) hC (by decide +kernel) 2 rfl ?_
                            refine a_lload (pc := 286) (i := 6) (x := (ruS (m0 G) N f s).2.2) hC (by decide +kernel) 8 rfl ?_
                            refine a_lload (pc := 288) (i := 23) (x := gcZ ((ruS (m0 G) N f s).2.2) (ruY (ruS (m0 G) N f s).1 N f fr m)) hC (by decide +kernel) 0 rfl ?_
                            refine a_ldiv (pc := 290) hC (by decide +kernel) hd.2 hki (by omega) ?_
                            refine a_lmul (pc := 291) hC (by decide +kernel) ?_
                            refine a_ladd (pc := 292) hC (by decide +kernel) ?_
                            refine a_lstore (pc := 293) (q := 0) (i := 4) (lv' := [(4, vl ((((ruS (m0 G) N f s).2.1) * (Int.tdiv (ruY (ruS (m0 G) N f s).1 N f fr m) (gcZ ((ruS (m0 G) N f s).2.2) (ruY (ruS (m0 G) N f s).1 N f fr m)))) + ((ruX (ruS (m0 G) N f s).1 N f fr m) * (Int.tdiv ((ruS (m0 G) N f s).2.2) (gcZ ((ruS (m0 G) N f s).2.2) (ruY (ruS (m0 G) N f s).1 N f fr m)))))), (23, vl (gcZ ((ruS (m0 G) N f s).2.2) (ruY (ruS (m0 G) N f s).1 N f fr m))), (19, vl (ruY (ruS (m0 G) N f s).1 N f fr m)), (17, vl (ruX (ruS (m0 G) N f s).1 N f fr m)), (21, vl (gcZ (ruX0 (ruS (m0 G) N f s).1 N f fr m) (ruY0 (ruS (m0 G) N f s).1 N f fr m))), (15, vl (Int.tdiv (ruD (ruS (m0 G) N f s).1 N m) (gcZ (ruU (ruS (m0 G) N f s).1 N m) (ruD (ruS (m0 G) N f s).1 N m)))), (13, vl (Int.tdiv (ruU (ruS (m0 G) N f s).1 N m) (gcZ (ruU (ruS (m0 G) N f s).1 N m) (ruD (ruS (m0 G) N f s).1 N m)))), (9, vi ((m : Int))), (8, vi ((s : Int))), (6, vl ((ruS (m0 G) N f s).2.2)), (3, vi ((fr : Int))), (0, .ref 50), (1, vi ((f : Int)))]) hC (by decide +kernel) (by decide) rfl ?_
                            refine a_lload (pc := 295) (i := 6) (x := (ruS (m0 G) N f s).2.2) hC (by decide +kernel) 9 rfl ?_
                            refine a_lload (pc := 297) (i := 23) (x := gcZ ((ruS (m0 G) N f s).2.2) (ruY (ruS (m0 G) N f s).1 N f fr m)) hC (by decide +kernel) 1 rfl ?_
                            refine a_ldiv (pc := 299) hC (by decide +kernel) hd.2 hki (by omega) ?_
                            refine a_lload (pc := 300) (i := 19) (x := ruY (ruS (m0 G) N f s).1 N f fr m) hC (by decide +kernel) 2 rfl ?_
                            refine a_lmul (pc := 302) hC (by decide +kernel) ?_
                            refine a_lstore (pc := 303) (q := 0) (i := 6) (lv' := [(6, vl ((Int.tdiv ((ruS (m0 G) N f s).2.2) (gcZ ((ruS (m0 G) N f s).2.2) (ruY (ruS (m0 G) N f s).1 N f fr m))) * (ruY (ruS (m0 G) N f s).1 N f fr m))), (4, vl ((((ruS (m0 G) N f s).2.1) * (Int.tdiv (ruY (ruS (m0 G) N f s).1 N f fr m) (gcZ ((ruS (m0 G) N f s).2.2) (ruY (ruS (m0 G) N f s).1 N f fr m)))) + ((ruX (ruS (m0 G) N f s).1 N f fr m) * (Int.tdiv ((ruS (m0 G) N f s).2.2) (gcZ ((ruS (m0 G) N f s).2.2) (ruY (ruS (m0 G) N f s).1 N f fr m)))))), (23, vl (gcZ ((ruS (m0 G) N f s).2.2) (ruY (ruS (m0 G) N f s).1 N f fr m))), (19, vl (ruY (ruS (m0 G) N f s).1 N f fr m)), (17, vl (ruX (ruS (m0 G) N f s).1 N f fr m)), (21, vl (gcZ (ruX0 (ruS (m0 G) N f s).1 N f fr m) (ruY0 (ruS (m0 G) N f s).1 N f fr m))), (15, vl (Int.tdiv (ruD (ruS (m0 G) N f s).1 N m) (gcZ (ruU (ruS (m0 G) N f s).1 N m) (ruD (ruS (m0 G) N f s).1 N m)))), (13, vl (Int.tdiv (ruU (ruS (m0 G) N f s).1 N m) (gcZ (ruU (ruS (m0 G) N f s).1 N m) (ruD (ruS (m0 G) N f s).1 N m)))), (9, vi ((m : Int))), (8, vi ((s : Int))), (3, vi ((fr : Int))), (0, .ref 50), (1, vi ((f : Int)))]) hC (by decide +kernel) (by decide) rfl ?_
                            refine a_iinc (pc := 305) (i := 8) (c := 1) (x := (s : Int)) (lv' := [(8, vi (((s : Int)) + 1)), (6, vl ((Int.tdiv ((ruS (m0 G) N f s).2.2) (gcZ ((ruS (m0 G) N f s).2.2) (ruY (ruS (m0 G) N f s).1 N f fr m))) * (ruY (ruS (m0 G) N f s).1 N f fr m))), (4, vl ((((ruS (m0 G) N f s).2.1) * (Int.tdiv (ruY (ruS (m0 G) N f s).1 N f fr m) (gcZ ((ruS (m0 G) N f s).2.2) (ruY (ruS (m0 G) N f s).1 N f fr m)))) + ((ruX (ruS (m0 G) N f s).1 N f fr m) * (Int.tdiv ((ruS (m0 G) N f s).2.2) (gcZ ((ruS (m0 G) N f s).2.2) (ruY (ruS (m0 G) N f s).1 N f fr m)))))), (23, vl (gcZ ((ruS (m0 G) N f s).2.2) (ruY (ruS (m0 G) N f s).1 N f fr m))), (19, vl (ruY (ruS (m0 G) N f s).1 N f fr m)), (17, vl (ruX (ruS (m0 G) N f s).1 N f fr m)), (21, vl (gcZ (ruX0 (ruS (m0 G) N f s).1 N f fr m) (ruY0 (ruS (m0 G) N f s).1 N f fr m))), (15, vl (Int.tdiv (ruD (ruS (m0 G) N f s).1 N m) (gcZ (ruU (ruS (m0 G) N f s).1 N m) (ruD (ruS (m0 G) N f s).1 N m)))), (13, vl (Int.tdiv (ruU (ruS (m0 G) N f s).1 N m) (gcZ (ruU (ruS (m0 G) N f s).1 N m) (ruD (ruS (m0 G) N f s).1 N m)))), (9, vi ((m : Int))), (3, vi ((fr : Int))), (0, .ref 50), (1, vi ((f : Int)))]) hC (by decide +kernel) 9 rfl (by decide) rfl ?_
                            refine a_goto (pc := 308) (off := -213) hC 95 (by decide +kernel) (by decide) ?_
                            refine a_sub (lv' := [(8, vi (((s + 1) : Int))), (6, vl ((ruS (m0 G) N f (s + 1)).2.2)), (4, vl ((ruS (m0 G) N f (s + 1)).2.1)), (3, vi ((fr : Int))), (0, .ref 50), (1, vi ((f : Int)))]) [0, 1, 2, 10, 11, 12] (by rw [hst]; rfl) ?_
                            refine g_G (G' := (ruS (m0 G) N f (s + 1)).1) (by rw [hst]) ?_
                            exact ih95 (s + 1) (by omega) (by omega)
                          · skip
                            have hsl := sr_lt (m := m) (k := t) (by omega)
                            have hb2 := bt2_in m t
                            refine a_aload_n (pc := 195) (q := 0) (i := 0) (x := 50) hC (by decide +kernel) rfl 8 rfl ?_
                            refine g_get (pc := 196) (idx := 41) (ci := 6) (v := .ref 57) hC 50 12 (by decide +kernel) rfl rfl rfl rfl wrM (by decide) rfl (by decide +kernel) ?_
                            refine a_iload (pc := 199) (i := 17) (x := (t : Int)) hC (by decide +kernel) 0 rfl ?_
                            refine a_iload (pc := 201) (i := 9) (x := (m : Int)) hC (by decide +kernel) 3 rfl ?_
                            refine a_iload (pc := 203) (i := 17) (x := (t : Int)) hC (by decide +kernel) 0 rfl ?_
                            refine a_ishr (pc := 205) (z := ((sr m t : Nat) : Int)) hC (by decide +kernel) (shr5 m (by omega) t (by omega)) ?_
                            refine a_iconst (pc := 206) (c := 1) hC (by decide +kernel) ?_
                            refine a_iand (pc := 207) (z := ((bt2 m t : Nat) : Int)) hC (by decide +kernel) (and1 _ hsl) ?_
                            refine a_iconst (pc := 208) (c := 1) hC (by decide +kernel) ?_
                            refine a_icmp_ne (pc := 209) (off := 7) hC 216 (by decide +kernel) (by decide) (by unfold inI; omega) (by unfold inI; omega) (fun c209 => ?_) (fun c209 => ?_)
                            · skip
                              have hx : (0 : Int) = ((bt2 m t : Nat) : Int) := by omega
                              refine a_lconst (pc := 216) (c := 0) (z := 0) hC (by decide +kernel) rfl ?_
                              refine g_last (pc := 217) (a := 57) (j := t) (x := 0) hC hty (by decide +kernel) rfl (by omega) (by first | decide | omega) ?_
                              refine a_iinc (pc := 218) (i := 17) (c := 1) (x := (t : Int)) (lv' := [(17, vi (((t : Int)) + 1)), (15, vl (Int.tdiv (ruD (ruS (m0 G) N f s).1 N m) (gcZ (ruU (ruS (m0 G) N f s).1 N m) (ruD (ruS (m0 G) N f s).1 N m)))), (13, vl (Int.tdiv (ruU (ruS (m0 G) N f s).1 N m) (gcZ (ruU (ruS (m0 G) N f s).1 N m) (ruD (ruS (m0 G) N f s).1 N m)))), (9, vi ((m : Int))), (8, vi ((s : Int))), (6, vl ((ruS (m0 G) N f s).2.2)), (4, vl ((ruS (m0 G) N f s).2.1)), (3, vi ((fr : Int))), (0, .ref 50), (1, vi ((f : Int)))]) hC (by decide +kernel) 0 rfl (by decide) rfl ?_
                              refine a_goto (pc := 221) (off := -35) hC 186 (by decide +kernel) (by decide) ?_
                              refine a_sub (lv' := [(17, vi (((t + 1) : Int))), (15, vl (Int.tdiv (ruD (ruS (m0 G) N f s).1 N m) (gcZ (ruU (ruS (m0 G) N f s).1 N m) (ruD (ruS (m0 G) N f s).1 N m)))), (13, vl (Int.tdiv (ruU (ruS (m0 G) N f s).1 N m) (gcZ (ruU (ruS (m0 G) N f s).1 N m) (ruD (ruS (m0 G) N f s).1 N m)))), (9, vi ((m : Int))), (8, vi ((s : Int))), (6, vl ((ruS (m0 G) N f s).2.2)), (4, vl ((ruS (m0 G) N f s).2.1)), (3, vi ((fr : Int))), (0, .ref 50), (1, vi ((f : Int)))]) [0, 1, 2, 3, 4, 5, 6, 7, 8, 9] rfl ?_
                              refine g_G (G' := uG (lkS (ruG (ruS (m0 G) N f s).1 N m) N fr N) 57 (rtF ((lkS (ruG (ruS (m0 G) N f s).1 N m) N fr N) 57) m (t + 1))) (by rw [uG_s, uG_uG, rtF_s _ _ _ _ hx]) ?_
                              exact ih186 (t + 1) (by omega) (by omega)
                            · skip
                              have hx : (1 : Int) = ((bt2 m t : Nat) : Int) := by omega
                              refine a_lconst (pc := 212) (c := 1) (z := 1) hC (by decide +kernel) rfl ?_
                              refine a_goto (pc := 213) (off := 4) hC 217 (by decide +kernel) (by decide) ?_
                              refine g_last (pc := 217) (a := 57) (j := t) (x := 1) hC hty (by decide +kernel) rfl (by omega) (by first | decide | omega) ?_
                              refine a_iinc (pc := 218) (i := 17) (c := 1) (x := (t : Int)) (lv' := [(17, vi (((t : Int)) + 1)), (15, vl (Int.tdiv (ruD (ruS (m0 G) N f s).1 N m) (gcZ (ruU (ruS (m0 G) N f s).1 N m) (ruD (ruS (m0 G) N f s).1 N m)))), (13, vl (Int.tdiv (ruU (ruS (m0 G) N f s).1 N m) (gcZ (ruU (ruS (m0 G) N f s).1 N m) (ruD (ruS (m0 G) N f s).1 N m)))), (9, vi ((m : Int))), (8, vi ((s : Int))), (6, vl ((ruS (m0 G) N f s).2.2)), (4, vl ((ruS (m0 G) N f s).2.1)), (3, vi ((fr : Int))), (0, .ref 50), (1, vi ((f : Int)))]) hC (by decide +kernel) 0 rfl (by decide) rfl ?_
                              refine a_goto (pc := 221) (off := -35) hC 186 (by decide +kernel) (by decide) ?_
                              refine a_sub (lv' := [(17, vi (((t + 1) : Int))), (15, vl (Int.tdiv (ruD (ruS (m0 G) N f s).1 N m) (gcZ (ruU (ruS (m0 G) N f s).1 N m) (ruD (ruS (m0 G) N f s).1 N m)))), (13, vl (Int.tdiv (ruU (ruS (m0 G) N f s).1 N m) (gcZ (ruU (ruS (m0 G) N f s).1 N m) (ruD (ruS (m0 G) N f s).1 N m)))), (9, vi ((m : Int))), (8, vi ((s : Int))), (6, vl ((ruS (m0 G) N f s).2.2)), (4, vl ((ruS (m0 G) N f s).2.1)), (3, vi ((fr : Int))), (0, .ref 50), (1, vi ((f : Int)))]) [0, 1, 2, 3, 4, 5, 6, 7, 8, 9] rfl ?_
                              refine g_G (G' := uG (lkS (ruG (ruS (m0 G) N f s).1 N m) N fr N) 57 (rtF ((lkS (ruG (ruS (m0 G) N f s).1 N m) N fr N) 57) m (t + 1))) (by rw [uG_s, uG_uG, rtF_s _ _ _ _ hx]) ?_
                              exact ih186 (t + 1) (by omega) (by omega)
                      refine a_sub (lv' := [(17, vi ((0 : Int))), (15, vl (Int.tdiv (ruD (ruS (m0 G) N f s).1 N m) (gcZ (ruU (ruS (m0 G) N f s).1 N m) (ruD (ruS (m0 G) N f s).1 N m)))), (13, vl (Int.tdiv (ruU (ruS (m0 G) N f s).1 N m) (gcZ (ruU (ruS (m0 G) N f s).1 N m) (ruD (ruS (m0 G) N f s).1 N m)))), (9, vi ((m : Int))), (8, vi ((s : Int))), (6, vl ((ruS (m0 G) N f s).2.2)), (4, vl ((ruS (m0 G) N f s).2.1)), (3, vi ((fr : Int))), (0, .ref 50), (1, vi ((f : Int)))]) [0, 1, 2, 5, 6, 7, 8, 9, 10, 11] rfl ?_
                      refine g_G (G' := uG (lkS (ruG (ruS (m0 G) N f s).1 N m) N fr N) 57 (rtF ((lkS (ruG (ruS (m0 G) N f s).1 N m) N fr N) 57) m 0)) (by rw [rtF_0, uG_self]) ?_
                      exact L186 _ 0 (Nat.lt_succ_self _) (by omega)
          refine a_sub (lv' := [(8, vi ((0 : Int))), (6, vl ((ruS (m0 G) N f 0).2.2)), (4, vl ((ruS (m0 G) N f 0).2.1)), (3, vi ((fr : Int))), (0, .ref 50), (1, vi ((f : Int)))]) [0, 1, 2, 3, 5, 6] (by rw [show s = N by omega, hfe]; rfl) ?_
          refine g_G (G' := (ruS (m0 G) N f 0).1) rfl ?_
          exact L95 _ 0 (Nat.lt_succ_self _) (by omega)
        · skip
          have hr32 := rng_lt (G := (m0 G)) (s := s) hN5 (by omega)
          have hri := riS_lt (m0 G) N s (by omega)
          have hfi := frS_lt (m0 G) N s (by omega)
          have hpt := pw_in (k := s) (by omega)
          have htt := tTot_in hm1 (by omega : s < 5)
          refine a_aload_n (pc := 31) (q := 0) (i := 0) (x := 50) hC (by decide +kernel) rfl 3 rfl ?_
          refine a_iload (pc := 32) (i := 4) (x := (s : Int)) hC (by decide +kernel) 0 rfl ?_
          refine g_callV (pc := 34) (idx := 198) (i := 50) (av := [vi ((s : Int))]) (rest := []) (g := m0 G) (v := vi (((rng (m0 G) N s : Nat) : Int))) hC hro hty (by decide +kernel) rfl rfl k_M_ring (by decide +kernel) (by decide +kernel) (by decide +kernel) (ct_M_ring X.la X.dd K (m0 G) N s (by omega) hm1) rfl rfl (by decide) (by first | decide | simp [Value.category]) ?_
          refine a_if_eq (pc := 37) (off := 12) hC 49 (by decide +kernel) (by decide) (by unfold inI; omega) (fun c37 => ?_) (fun c37 => ?_)
          · skip
            have hri1 : (riS (m0 G) N s) = riS (m0 G) N (s + 1) := by show _ = (if _ then _ else _); rw [if_pos (by omega)]
            refine a_iload_n (pc := 49) (q := 2) (i := 2) (x := (((riS (m0 G) N s) : Nat) : Int)) hC (by decide +kernel) rfl 2 rfl ?_
            refine a_istore_n (pc := 50) (q := 2) (i := 2) (lv' := [(2, vi ((((riS (m0 G) N s) : Nat) : Int))), (4, vi ((s : Int))), (3, vi ((((frS (m0 G) N s) : Nat) : Int))), (0, .ref 50), (1, vi ((f : Int)))]) hC (by decide +kernel) rfl (by decide) rfl ?_
            refine a_aload_n (pc := 51) (q := 0) (i := 0) (x := 50) hC (by decide +kernel) rfl 3 rfl ?_
            refine a_iload (pc := 52) (i := 4) (x := (s : Int)) hC (by decide +kernel) 1 rfl ?_
            refine g_callV (pc := 54) (idx := 198) (i := 50) (av := [vi ((s : Int))]) (rest := []) (g := m0 G) (v := vi (((rng (m0 G) N s : Nat) : Int))) hC hro hty (by decide +kernel) rfl rfl k_M_ring (by decide +kernel) (by decide +kernel) (by decide +kernel) (ct_M_ring X.la X.dd K (m0 G) N s (by omega) hm1) rfl rfl (by decide) (by first | decide | simp [Value.category]) ?_
            refine a_if_ne (pc := 57) (off := 21) hC 78 (by decide +kernel) (by decide) (by unfold inI; omega) (fun c57 => ?_) (fun c57 => ?_)
            · skip
              have hfr1 : (frS (m0 G) N s) = frS (m0 G) N (s + 1) := by show _ = (if _ then _ else _); rw [if_neg (by omega)]
              refine a_iload_n (pc := 78) (q := 3) (i := 3) (x := (((frS (m0 G) N s) : Nat) : Int)) hC (by decide +kernel) rfl 2 rfl ?_
              refine a_istore_n (pc := 79) (q := 3) (i := 3) (lv' := [(3, vi ((((frS (m0 G) N s) : Nat) : Int))), (2, vi ((((riS (m0 G) N s) : Nat) : Int))), (4, vi ((s : Int))), (0, .ref 50), (1, vi ((f : Int)))]) hC (by decide +kernel) rfl (by decide) rfl ?_
              refine a_iinc (pc := 80) (i := 4) (c := 1) (x := (s : Int)) (lv' := [(4, vi (((s : Int)) + 1)), (3, vi ((((frS (m0 G) N s) : Nat) : Int))), (2, vi ((((riS (m0 G) N s) : Nat) : Int))), (0, .ref 50), (1, vi ((f : Int)))]) hC (by decide +kernel) 2 rfl (by decide) rfl ?_
              refine a_goto (pc := 83) (off := -61) hC 22 (by decide +kernel) (by decide) ?_
              refine a_sub (lv' := [(4, vi (((s + 1) : Int))), (3, vi ((((frS (m0 G) N (s + 1)) : Nat) : Int))), (2, vi ((((riS (m0 G) N (s + 1)) : Nat) : Int))), (0, .ref 50), (1, vi ((f : Int)))]) [0, 1, 2, 3, 4] (by rw [← hri1, ← hfr1]; rfl) ?_
              exact ih22 (s + 1) (by omega) (by omega)
            · skip
              refine a_aload_n (pc := 60) (q := 0) (i := 0) (x := 50) hC (by decide +kernel) rfl 3 rfl ?_
              refine a_iload (pc := 61) (i := 4) (x := (s : Int)) hC (by decide +kernel) 1 rfl ?_
              refine g_callV (pc := 63) (idx := 185) (i := 50) (av := [vi ((s : Int))]) (rest := []) (g := m0 G) (v := vi (tTot (m0 G) s)) hC hro hty (by decide +kernel) rfl rfl k_M_toldTotal (by decide +kernel) (by decide +kernel) (by decide +kernel) (ct_M_toldTotal X.la X.dd K (m0 G) N s (by omega) hm1) rfl rfl (by decide) (by first | decide | simp [Value.category]) ?_
              refine a_if_le (pc := 66) (off := 12) hC 78 (by decide +kernel) (by decide) (by unfold inI; omega) (fun c66 => ?_) (fun c66 => ?_)
              · skip
                have hfr1 : (frS (m0 G) N s) = frS (m0 G) N (s + 1) := by show _ = (if _ then _ else _); rw [if_neg (by omega)]
                refine a_iload_n (pc := 78) (q := 3) (i := 3) (x := (((frS (m0 G) N s) : Nat) : Int)) hC (by decide +kernel) rfl 2 rfl ?_
                refine a_istore_n (pc := 79) (q := 3) (i := 3) (lv' := [(3, vi ((((frS (m0 G) N s) : Nat) : Int))), (2, vi ((((riS (m0 G) N s) : Nat) : Int))), (4, vi ((s : Int))), (0, .ref 50), (1, vi ((f : Int)))]) hC (by decide +kernel) rfl (by decide) rfl ?_
                refine a_iinc (pc := 80) (i := 4) (c := 1) (x := (s : Int)) (lv' := [(4, vi (((s : Int)) + 1)), (3, vi ((((frS (m0 G) N s) : Nat) : Int))), (2, vi ((((riS (m0 G) N s) : Nat) : Int))), (0, .ref 50), (1, vi ((f : Int)))]) hC (by decide +kernel) 2 rfl (by decide) rfl ?_
                refine a_goto (pc := 83) (off := -61) hC 22 (by decide +kernel) (by decide) ?_
                refine a_sub (lv' := [(4, vi (((s + 1) : Int))), (3, vi ((((frS (m0 G) N (s + 1)) : Nat) : Int))), (2, vi ((((riS (m0 G) N (s + 1)) : Nat) : Int))), (0, .ref 50), (1, vi ((f : Int)))]) [0, 1, 2, 3, 4] (by rw [← hri1, ← hfr1]; rfl) ?_
                exact ih22 (s + 1) (by omega) (by omega)
              · skip
                have hfr1 : orN (frS (m0 G) N s) s = frS (m0 G) N (s + 1) := by show _ = (if _ then _ else _); rw [if_pos (by omega)]
                refine a_iload_n (pc := 69) (q := 3) (i := 3) (x := (((frS (m0 G) N s) : Nat) : Int)) hC (by decide +kernel) rfl 2 rfl ?_
                refine a_iconst (pc := 70) (c := 1) hC (by decide +kernel) ?_
                refine a_iload (pc := 71) (i := 4) (x := (s : Int)) hC (by decide +kernel) 1 rfl ?_
                refine a_ishl (pc := 73) (z := ((pw s : Nat) : Int)) hC (by decide +kernel) (iZ_shl (by omega)) ?_
                refine a_ior (pc := 74) (z := ((orN (frS (m0 G) N s) s : Nat) : Int)) hC (by decide +kernel) or_nat ?_
                refine a_goto (pc := 75) (off := 4) hC 79 (by decide +kernel) (by decide) ?_
                refine a_istore_n (pc := 79) (q := 3) (i := 3) (lv' := [(3, vi (((orN (frS (m0 G) N s) s : Nat) : Int))), (2, vi ((((riS (m0 G) N s) : Nat) : Int))), (4, vi ((s : Int))), (0, .ref 50), (1, vi ((f : Int)))]) hC (by decide +kernel) rfl (by decide) rfl ?_
                refine a_iinc (pc := 80) (i := 4) (c := 1) (x := (s : Int)) (lv' := [(4, vi (((s : Int)) + 1)), (3, vi (((orN (frS (m0 G) N s) s : Nat) : Int))), (2, vi ((((riS (m0 G) N s) : Nat) : Int))), (0, .ref 50), (1, vi ((f : Int)))]) hC (by decide +kernel) 2 rfl (by decide) rfl ?_
                refine a_goto (pc := 83) (off := -61) hC 22 (by decide +kernel) (by decide) ?_
                refine a_sub (lv' := [(4, vi (((s + 1) : Int))), (3, vi ((((frS (m0 G) N (s + 1)) : Nat) : Int))), (2, vi ((((riS (m0 G) N (s + 1)) : Nat) : Int))), (0, .ref 50), (1, vi ((f : Int)))]) [0, 1, 2, 3, 4] (by rw [← hri1, ← hfr1]; rfl) ?_
                exact ih22 (s + 1) (by omega) (by omega)
          · skip
            have hri1 : orN (riS (m0 G) N s) s = riS (m0 G) N (s + 1) := by show _ = (if _ then _ else _); rw [if_neg (by omega)]
            refine a_iload_n (pc := 40) (q := 2) (i := 2) (x := (((riS (m0 G) N s) : Nat) : Int)) hC (by decide +kernel) rfl 2 rfl ?_
            refine a_iconst (pc := 41) (c := 1) hC (by decide +kernel) ?_
            refine a_iload (pc := 42) (i := 4) (x := (s : Int)) hC (by decide +kernel) 0 rfl ?_
            refine a_ishl (pc := 44) (z := ((pw s : Nat) : Int)) hC (by decide +kernel) (iZ_shl (by omega)) ?_
            refine a_ior (pc := 45) (z := ((orN (riS (m0 G) N s) s : Nat) : Int)) hC (by decide +kernel) or_nat ?_
            refine a_goto (pc := 46) (off := 4) hC 50 (by decide +kernel) (by decide) ?_
            refine a_istore_n (pc := 50) (q := 2) (i := 2) (lv' := [(2, vi (((orN (riS (m0 G) N s) s : Nat) : Int))), (4, vi ((s : Int))), (3, vi ((((frS (m0 G) N s) : Nat) : Int))), (0, .ref 50), (1, vi ((f : Int)))]) hC (by decide +kernel) rfl (by decide) rfl ?_
            refine a_aload_n (pc := 51) (q := 0) (i := 0) (x := 50) hC (by decide +kernel) rfl 3 rfl ?_
            refine a_iload (pc := 52) (i := 4) (x := (s : Int)) hC (by decide +kernel) 1 rfl ?_
            refine g_callV (pc := 54) (idx := 198) (i := 50) (av := [vi ((s : Int))]) (rest := []) (g := m0 G) (v := vi (((rng (m0 G) N s : Nat) : Int))) hC hro hty (by decide +kernel) rfl rfl k_M_ring (by decide +kernel) (by decide +kernel) (by decide +kernel) (ct_M_ring X.la X.dd K (m0 G) N s (by omega) hm1) rfl rfl (by decide) (by first | decide | simp [Value.category]) ?_
            refine a_if_ne (pc := 57) (off := 21) hC 78 (by decide +kernel) (by decide) (by unfold inI; omega) (fun c57 => ?_) (fun c57 => ?_)
            · skip
              have hfr1 : (frS (m0 G) N s) = frS (m0 G) N (s + 1) := by show _ = (if _ then _ else _); rw [if_neg (by omega)]
              refine a_iload_n (pc := 78) (q := 3) (i := 3) (x := (((frS (m0 G) N s) : Nat) : Int)) hC (by decide +kernel) rfl 2 rfl ?_
              refine a_istore_n (pc := 79) (q := 3) (i := 3) (lv' := [(3, vi ((((frS (m0 G) N s) : Nat) : Int))), (2, vi (((orN (riS (m0 G) N s) s : Nat) : Int))), (4, vi ((s : Int))), (0, .ref 50), (1, vi ((f : Int)))]) hC (by decide +kernel) rfl (by decide) rfl ?_
              refine a_iinc (pc := 80) (i := 4) (c := 1) (x := (s : Int)) (lv' := [(4, vi (((s : Int)) + 1)), (3, vi ((((frS (m0 G) N s) : Nat) : Int))), (2, vi (((orN (riS (m0 G) N s) s : Nat) : Int))), (0, .ref 50), (1, vi ((f : Int)))]) hC (by decide +kernel) 2 rfl (by decide) rfl ?_
              refine a_goto (pc := 83) (off := -61) hC 22 (by decide +kernel) (by decide) ?_
              refine a_sub (lv' := [(4, vi (((s + 1) : Int))), (3, vi ((((frS (m0 G) N (s + 1)) : Nat) : Int))), (2, vi ((((riS (m0 G) N (s + 1)) : Nat) : Int))), (0, .ref 50), (1, vi ((f : Int)))]) [0, 1, 2, 3, 4] (by rw [← hri1, ← hfr1]; rfl) ?_
              exact ih22 (s + 1) (by omega) (by omega)
            · skip
              refine a_aload_n (pc := 60) (q := 0) (i := 0) (x := 50) hC (by decide +kernel) rfl 3 rfl ?_
              refine a_iload (pc := 61) (i := 4) (x := (s : Int)) hC (by decide +kernel) 1 rfl ?_
              refine g_callV (pc := 63) (idx := 185) (i := 50) (av := [vi ((s : Int))]) (rest := []) (g := m0 G) (v := vi (tTot (m0 G) s)) hC hro hty (by decide +kernel) rfl rfl k_M_toldTotal (by decide +kernel) (by decide +kernel) (by decide +kernel) (ct_M_toldTotal X.la X.dd K (m0 G) N s (by omega) hm1) rfl rfl (by decide) (by first | decide | simp [Value.category]) ?_
              refine a_if_le (pc := 66) (off := 12) hC 78 (by decide +kernel) (by decide) (by unfold inI; omega) (fun c66 => ?_) (fun c66 => ?_)
              · skip
                have hfr1 : (frS (m0 G) N s) = frS (m0 G) N (s + 1) := by show _ = (if _ then _ else _); rw [if_neg (by omega)]
                refine a_iload_n (pc := 78) (q := 3) (i := 3) (x := (((frS (m0 G) N s) : Nat) : Int)) hC (by decide +kernel) rfl 2 rfl ?_
                refine a_istore_n (pc := 79) (q := 3) (i := 3) (lv' := [(3, vi ((((frS (m0 G) N s) : Nat) : Int))), (2, vi (((orN (riS (m0 G) N s) s : Nat) : Int))), (4, vi ((s : Int))), (0, .ref 50), (1, vi ((f : Int)))]) hC (by decide +kernel) rfl (by decide) rfl ?_
                refine a_iinc (pc := 80) (i := 4) (c := 1) (x := (s : Int)) (lv' := [(4, vi (((s : Int)) + 1)), (3, vi ((((frS (m0 G) N s) : Nat) : Int))), (2, vi (((orN (riS (m0 G) N s) s : Nat) : Int))), (0, .ref 50), (1, vi ((f : Int)))]) hC (by decide +kernel) 2 rfl (by decide) rfl ?_
                refine a_goto (pc := 83) (off := -61) hC 22 (by decide +kernel) (by decide) ?_
                refine a_sub (lv' := [(4, vi (((s + 1) : Int))), (3, vi ((((frS (m0 G) N (s + 1)) : Nat) : Int))), (2, vi ((((riS (m0 G) N (s + 1)) : Nat) : Int))), (0, .ref 50), (1, vi ((f : Int)))]) [0, 1, 2, 3, 4] (by rw [← hri1, ← hfr1]; rfl) ?_
                exact ih22 (s + 1) (by omega) (by omega)
              · skip
                have hfr1 : orN (frS (m0 G) N s) s = frS (m0 G) N (s + 1) := by show _ = (if _ then _ else _); rw [if_pos (by omega)]
                refine a_iload_n (pc := 69) (q := 3) (i := 3) (x := (((frS (m0 G) N s) : Nat) : Int)) hC (by decide +kernel) rfl 2 rfl ?_
                refine a_iconst (pc := 70) (c := 1) hC (by decide +kernel) ?_
                refine a_iload (pc := 71) (i := 4) (x := (s : Int)) hC (by decide +kernel) 1 rfl ?_
                refine a_ishl (pc := 73) (z := ((pw s : Nat) : Int)) hC (by decide +kernel) (iZ_shl (by omega)) ?_
                refine a_ior (pc := 74) (z := ((orN (frS (m0 G) N s) s : Nat) : Int)) hC (by decide +kernel) or_nat ?_
                refine a_goto (pc := 75) (off := 4) hC 79 (by decide +kernel) (by decide) ?_
                refine a_istore_n (pc := 79) (q := 3) (i := 3) (lv' := [(3, vi (((orN (frS (m0 G) N s) s : Nat) : Int))), (2, vi (((orN (riS (m0 G) N s) s : Nat) : Int))), (4, vi ((s : Int))), (0, .ref 50), (1, vi ((f : Int)))]) hC (by decide +kernel) rfl (by decide) rfl ?_
                refine a_iinc (pc := 80) (i := 4) (c := 1) (x := (s : Int)) (lv' := [(4, vi (((s : Int)) + 1)), (3, vi (((orN (frS (m0 G) N s) s : Nat) : Int))), (2, vi (((orN (riS (m0 G) N s) s : Nat) : Int))), (0, .ref 50), (1, vi ((f : Int)))]) hC (by decide +kernel) 2 rfl (by decide) rfl ?_
                refine a_goto (pc := 83) (off := -61) hC 22 (by decide +kernel) (by decide) ?_
                refine a_sub (lv' := [(4, vi (((s + 1) : Int))), (3, vi ((((frS (m0 G) N (s + 1)) : Nat) : Int))), (2, vi ((((riS (m0 G) N (s + 1)) : Nat) : Int))), (0, .ref 50), (1, vi ((f : Int)))]) [0, 1, 2, 3, 4] (by rw [← hri1, ← hfr1]; rfl) ?_
                exact ih22 (s + 1) (by omega) (by omega)
    refine a_sub (lv' := [(4, vi ((0 : Int))), (3, vi ((((frS (m0 G) N 0) : Nat) : Int))), (2, vi ((((riS (m0 G) N 0) : Nat) : Int))), (0, .ref 50), (1, vi ((f : Int)))]) [0, 1, 2, 3, 4] rfl ?_
    exact L22 _ 0 (Nat.lt_succ_self _) (by omega)
  · skip
    exact absurd c10 (by decide)
