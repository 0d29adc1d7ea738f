/-! the reference: within -/
def thA (H : GT) (N t : Nat) (b : Int) : Nat → Int
  | 0 => 0
  | a + 1 => if a = 0 ∨ (if H 51 t = 0 then thA H N t b a < cnZ H N t a b else cnZ H N t a b < thA H N t b a) then cnZ H N t a b else thA H N t b a
def thF (H : GT) (N : Nat) (b : Int) (i : Nat) : Nat → Int := fun j => if j < i then thA H N j b (H 52 j).toNat else H 63 j
theorem thF_0 (H : GT) (N : Nat) (b : Int) : thF H N b 0 = H 63 := by funext j; exact if_neg (by omega)
theorem thF_s (H : GT) (N : Nat) (b : Int) (i : Nat) (x : Int) (hx : x = thA H N i b (H 52 i).toNat) : up (thF H N b i) i x = thF H N b (i + 1) := by
  funext j; unfold up thF
  by_cases h : j = i
  · subst h; rw [if_pos rfl, if_pos (by omega), hx]
  · rw [if_neg h]
    have e : (j < i + 1) ↔ (j < i) := by omega
    simp only [e]
theorem cnZ_congr {G G' : GT} (e : ∀ b, b ≤ 62 → G' b = G b) (N s a : Nat) (bl : Int) : cnZ G' N s a bl = cnZ G N s a bl := by
  unfold cnZ cnS; rw [totZ_congr (e 54 (by omega)), e 53 (by omega), e 62 (by omega), e 50 (by omega), e 54 (by omega)]
theorem cpy_0 (f g : Nat → Int) : cpy f g 0 = g := by funext j; exact if_neg (by omega)
theorem cpy_s (f g : Nat → Int) (i : Nat) : up (cpy f g i) i (f i) = cpy f g (i + 1) := by
  funext j; unfold up cpy
  by_cases h : j = i
  · subst h; rw [if_pos rfl, if_pos (by omega)]
  · rw [if_neg h]
    have e : (j < i + 1) ↔ (j < i) := by omega
    simp only [e]
def wnN (H : GT) (N : Nat) (b : Int) : GT := uG (uG H 63 (thF H N b N)) 62 (cpy (thF H N b N) (H 62) N)
def wnS (G : GT) (N : Nat) : Nat → GT × Int
  | 0 => (uG G 62 (fillF (G 62) N 0), 1)
  | k + 1 => (wnN (wnS G N k).1 N ((wnS G N k).2 * (60 * G 50 8)), (wnS G N k).2 * (60 * G 50 8))
theorem wnS_off {G : GT} {N b : Nat} (h : b < 62) : ∀ k, (wnS G N k).1 b = G b
  | 0 => uG_n _ _ (by omega)
  | k + 1 => by show wnN _ _ _ b = _; unfold wnN; rw [uG_n _ _ (by omega), uG_n _ _ (by omega), wnS_off h k]
/-- what within needs of the arithmetic, for the reference -/
def WnOk (G : GT) (N : Nat) : Prop := (∀ s a, s < 5 → a < 3 → totZ G s a 5 ≤ 6) ∧ ∀ k, k ≤ 5 → (∀ t a, t < N → a < 3 → inL (cnZ (wnS G N k).1 N t a ((wnS G N k).2 * (60 * G 50 8)))) ∧ (1 ≤ (wnS G N k).2 ∧ inL (wnS G N k).2) ∧ ∀ t, t < N → inL ((wnS G N k).1 62 t) ∧ inL (absZ ((wnS G N k).1 62 t))
theorem thA_in {H : GT} {N t : Nat} {b : Int} (h : ∀ a, a < 3 → inL (cnZ H N t a b)) : ∀ a, a ≤ 3 → inL (thA H N t b a)
  | 0, _ => inL_0
  | a + 1, ha => by
    have h1 := h a (by omega)
    have h2 := thA_in h a (by omega)
    unfold thA
    split <;> split <;> assumption

set_option maxRecDepth 100000 in
set_option maxHeartbeats 4000000 in
theorem ct_M_within_no (l : Launch) (D : va_G) (K : K5) (G : GT) (N : Nat) (s : Int) (n : Int) (hsi : inI s) (hmm : MM G N) (hno : mS G s = 0) : Ct l D K y_M_within c_M_within 10 (some .int) 3 75 [.ref 50, vi s, vi n] G (some (vi (-1))) (m0 G) := by
  refine Ct.intro (by decide +kernel) (Nat.le_of_ble_eq_true rfl) ?_
  intro X hro hty hC hE
  obtain ⟨hn, hN5, hsh, hac, hpa, hwe, hth, hch⟩ := id hmm
  refine a_aload_n (pc := 0) (q := 0) (i := 0) (x := 50) hC (by decide +kernel) rfl 0 rfl ?_
  refine a_iconst (pc := 1) (c := 0) hC (by decide +kernel) ?_
  refine g_put (pc := 2) (idx := 62) (ci := 6) (x := 0) hC 50 0 (by decide +kernel) rfl rfl (congrArg (fun z => vi z) (up_s _ _ _)) rfl wrM (by decide) rfl (by decide +kernel) rfl (ok_int _) ?_
  refine g_G (G' := m0 G) rfl ?_
  refine a_aload_n (pc := 5) (q := 0) (i := 0) (x := 50) hC (by decide +kernel) rfl 0 rfl ?_
  refine a_iload_n (pc := 6) (q := 1) (i := 1) (x := s) hC (by decide +kernel) rfl 1 rfl ?_
  refine g_callV (pc := 7) (idx := 79) (i := 50) (av := [vi s]) (rest := []) (g := m0 G) (v := vi (mS (m0 G) s)) hC hro hty (by decide +kernel) rfl rfl k_M_isState (by decide +kernel) (by decide +kernel) (by decide +kernel) (ct_M_isState X.la X.dd K (m0 G) N s hsi hmm.m0) rfl rfl (by decide) (by first | decide | simp [Value.category]) ?_
  refine g_top (y := mS G s) (mS_m0 _ _) ?_
  refine a_if_ne (pc := 10) (off := 5) hC 15 (by decide +kernel) (by decide) (by unfold inI; omega) (fun c10 => ?_) (fun c10 => ?_)
  · skip
    exact absurd hno c10
  · skip
    refine a_iconst (pc := 13) (c := -1) hC (by decide +kernel) ?_
    exact g_iret (pc := 14) hC hE (by decide +kernel) rfl rfl

set_option maxRecDepth 100000 in
set_option maxHeartbeats 4000000 in
theorem ct_M_within_bad (l : Launch) (D : va_G) (K : K5) (G : GT) (N s : Nat) (n : Int) (hs : s < N) (hni : inI n) (hmm : MM G N) (hbad : n < 0 ∨ 5 < n) : Ct l D K y_M_within c_M_within 10 (some .int) 3 75 [.ref 50, vi ((s : Int)), vi n] G (some (vi (-2))) (m0 G) := by
  refine Ct.intro (by decide +kernel) (Nat.le_of_ble_eq_true rfl) ?_
  intro X hro hty hC hE
  obtain ⟨hn, hN5, hsh, hac, hpa, hwe, hth, hch⟩ := id hmm
  unfold inI at hni
  have h01 := inZ_01 n 0 5
  have hz0 : inZ n 0 5 = 0 := by unfold inZ; rw [if_neg (by omega)]
  refine a_aload_n (pc := 0) (q := 0) (i := 0) (x := 50) hC (by decide +kernel) rfl 0 rfl ?_
  refine a_iconst (pc := 1) (c := 0) hC (by decide +kernel) ?_
  refine g_put (pc := 2) (idx := 62) (ci := 6) (x := 0) hC 50 0 (by decide +kernel) rfl rfl (congrArg (fun z => vi z) (up_s _ _ _)) rfl wrM (by decide) rfl (by decide +kernel) rfl (ok_int _) ?_
  refine g_G (G' := m0 G) rfl ?_
  refine a_aload_n (pc := 5) (q := 0) (i := 0) (x := 50) hC (by decide +kernel) rfl 0 rfl ?_
  refine a_iload_n (pc := 6) (q := 1) (i := 1) (x := (s : Int)) hC (by decide +kernel) rfl 1 rfl ?_
  refine g_callV (pc := 7) (idx := 79) (i := 50) (av := [vi ((s : Int))]) (rest := []) (g := m0 G) (v := vi (mS (m0 G) ((s : Int)))) hC hro hty (by decide +kernel) rfl rfl k_M_isState (by decide +kernel) (by decide +kernel) (by decide +kernel) (ct_M_isState X.la X.dd K (m0 G) N ((s : Int)) (by unfold inI; omega) hmm.m0) rfl rfl (by decide) (by first | decide | simp [Value.category]) ?_
  refine g_top (y := 1) (by rw [mS_m0]; exact mS_ok hmm hs) ?_
  refine a_if_ne (pc := 10) (off := 5) hC 15 (by decide +kernel) (by decide) (by unfold inI; omega) (fun c10 => ?_) (fun c10 => ?_)
  · skip
    refine a_iload_n (pc := 15) (q := 2) (i := 2) (x := n) hC (by decide +kernel) rfl 2 rfl ?_
    refine a_i2l (pc := 16) hC (by decide +kernel) (by unfold inI; omega) ?_
    refine a_lconst (pc := 17) (c := 0) (z := 0) hC (by decide +kernel) rfl ?_
    refine a_ldc2 (pc := 18) (idx := 171) (z := 5) (v := 5) hC (by decide +kernel) (by decide +kernel) rfl ?_
    refine g_callS (pc := 21) (idx := 75) (av := [vl n, vl 0, vl 5]) (rest := []) (g := m0 G) (v := vi (inZ n 0 5)) hC hro hty (by decide +kernel) k_M_in (by decide +kernel) (by decide +kernel) (ct_M_in X.la X.dd K (m0 G) n 0 5 (by unfold inL; omega) (by unfold inL; omega) (by unfold inL; omega)) rfl rfl (by decide) (by first | decide | simp [Value.category]) ?_
    refine a_if_ne (pc := 24) (off := 6) hC 30 (by decide +kernel) (by decide) (by unfold inI; omega) (fun c24 => ?_) (fun c24 => ?_)
    · skip
      exact absurd hz0 c24
    · skip
      refine a_bipush (pc := 27) (c := -2) hC (by decide +kernel) (by decide +kernel) ?_
      exact g_iret (pc := 29) hC hE (by decide +kernel) rfl rfl
  · skip
    exact absurd c10 (by decide)

set_option maxRecDepth 100000 in
set_option maxHeartbeats 4000000 in
theorem ct_M_within (l : Launch) (D : va_G) (K : K5) (G : GT) (N s n : Nat) (hs : s < N) (hn5 : n ≤ 5) (hmm : MM G N) (hwo : WnOk (m0 G) N) : Ct l D K y_M_within c_M_within 10 (some .int) 3 75 [.ref 50, vi ((s : Int)), vi ((n : Int))] G (some (vi 1)) (mansG (wnS (m0 G) N n).1 ((wnS (m0 G) N n).1 62 s) (wnS (m0 G) N n).2) := by
  refine Ct.intro (by decide +kernel) (Nat.le_of_ble_eq_true rfl) ?_
  intro X hro hty hC hE
  obtain ⟨hn, hN5, hsh, hac, hpa, hwe, hth, hch⟩ := id hmm
  have hm1 := hmm.m0
  have hz1 : inZ (n : Int) 0 5 = 1 := by unfold inZ; rw [if_pos (by omega)]
  refine a_aload_n (pc := 0) (q := 0) (i := 0) (x := 50) hC (by decide +kernel) rfl 0 rfl ?_
  refine a_iconst (pc := 1) (c := 0) hC (by decide +kernel) ?_
  refine g_put (pc := 2) (idx := 62) (ci := 6) (x := 0) hC 50 0 (by decide +kernel) rfl rfl (congrArg (fun z => vi z) (up_s _ _ _)) rfl wrM (by decide) rfl (by decide +kernel) rfl (ok_int _) ?_
  refine g_G (G' := m0 G) rfl ?_
  refine a_aload_n (pc := 5) (q := 0) (i := 0) (x := 50) hC (by decide +kernel) rfl 0 rfl ?_
  refine a_iload_n (pc := 6) (q := 1) (i := 1) (x := (s : Int)) hC (by decide +kernel) rfl 1 rfl ?_
  refine g_callV (pc := 7) (idx := 79) (i := 50) (av := [vi ((s : Int))]) (rest := []) (g := m0 G) (v := vi (mS (m0 G) ((s : Int)))) hC hro hty (by decide +kernel) rfl rfl k_M_isState (by decide +kernel) (by decide +kernel) (by decide +kernel) (ct_M_isState X.la X.dd K (m0 G) N ((s : Int)) (by unfold inI; omega) hmm.m0) rfl rfl (by decide) (by first | decide | simp [Value.category]) ?_
  refine g_top (y := 1) (by rw [mS_m0]; exact mS_ok hmm hs) ?_
  refine a_if_ne (pc := 10) (off := 5) hC 15 (by decide +kernel) (by decide) (by unfold inI; omega) (fun c10 => ?_) (fun c10 => ?_)
  · skip
    refine a_iload_n (pc := 15) (q := 2) (i := 2) (x := (n : Int)) hC (by decide +kernel) rfl 2 rfl ?_
    refine a_i2l (pc := 16) hC (by decide +kernel) (by unfold inI; omega) ?_
    refine a_lconst (pc := 17) (c := 0) (z := 0) hC (by decide +kernel) rfl ?_
    refine a_ldc2 (pc := 18) (idx := 171) (z := 5) (v := 5) hC (by decide +kernel) (by decide +kernel) rfl ?_
    refine g_callS (pc := 21) (idx := 75) (av := [vl ((n : Int)), vl 0, vl 5]) (rest := []) (g := m0 G) (v := vi (inZ ((n : Int)) 0 5)) hC hro hty (by decide +kernel) k_M_in (by decide +kernel) (by decide +kernel) (ct_M_in X.la X.dd K (m0 G) ((n : Int)) 0 5 (by unfold inL; omega) (by unfold inL; omega) (by unfold inL; omega)) rfl rfl (by decide) (by first | decide | simp [Value.category]) ?_
    refine g_top (y := 1) hz1 ?_
    refine a_if_ne (pc := 24) (off := 6) hC 30 (by decide +kernel) (by decide) (by unfold inI; omega) (fun c24 => ?_) (fun c24 => ?_)
    · skip
      refine a_iconst (pc := 30) (c := 0) hC (by decide +kernel) ?_
      refine a_istore_n (pc := 31) (q := 3) (i := 3) (lv' := [(3, vi 0), (0, .ref 50), (1, vi ((s : Int))), (2, vi ((n : Int)))]) hC (by decide +kernel) rfl (by decide) rfl ?_
      have L32 : ∀ (fuel : Nat) (t : Nat), N - t < fuel → t ≤ N → AW X 10 0 0 32 [(3, vi ((t : Int))), (0, .ref 50), (1, vi ((s : Int))), (2, vi ((n : Int)))] [] (hp K (uG (m0 G) 62 (fillF ((m0 G) 62) t 0))) := by
        intro fuel
        induction fuel with
        | zero => intro t h; exact absurd h (Nat.not_lt_zero _)
        | succ fuel ih32 =>
          intro t hm ht
          refine a_iload_n (pc := 32) (q := 3) (i := 3) (x := (t : Int)) hC (by decide +kernel) rfl 0 rfl ?_
          refine a_aload_n (pc := 33) (q := 0) (i := 0) (x := 50) hC (by decide +kernel) rfl 1 rfl ?_
          refine g_get (pc := 34) (idx := 72) (ci := 6) (v := vi ((uG (m0 G) 62 (fillF ((m0 G) 62) t 0)) 50 1)) hC 50 1 (by decide +kernel) rfl rfl rfl rfl wrM (by decide) rfl (by decide +kernel) ?_
          refine g_top (y := (N : Int)) (by rw [uG_n _ _ (by decide)]; exact hm1.1) ?_
          refine a_icmp_ge (pc := 37) (off := 16) hC 53 (by decide +kernel) (by decide) (by unfold inI; omega) (by unfold inI; omega) (fun c37 => ?_) (fun c37 => ?_)
          · skip
            refine a_lconst (pc := 53) (c := 1) (z := 1) hC (by decide +kernel) rfl ?_
            refine a_lstore_n (pc := 54) (q := 3) (i := 3) (lv' := [(3, vl 1), (0, .ref 50), (1, vi ((s : Int))), (2, vi ((n : Int)))]) hC (by decide +kernel) rfl (by decide) rfl ?_
            refine a_iconst (pc := 55) (c := 0) hC (by decide +kernel) ?_
            refine a_istore (pc := 56) (q := 0) (i := 5) (lv' := [(5, vi 0), (3, vl 1), (0, .ref 50), (1, vi ((s : Int))), (2, vi ((n : Int)))]) hC (by decide +kernel) (by decide) rfl ?_
            have L58 : ∀ (fuel : Nat) (k : Nat), n - k < fuel → k ≤ n → AW X 10 0 0 58 [(5, vi ((k : Int))), (3, vl ((wnS (m0 G) N k).2)), (0, .ref 50), (1, vi ((s : Int))), (2, vi ((n : Int)))] [] (hp K ((wnS (m0 G) N k).1)) := by
              intro fuel
              induction fuel with
              | zero => intro k h; exact absurd h (Nat.not_lt_zero _)
              | succ fuel ih58 =>
                intro k hm hk
                have hmK : MM (wnS (m0 G) N k).1 N := hm1.off (fun b hb => wnS_off (by omega) k)
                have hwk := hwo.2 k (by omega)
                have hdn : 0 ≤ (wnS (m0 G) N k).1 50 8 ∧ (wnS (m0 G) N k).1 50 8 ≤ 6 := by have := hmK.2.2.1; omega
                refine a_iload (pc := 58) (i := 5) (x := (k : Int)) hC (by decide +kernel) 0 rfl ?_
                refine a_iload_n (pc := 60) (q := 2) (i := 2) (x := (n : Int)) hC (by decide +kernel) rfl 4 rfl ?_
                refine a_icmp_ge (pc := 61) (off := 174) hC 235 (by decide +kernel) (by decide) (by unfold inI; omega) (by unfold inI; omega) (fun c61 => ?_) (fun c61 => ?_)
                · skip
                  have hkn : k = n := by omega
                  have hwn := hwk.2.2 s hs
                  refine a_aload_n (pc := 235) (q := 0) (i := 0) (x := 50) hC (by decide +kernel) rfl 2 rfl ?_
                  refine a_aload_n (pc := 236) (q := 0) (i := 0) (x := 50) hC (by decide +kernel) rfl 2 rfl ?_
                  refine g_get (pc := 237) (idx := 56) (ci := 6) (v := .ref 62) hC 50 22 (by decide +kernel) rfl rfl rfl rfl wrM (by decide) rfl (by decide +kernel) ?_
                  refine a_iload_n (pc := 240) (q := 1) (i := 1) (x := (s : Int)) hC (by decide +kernel) rfl 3 rfl ?_
                  refine g_lald (pc := 241) (a := 62) (j := s) hC hty (by decide +kernel) rfl (by omega) (by first | decide | omega) ?_
                  refine a_lload_n (pc := 242) (q := 3) (i := 3) (x := (wnS (m0 G) N k).2) hC (by decide +kernel) rfl 1 rfl ?_
                  refine g_callV (pc := 243) (idx := 149) (i := 50) (av := [vl (((wnS (m0 G) N k).1) 62 s), vl ((wnS (m0 G) N k).2)]) (rest := []) (g := mansG ((wnS (m0 G) N k).1) (((wnS (m0 G) N k).1) 62 s) ((wnS (m0 G) N k).2)) (v := vi 1) hC hro hty (by decide +kernel) rfl rfl k_M_answer (by decide +kernel) (by decide +kernel) (by decide +kernel) (ct_M_answer X.la X.dd K ((wnS (m0 G) N k).1) (((wnS (m0 G) N k).1) 62 s) ((wnS (m0 G) N k).2) hwn hwk.2.1) rfl rfl (by decide) (by first | decide | simp [Value.category]) ?_
                  exact g_iret (pc := 246) hC hE (by decide +kernel) rfl (by rw [hkn])
                · skip
                  refine a_lload_n (pc := 64) (q := 3) (i := 3) (x := (wnS (m0 G) N k).2) hC (by decide +kernel) rfl 1 rfl ?_
                  refine a_ldc2 (pc := 65) (idx := 173) (z := 60) (v := 60) hC (by decide +kernel) (by decide +kernel) rfl ?_
                  refine a_aload_n (pc := 68) (q := 0) (i := 0) (x := 50) hC (by decide +kernel) rfl 2 rfl ?_
                  refine g_get (pc := 69) (idx := 30) (ci := 6) (v := vi (((wnS (m0 G) N k).1) 50 8)) hC 50 8 (by decide +kernel) rfl rfl rfl rfl wrM (by decide) rfl (by decide +kernel) ?_
                  refine g_top (y := (m0 G) 50 8) (by rw [wnS_off (by decide)]) ?_
                  rw [wnS_off (by decide)] at hdn
                  refine a_i2l (pc := 72) hC (by decide +kernel) (by unfold inI; omega) ?_
                  refine a_lmul (pc := 73) hC (by decide +kernel) ?_
                  refine a_lmul (pc := 74) hC (by decide +kernel) ?_
                  refine a_lstore_n (pc := 75) (q := 3) (i := 3) (lv' := [(3, vl (((wnS (m0 G) N k).2) * (60 * ((m0 G) 50 8)))), (5, vi ((k : Int))), (0, .ref 50), (1, vi ((s : Int))), (2, vi ((n : Int)))]) hC (by decide +kernel) rfl (by decide) rfl ?_
                  refine a_iconst (pc := 76) (c := 0) hC (by decide +kernel) ?_
                  refine a_istore (pc := 77) (q := 0) (i := 6) (lv' := [(6, vi 0), (3, vl (((wnS (m0 G) N k).2) * (60 * ((m0 G) 50 8)))), (5, vi ((k : Int))), (0, .ref 50), (1, vi ((s : Int))), (2, vi ((n : Int)))]) hC (by decide +kernel) (by decide) rfl ?_
                  have L79 : ∀ (fuel : Nat) (t : Nat), N - t < fuel → t ≤ N → AW X 10 0 0 79 [(6, vi ((t : Int))), (5, vi ((k : Int))), (3, vl ((wnS (m0 G) N k).2 * (60 * (m0 G) 50 8))), (0, .ref 50), (1, vi ((s : Int))), (2, vi ((n : Int)))] [] (hp K (uG (wnS (m0 G) N k).1 63 (thF (wnS (m0 G) N k).1 N ((wnS (m0 G) N k).2 * (60 * (m0 G) 50 8)) t))) := by
                    intro fuel
                    induction fuel with
                    | zero => intro t h; exact absurd h (Nat.not_lt_zero _)
                    | succ fuel ih79 =>
                      intro t hm ht
                      refine a_iload (pc := 79) (i := 6) (x := (t : Int)) hC (by decide +kernel) 0 rfl ?_
                      refine a_aload_n (pc := 81) (q := 0) (i := 0) (x := 50) hC (by decide +kernel) rfl 3 rfl ?_
                      refine g_get (pc := 82) (idx := 72) (ci := 6) (v := vi ((uG (wnS (m0 G) N k).1 63 (thF (wnS (m0 G) N k).1 N ((wnS (m0 G) N k).2 * (60 * (m0 G) 50 8)) t)) 50 1)) hC 50 1 (by decide +kernel) rfl rfl rfl rfl wrM (by decide) rfl (by decide +kernel) ?_
                      refine g_top (y := (N : Int)) (by rw [uG_n _ _ (by decide)]; exact hmK.1) ?_
                      refine a_icmp_ge (pc := 85) (off := 112) hC 197 (by decide +kernel) (by decide) (by unfold inI; omega) (by unfold inI; omega) (fun c85 => ?_) (fun c85 => ?_)
                      · skip
                        have htN : t = N := by omega
                        refine a_iconst (pc := 197) (c := 0) hC (by decide +kernel) ?_
                        refine a_istore (pc := 198) (q := 0) (i := 6) (lv' := [(6, vi 0), (5, vi ((k : Int))), (3, vl ((wnS (m0 G) N k).2 * (60 * (m0 G) 50 8))), (0, .ref 50), (1, vi ((s : Int))), (2, vi ((n : Int)))]) hC (by decide +kernel) (by decide) rfl ?_
                        have L200 : ∀ (fuel : Nat) (i : Nat), N - i < fuel → i ≤ N → AW X 10 0 0 200 [(6, vi ((i : Int))), (5, vi ((k : Int))), (3, vl ((wnS (m0 G) N k).2 * (60 * (m0 G) 50 8))), (0, .ref 50), (1, vi ((s : Int))), (2, vi ((n : Int)))] [] (hp K (uG (uG (wnS (m0 G) N k).1 63 (thF (wnS (m0 G) N k).1 N ((wnS (m0 G) N k).2 * (60 * (m0 G) 50 8)) N)) 62 (cpy (thF (wnS (m0 G) N k).1 N ((wnS (m0 G) N k).2 * (60 * (m0 G) 50 8)) N) ((wnS (m0 G) N k).1 62) i))) := by
                          intro fuel
                          induction fuel with
                          | zero => intro i h; exact absurd h (Nat.not_lt_zero _)
                          | succ fuel ih200 =>
                            intro i hm hi
                            refine a_iload (pc := 200) (i := 6) (x := (i : Int)) hC (by decide +kernel) 0 rfl ?_
                            refine a_aload_n (pc := 202) (q := 0) (i := 0) (x := 50) hC (by decide +kernel) rfl 3 rfl ?_
                            refine g_get (pc := 203) (idx := 72) (ci := 6) (v := vi ((uG (uG (wnS (m0 G) N k).1 63 (thF (wnS (m0 G) N k).1 N ((wnS (m0 G) N k).2 * (60 * (m0 G) 50 8)) N)) 62 (cpy (thF (wnS (m0 G) N k).1 N ((wnS (m0 G) N k).2 * (60 * (m0 G) 50 8)) N) ((wnS (m0 G) N k).1 62) i)) 50 1)) hC 50 1 (by decide +kernel) rfl rfl rfl rfl wrM (by decide) rfl (by decide +kernel) ?_
                            refine g_top (y := (N : Int)) (by rw [uG_n _ _ (by decide), uG_n _ _ (by decide)]; exact hmK.1) ?_
                            refine a_icmp_ge (pc := 206) (off := 23) hC 229 (by decide +kernel) (by decide) (by unfold inI; omega) (by unfold inI; omega) (fun c206 => ?_) (fun c206 => ?_)
                            · skip
                              refine a_iinc (pc := 229) (i := 5) (c := 1) (x := (k : Int)) (lv' := [(5, vi (((k : Int)) + 1)), (6, vi ((i : Int))), (3, vl ((wnS (m0 G) N k).2 * (60 * (m0 G) 50 8))), (0, .ref 50), (1, vi ((s : Int))), (2, vi ((n : Int)))]) hC (by decide +kernel) 1 rfl (by decide) rfl ?_
                              refine a_goto (pc := 232) (off := -174) hC 58 (by decide +kernel) (by decide) ?_
                              refine a_sub (lv' := [(5, vi (((k + 1) : Int))), (3, vl ((wnS (m0 G) N (k + 1)).2)), (0, .ref 50), (1, vi ((s : Int))), (2, vi ((n : Int)))]) [0, 2, 3, 4, 5] rfl ?_
                              refine g_G (G' := (wnS (m0 G) N (k + 1)).1) (by rw [show i = N by omega]; rfl) ?_
                              exact ih58 (k + 1) (by omega) (by omega)
                            · skip
                              refine a_aload_n (pc := 209) (q := 0) (i := 0) (x := 50) hC (by decide +kernel) rfl 3 rfl ?_
                              refine g_get (pc := 210) (idx := 56) (ci := 6) (v := .ref 62) hC 50 22 (by decide +kernel) rfl rfl rfl rfl wrM (by decide) rfl (by decide +kernel) ?_
                              refine a_iload (pc := 213) (i := 6) (x := (i : Int)) hC (by decide +kernel) 0 rfl ?_
                              refine a_aload_n (pc := 215) (q := 0) (i := 0) (x := 50) hC (by decide +kernel) rfl 3 rfl ?_
                              refine g_get (pc := 216) (idx := 59) (ci := 6) (v := .ref 63) hC 50 23 (by decide +kernel) rfl rfl rfl rfl wrM (by decide) rfl (by decide +kernel) ?_
                              refine a_iload (pc := 219) (i := 6) (x := (i : Int)) hC (by decide +kernel) 0 rfl ?_
                              refine g_lald (pc := 221) (a := 63) (j := i) hC hty (by decide +kernel) rfl (by omega) (by first | decide | omega) ?_
                              refine g_topl (y := thF (wnS (m0 G) N k).1 N ((wnS (m0 G) N k).2 * (60 * (m0 G) 50 8)) N i) (by rw [uG_n _ _ (by decide), uG_s]) ?_
                              refine g_last (pc := 222) (a := 62) (j := i) (x := thF (wnS (m0 G) N k).1 N ((wnS (m0 G) N k).2 * (60 * (m0 G) 50 8)) N i) hC hty (by decide +kernel) rfl (by omega) (by first | decide | omega) ?_
                              refine a_iinc (pc := 223) (i := 6) (c := 1) (x := (i : Int)) (lv' := [(6, vi (((i : Int)) + 1)), (5, vi ((k : Int))), (3, vl ((wnS (m0 G) N k).2 * (60 * (m0 G) 50 8))), (0, .ref 50), (1, vi ((s : Int))), (2, vi ((n : Int)))]) hC (by decide +kernel) 0 rfl (by decide) rfl ?_
                              refine a_goto (pc := 226) (off := -26) hC 200 (by decide +kernel) (by decide) ?_
                              refine a_sub (lv' := [(6, vi (((i + 1) : Int))), (5, vi ((k : Int))), (3, vl ((wnS (m0 G) N k).2 * (60 * (m0 G) 50 8))), (0, .ref 50), (1, vi ((s : Int))), (2, vi ((n : Int)))]) [0, 1, 2, 3, 4, 5] rfl ?_
                              refine g_G (G' := uG (uG (wnS (m0 G) N k).1 63 (thF (wnS (m0 G) N k).1 N ((wnS (m0 G) N k).2 * (60 * (m0 G) 50 8)) N)) 62 (cpy (thF (wnS (m0 G) N k).1 N ((wnS (m0 G) N k).2 * (60 * (m0 G) 50 8)) N) ((wnS (m0 G) N k).1 62) (i + 1))) (by rw [uG_s, uG_uG, cpy_s]) ?_
                              exact ih200 (i + 1) (by omega) (by omega)
                        refine a_sub (lv' := [(6, vi ((0 : Int))), (5, vi ((k : Int))), (3, vl ((wnS (m0 G) N k).2 * (60 * (m0 G) 50 8))), (0, .ref 50), (1, vi ((s : Int))), (2, vi ((n : Int)))]) [0, 1, 2, 3, 4, 5] rfl ?_
                        refine g_G (G' := uG (uG (wnS (m0 G) N k).1 63 (thF (wnS (m0 G) N k).1 N ((wnS (m0 G) N k).2 * (60 * (m0 G) 50 8)) N)) 62 (cpy (thF (wnS (m0 G) N k).1 N ((wnS (m0 G) N k).2 * (60 * (m0 G) 50 8)) N) ((wnS (m0 G) N k).1 62) 0)) (by rw [htN, cpy_0, uG_same (G := uG _ _ _) (uG_n _ _ (by decide))]) ?_
                        exact L200 _ 0 (Nat.lt_succ_self _) (by omega)
                      · skip
                        obtain ⟨A, hA, hA3⟩ : ∃ A : Nat, (wnS (m0 G) N k).1 52 t = (A : Int) ∧ A ≤ 3 := ⟨((wnS (m0 G) N k).1 52 t).toNat, by have := hmK.2.2.2.1 t (by omega); omega, by have := hmK.2.2.2.1 t (by omega); omega⟩
                        have hAn : ((wnS (m0 G) N k).1 52 t).toNat = A := by omega
                        have h51 := hmK.2.2.2.2.2.2.1 t (by omega)
                        refine a_aload_n (pc := 88) (q := 0) (i := 0) (x := 50) hC (by decide +kernel) rfl 3 rfl ?_
                        refine g_get (pc := 89) (idx := 59) (ci := 6) (v := .ref 63) hC 50 23 (by decide +kernel) rfl rfl rfl rfl wrM (by decide) rfl (by decide +kernel) ?_
                        refine a_iload (pc := 92) (i := 6) (x := (t : Int)) hC (by decide +kernel) 0 rfl ?_
                        refine a_lconst (pc := 94) (c := 0) (z := 0) hC (by decide +kernel) rfl ?_
                        refine g_last (pc := 95) (a := 63) (j := t) (x := 0) hC hty (by decide +kernel) rfl (by omega) (by first | decide | omega) ?_
                        refine g_G (G' := uG (wnS (m0 G) N k).1 63 (up (thF (wnS (m0 G) N k).1 N ((wnS (m0 G) N k).2 * (60 * (m0 G) 50 8)) t) t (thA (wnS (m0 G) N k).1 N t ((wnS (m0 G) N k).2 * (60 * (m0 G) 50 8)) 0))) (by rw [uG_s, uG_uG]; rfl) ?_
                        refine a_iconst (pc := 96) (c := 0) hC (by decide +kernel) ?_
                        refine a_istore (pc := 97) (q := 0) (i := 7) (lv' := [(7, vi 0), (6, vi ((t : Int))), (5, vi ((k : Int))), (3, vl ((wnS (m0 G) N k).2 * (60 * (m0 G) 50 8))), (0, .ref 50), (1, vi ((s : Int))), (2, vi ((n : Int)))]) hC (by decide +kernel) (by decide) rfl ?_
                        have L99 : ∀ (fuel : Nat) (a : Nat), A - a < fuel → a ≤ A → AW X 10 0 0 99 [(7, vi ((a : Int))), (6, vi ((t : Int))), (5, vi ((k : Int))), (3, vl ((wnS (m0 G) N k).2 * (60 * (m0 G) 50 8))), (0, .ref 50), (1, vi ((s : Int))), (2, vi ((n : Int)))] [] (hp K (uG (wnS (m0 G) N k).1 63 (up (thF (wnS (m0 G) N k).1 N ((wnS (m0 G) N k).2 * (60 * (m0 G) 50 8)) t) t (thA (wnS (m0 G) N k).1 N t ((wnS (m0 G) N k).2 * (60 * (m0 G) 50 8)) a)))) := by
                          intro fuel
                          induction fuel with
                          | zero => intro a h; exact absurd h (Nat.not_lt_zero _)
                          | succ fuel ih99 =>
                            intro a hm ha
                            have hcg : ∀ b, b ≤ 62 → (uG (wnS (m0 G) N k).1 63 (up (thF (wnS (m0 G) N k).1 N ((wnS (m0 G) N k).2 * (60 * (m0 G) 50 8)) t) t (thA (wnS (m0 G) N k).1 N t ((wnS (m0 G) N k).2 * (60 * (m0 G) 50 8)) a))) b = (wnS (m0 G) N k).1 b := fun b hb => uG_n _ _ (by omega)
                            have hti := thA_in (H := (wnS (m0 G) N k).1) (N := N) (t := t) (b := ((wnS (m0 G) N k).2 * (60 * (m0 G) 50 8))) (fun a ha => hwk.1 t a (by omega) ha) a (by omega)
                            refine a_iload (pc := 99) (i := 7) (x := (a : Int)) hC (by decide +kernel) 0 rfl ?_
                            refine a_aload_n (pc := 101) (q := 0) (i := 0) (x := 50) hC (by decide +kernel) rfl 4 rfl ?_
                            refine g_get (pc := 102) (idx := 13) (ci := 6) (v := .ref 52) hC 50 3 (by decide +kernel) rfl rfl rfl rfl wrM (by decide) rfl (by decide +kernel) ?_
                            refine a_iload (pc := 105) (i := 6) (x := (t : Int)) hC (by decide +kernel) 1 rfl ?_
                            refine g_iald (pc := 107) (a := 52) (j := t) hC hty (by decide +kernel) rfl (by omega) (by first | decide | omega) ?_
                            refine g_top (y := (A : Int)) (by rw [hcg 52 (by omega)]; exact hA) ?_
                            refine a_icmp_ge (pc := 108) (off := 83) hC 191 (by decide +kernel) (by decide) (by unfold inI; omega) (by unfold inI; omega) (fun c108 => ?_) (fun c108 => ?_)
                            · skip
                              have haA : a = A := by omega
                              refine a_iinc (pc := 191) (i := 6) (c := 1) (x := (t : Int)) (lv' := [(6, vi (((t : Int)) + 1)), (7, vi ((a : Int))), (5, vi ((k : Int))), (3, vl ((wnS (m0 G) N k).2 * (60 * (m0 G) 50 8))), (0, .ref 50), (1, vi ((s : Int))), (2, vi ((n : Int)))]) hC (by decide +kernel) 1 rfl (by decide) rfl ?_
                              refine a_goto (pc := 194) (off := -115) hC 79 (by decide +kernel) (by decide) ?_
                              refine a_sub (lv' := [(6, vi (((t + 1) : Int))), (5, vi ((k : Int))), (3, vl ((wnS (m0 G) N k).2 * (60 * (m0 G) 50 8))), (0, .ref 50), (1, vi ((s : Int))), (2, vi ((n : Int)))]) [0, 2, 3, 4, 5, 6] rfl ?_
                              refine g_G (G' := uG (wnS (m0 G) N k).1 63 (thF (wnS (m0 G) N k).1 N ((wnS (m0 G) N k).2 * (60 * (m0 G) 50 8)) (t + 1))) (by rw [haA, thF_s _ _ _ _ _ (by rw [hAn])]) ?_
                              exact ih79 (t + 1) (by omega) (by omega)
                            · skip
                              have hmS : MM (uG (wnS (m0 G) N k).1 63 (up (thF (wnS (m0 G) N k).1 N ((wnS (m0 G) N k).2 * (60 * (m0 G) 50 8)) t) t (thA (wnS (m0 G) N k).1 N t ((wnS (m0 G) N k).2 * (60 * (m0 G) 50 8)) a))) N := hmK.off (fun b hb => hcg b (by omega))
                              have hci := hwk.1 t a (by omega) (by omega)
                              refine a_aload_n (pc := 111) (q := 0) (i := 0) (x := 50) hC (by decide +kernel) rfl 4 rfl ?_
                              refine a_iload (pc := 112) (i := 6) (x := (t : Int)) hC (by decide +kernel) 1 rfl ?_
                              refine a_iload (pc := 114) (i := 7) (x := (a : Int)) hC (by decide +kernel) 0 rfl ?_
                              refine a_lload_n (pc := 116) (q := 3) (i := 3) (x := (wnS (m0 G) N k).2 * (60 * (m0 G) 50 8)) hC (by decide +kernel) rfl 3 rfl ?_
                              refine g_callV (pc := 117) (idx := 175) (i := 50) (av := [vi ((t : Int)), vi ((a : Int)), vl ((wnS (m0 G) N k).2 * (60 * (m0 G) 50 8))]) (rest := []) (g := uG (wnS (m0 G) N k).1 63 (up (thF (wnS (m0 G) N k).1 N ((wnS (m0 G) N k).2 * (60 * (m0 G) 50 8)) t) t (thA (wnS (m0 G) N k).1 N t ((wnS (m0 G) N k).2 * (60 * (m0 G) 50 8)) a))) (v := vl (cnZ (uG (wnS (m0 G) N k).1 63 (up (thF (wnS (m0 G) N k).1 N ((wnS (m0 G) N k).2 * (60 * (m0 G) 50 8)) t) t (thA (wnS (m0 G) N k).1 N t ((wnS (m0 G) N k).2 * (60 * (m0 G) 50 8)) a))) N t a ((wnS (m0 G) N k).2 * (60 * (m0 G) 50 8)))) hC hro hty (by decide +kernel) rfl rfl k_M_comesNow (by decide +kernel) (by decide +kernel) (by decide +kernel) (ct_M_comesNow X.la X.dd K (uG (wnS (m0 G) N k).1 63 (up (thF (wnS (m0 G) N k).1 N ((wnS (m0 G) N k).2 * (60 * (m0 G) 50 8)) t) t (thA (wnS (m0 G) N k).1 N t ((wnS (m0 G) N k).2 * (60 * (m0 G) 50 8)) a))) N t a ((wnS (m0 G) N k).2 * (60 * (m0 G) 50 8)) (by omega) (by omega) hmS (by rw [totZ_congr (hcg 54 (by omega)), totZ_congr (wnS_off (by decide) k)]; exact hwo.1 t a (by omega) (by omega))) rfl rfl (by decide) (by first | decide | simp [Value.category]) ?_
                              refine g_topl (y := cnZ (wnS (m0 G) N k).1 N t a ((wnS (m0 G) N k).2 * (60 * (m0 G) 50 8))) (cnZ_congr hcg _ _ _ _) ?_
                              refine a_lstore (pc := 120) (q := 0) (i := 8) (lv' := [(8, vl (cnZ (wnS (m0 G) N k).1 N t a ((wnS (m0 G) N k).2 * (60 * (m0 G) 50 8)))), (7, vi ((a : Int))), (6, vi ((t : Int))), (5, vi ((k : Int))), (3, vl ((wnS (m0 G) N k).2 * (60 * (m0 G) 50 8))), (0, .ref 50), (1, vi ((s : Int))), (2, vi ((n : Int)))]) hC (by decide +kernel) (by decide) rfl ?_
                              refine a_aload_n (pc := 122) (q := 0) (i := 0) (x := 50) hC (by decide +kernel) rfl 5 rfl ?_
                              refine g_get (pc := 123) (idx := 59) (ci := 6) (v := .ref 63) hC 50 23 (by decide +kernel) rfl rfl rfl rfl wrM (by decide) rfl (by decide +kernel) ?_
                              refine a_iload (pc := 126) (i := 6) (x := (t : Int)) hC (by decide +kernel) 2 rfl ?_
                              refine a_iload (pc := 128) (i := 7) (x := (a : Int)) hC (by decide +kernel) 1 rfl ?_
                              refine a_if_eq (pc := 130) (off := 42) hC 172 (by decide +kernel) (by decide) (by unfold inI; omega) (fun c130 => ?_) (fun c130 => ?_)
                              · skip
                                have hst : (cnZ (wnS (m0 G) N k).1 N t a ((wnS (m0 G) N k).2 * (60 * (m0 G) 50 8))) = thA (wnS (m0 G) N k).1 N t ((wnS (m0 G) N k).2 * (60 * (m0 G) 50 8)) (a + 1) := by show _ = (if _ then _ else _); rw [if_pos (Or.inl (by omega))]
                                refine a_lload (pc := 172) (i := 8) (x := cnZ (wnS (m0 G) N k).1 N t a ((wnS (m0 G) N k).2 * (60 * (m0 G) 50 8))) hC (by decide +kernel) 0 rfl ?_
                                refine a_goto (pc := 174) (off := 10) hC 184 (by decide +kernel) (by decide) ?_
                                refine g_last (pc := 184) (a := 63) (j := t) (x := cnZ (wnS (m0 G) N k).1 N t a ((wnS (m0 G) N k).2 * (60 * (m0 G) 50 8))) hC hty (by decide +kernel) rfl (by omega) (by first | decide | omega) ?_
                                refine a_iinc (pc := 185) (i := 7) (c := 1) (x := (a : Int)) (lv' := [(7, vi (((a : Int)) + 1)), (8, vl (cnZ (wnS (m0 G) N k).1 N t a ((wnS (m0 G) N k).2 * (60 * (m0 G) 50 8)))), (6, vi ((t : Int))), (5, vi ((k : Int))), (3, vl ((wnS (m0 G) N k).2 * (60 * (m0 G) 50 8))), (0, .ref 50), (1, vi ((s : Int))), (2, vi ((n : Int)))]) hC (by decide +kernel) 1 rfl (by decide) rfl ?_
                                refine a_goto (pc := 188) (off := -89) hC 99 (by decide +kernel) (by decide) ?_
                                refine a_sub (lv' := [(7, vi (((a + 1) : Int))), (6, vi ((t : Int))), (5, vi ((k : Int))), (3, vl ((wnS (m0 G) N k).2 * (60 * (m0 G) 50 8))), (0, .ref 50), (1, vi ((s : Int))), (2, vi ((n : Int)))]) [0, 2, 3, 4, 5, 6, 7] rfl ?_
                                refine g_G (G' := uG (wnS (m0 G) N k).1 63 (up (thF (wnS (m0 G) N k).1 N ((wnS (m0 G) N k).2 * (60 * (m0 G) 50 8)) t) t (thA (wnS (m0 G) N k).1 N t ((wnS (m0 G) N k).2 * (60 * (m0 G) 50 8)) (a + 1)))) (by rw [uG_s, uG_uG, up_up, ← hst]) ?_
                                exact ih99 (a + 1) (by omega) (by omega)
                              · skip
                                refine a_aload_n (pc := 133) (q := 0) (i := 0) (x := 50) hC (by decide +kernel) rfl 5 rfl ?_
                                refine g_get (pc := 134) (idx := 7) (ci := 6) (v := .ref 51) hC 50 2 (by decide +kernel) rfl rfl rfl rfl wrM (by decide) rfl (by decide +kernel) ?_
                                refine a_iload (pc := 137) (i := 6) (x := (t : Int)) hC (by decide +kernel) 2 rfl ?_
                                refine g_zald (pc := 139) (a := 51) (j := t) hC hty (by decide +kernel) rfl (by omega) (by first | decide | omega) ?_
                                refine g_top (y := (wnS (m0 G) N k).1 51 t) (by rw [hcg 51 (by omega)]) ?_
                                refine a_if_eq (pc := 140) (off := 19) hC 159 (by decide +kernel) (by decide) (by unfold inI; omega) (fun c140 => ?_) (fun c140 => ?_)
                                · skip
                                  refine a_lload (pc := 159) (i := 8) (x := cnZ (wnS (m0 G) N k).1 N t a ((wnS (m0 G) N k).2 * (60 * (m0 G) 50 8))) hC (by decide +kernel) 0 rfl ?_
                                  refine a_aload_n (pc := 161) (q := 0) (i := 0) (x := 50) hC (by decide +kernel) rfl 5 rfl ?_
                                  refine g_get (pc := 162) (idx := 59) (ci := 6) (v := .ref 63) hC 50 23 (by decide +kernel) rfl rfl rfl rfl wrM (by decide) rfl (by decide +kernel) ?_
                                  refine a_iload (pc := 165) (i := 6) (x := (t : Int)) hC (by decide +kernel) 2 rfl ?_
                                  refine g_lald (pc := 167) (a := 63) (j := t) hC hty (by decide +kernel) rfl (by omega) (by first | decide | omega) ?_
                                  refine g_topl (y := thA (wnS (m0 G) N k).1 N t ((wnS (m0 G) N k).2 * (60 * (m0 G) 50 8)) a) (by rw [uG_s, up_s]) ?_
                                  refine a_lcmp (pc := 168) hC (by decide +kernel) hci hti ?_
                                  refine a_if_le (pc := 169) (off := 8) hC 177 (by decide +kernel) (by decide) (cmpZ_in _ _) (fun c169 => ?_) (fun c169 => ?_)
                                  · skip
                                    rw [cmpZ_le] at c169
                                    have hst : (thA (wnS (m0 G) N k).1 N t ((wnS (m0 G) N k).2 * (60 * (m0 G) 50 8)) a) = thA (wnS (m0 G) N k).1 N t ((wnS (m0 G) N k).2 * (60 * (m0 G) 50 8)) (a + 1) := by show _ = (if _ then _ else _); rw [if_neg (fun z => z.elim (fun e => c130 (by omega)) (fun e => by rw [if_pos c140] at e; omega))]
                                    refine a_aload_n (pc := 177) (q := 0) (i := 0) (x := 50) hC (by decide +kernel) rfl 5 rfl ?_
                                    refine g_get (pc := 178) (idx := 59) (ci := 6) (v := .ref 63) hC 50 23 (by decide +kernel) rfl rfl rfl rfl wrM (by decide) rfl (by decide +kernel) ?_
                                    refine a_iload (pc := 181) (i := 6) (x := (t : Int)) hC (by decide +kernel) 2 rfl ?_
                                    refine g_lald (pc := 183) (a := 63) (j := t) hC hty (by decide +kernel) rfl (by omega) (by first | decide | omega) ?_
                                    refine g_topl (y := thA (wnS (m0 G) N k).1 N t ((wnS (m0 G) N k).2 * (60 * (m0 G) 50 8)) a) (by rw [uG_s, up_s]) ?_
                                    refine g_last (pc := 184) (a := 63) (j := t) (x := thA (wnS (m0 G) N k).1 N t ((wnS (m0 G) N k).2 * (60 * (m0 G) 50 8)) a) hC hty (by decide +kernel) rfl (by omega) (by first | decide | omega) ?_
                                    refine a_iinc (pc := 185) (i := 7) (c := 1) (x := (a : Int)) (lv' := [(7, vi (((a : Int)) + 1)), (8, vl (cnZ (wnS (m0 G) N k).1 N t a ((wnS (m0 G) N k).2 * (60 * (m0 G) 50 8)))), (6, vi ((t : Int))), (5, vi ((k : Int))), (3, vl ((wnS (m0 G) N k).2 * (60 * (m0 G) 50 8))), (0, .ref 50), (1, vi ((s : Int))), (2, vi ((n : Int)))]) hC (by decide +kernel) 1 rfl (by decide) rfl ?_
                                    refine a_goto (pc := 188) (off := -89) hC 99 (by decide +kernel) (by decide) ?_
                                    refine a_sub (lv' := [(7, vi (((a + 1) : Int))), (6, vi ((t : Int))), (5, vi ((k : Int))), (3, vl ((wnS (m0 G) N k).2 * (60 * (m0 G) 50 8))), (0, .ref 50), (1, vi ((s : Int))), (2, vi ((n : Int)))]) [0, 2, 3, 4, 5, 6, 7] rfl ?_
                                    refine g_G (G' := uG (wnS (m0 G) N k).1 63 (up (thF (wnS (m0 G) N k).1 N ((wnS (m0 G) N k).2 * (60 * (m0 G) 50 8)) t) t (thA (wnS (m0 G) N k).1 N t ((wnS (m0 G) N k).2 * (60 * (m0 G) 50 8)) (a + 1)))) (by rw [uG_s, uG_uG, up_up, ← hst]) ?_
                                    exact ih99 (a + 1) (by omega) (by omega)
                                  · skip
                                    rw [cmpZ_le] at c169
                                    have hst : (cnZ (wnS (m0 G) N k).1 N t a ((wnS (m0 G) N k).2 * (60 * (m0 G) 50 8))) = thA (wnS (m0 G) N k).1 N t ((wnS (m0 G) N k).2 * (60 * (m0 G) 50 8)) (a + 1) := by show _ = (if _ then _ else _); rw [if_pos (Or.inr (by rw [if_pos c140]; omega))]
                                    refine a_lload (pc := 172) (i := 8) (x := cnZ (wnS (m0 G) N k).1 N t a ((wnS (m0 G) N k).2 * (60 * (m0 G) 50 8))) hC (by decide +kernel) 0 rfl ?_
                                    refine a_goto (pc := 174) (off := 10) hC 184 (by decide +kernel) (by decide) ?_
                                    refine g_last (pc := 184) (a := 63) (j := t) (x := cnZ (wnS (m0 G) N k).1 N t a ((wnS (m0 G) N k).2 * (60 * (m0 G) 50 8))) hC hty (by decide +kernel) rfl (by omega) (by first | decide | omega) ?_
                                    refine a_iinc (pc := 185) (i := 7) (c := 1) (x := (a : Int)) (lv' := [(7, vi (((a : Int)) + 1)), (8, vl (cnZ (wnS (m0 G) N k).1 N t a ((wnS (m0 G) N k).2 * (60 * (m0 G) 50 8)))), (6, vi ((t : Int))), (5, vi ((k : Int))), (3, vl ((wnS (m0 G) N k).2 * (60 * (m0 G) 50 8))), (0, .ref 50), (1, vi ((s : Int))), (2, vi ((n : Int)))]) hC (by decide +kernel) 1 rfl (by decide) rfl ?_
                                    refine a_goto (pc := 188) (off := -89) hC 99 (by decide +kernel) (by decide) ?_
                                    refine a_sub (lv' := [(7, vi (((a + 1) : Int))), (6, vi ((t : Int))), (5, vi ((k : Int))), (3, vl ((wnS (m0 G) N k).2 * (60 * (m0 G) 50 8))), (0, .ref 50), (1, vi ((s : Int))), (2, vi ((n : Int)))]) [0, 2, 3, 4, 5, 6, 7] rfl ?_
                                    refine g_G (G' := uG (wnS (m0 G) N k).1 63 (up (thF (wnS (m0 G) N k).1 N ((wnS (m0 G) N k).2 * (60 * (m0 G) 50 8)) t) t (thA (wnS (m0 G) N k).1 N t ((wnS (m0 G) N k).2 * (60 * (m0 G) 50 8)) (a + 1)))) (by rw [uG_s, uG_uG, up_up, ← hst]) ?_
                                    exact ih99 (a + 1) (by omega) (by omega)
                                · skip
                                  refine a_lload (pc := 143) (i := 8) (x := cnZ (wnS (m0 G) N k).1 N t a ((wnS (m0 G) N k).2 * (60 * (m0 G) 50 8))) hC (by decide +kernel) 0 rfl ?_
                                  refine a_aload_n (pc := 145) (q := 0) (i := 0) (x := 50) hC (by decide +kernel) rfl 5 rfl ?_
                                  refine g_get (pc := 146) (idx := 59) (ci := 6) (v := .ref 63) hC 50 23 (by decide +kernel) rfl rfl rfl rfl wrM (by decide) rfl (by decide +kernel) ?_
                                  refine a_iload (pc := 149) (i := 6) (x := (t : Int)) hC (by decide +kernel) 2 rfl ?_
                                  refine g_lald (pc := 151) (a := 63) (j := t) hC hty (by decide +kernel) rfl (by omega) (by first | decide | omega) ?_
                                  refine g_topl (y := thA (wnS (m0 G) N k).1 N t ((wnS (m0 G) N k).2 * (60 * (m0 G) 50 8)) a) (by rw [uG_s, up_s]) ?_
                                  refine a_lcmp (pc := 152) hC (by decide +kernel) hci hti ?_
                                  refine a_if_ge (pc := 153) (off := 24) hC 177 (by decide +kernel) (by decide) (cmpZ_in _ _) (fun c153 => ?_) (fun c153 => ?_)
                                  · skip
                                    rw [cmpZ_ge] at c153
                                    have hst : (thA (wnS (m0 G) N k).1 N t ((wnS (m0 G) N k).2 * (60 * (m0 G) 50 8)) a) = thA (wnS (m0 G) N k).1 N t ((wnS (m0 G) N k).2 * (60 * (m0 G) 50 8)) (a + 1) := by show _ = (if _ then _ else _); rw [if_neg (fun z => z.elim (fun e => c130 (by omega)) (fun e => by rw [if_neg c140] at e; omega))]
                                    refine a_aload_n (pc := 177) (q := 0) (i := 0) (x := 50) hC (by decide +kernel) rfl 5 rfl ?_
                                    refine g_get (pc := 178) (idx := 59) (ci := 6) (v := .ref 63) hC 50 23 (by decide +kernel) rfl rfl rfl rfl wrM (by decide) rfl (by decide +kernel) ?_
                                    refine a_iload (pc := 181) (i := 6) (x := (t : Int)) hC (by decide +kernel) 2 rfl ?_
                                    refine g_lald (pc := 183) (a := 63) (j := t) hC hty (by decide +kernel) rfl (by omega) (by first | decide | omega) ?_
                                    refine g_topl (y := thA (wnS (m0 G) N k).1 N t ((wnS (m0 G) N k).2 * (60 * (m0 G) 50 8)) a) (by rw [uG_s, up_s]) ?_
                                    refine g_last (pc := 184) (a := 63) (j := t) (x := thA (wnS (m0 G) N k).1 N t ((wnS (m0 G) N k).2 * (60 * (m0 G) 50 8)) a) hC hty (by decide +kernel) rfl (by omega) (by first | decide | omega) ?_
                                    refine a_iinc (pc := 185) (i := 7) (c := 1) (x := (a : Int)) (lv' := [(7, vi (((a : Int)) + 1)), (8, vl (cnZ (wnS (m0 G) N k).1 N t a ((wnS (m0 G) N k).2 * (60 * (m0 G) 50 8)))), (6, vi ((t : Int))), (5, vi ((k : Int))), (3, vl ((wnS (m0 G) N k).2 * (60 * (m0 G) 50 8))), (0, .ref 50), (1, vi ((s : Int))), (2, vi ((n : Int)))]) hC (by decide +kernel) 1 rfl (by decide) rfl ?_
                                    refine a_goto (pc := 188) (off := -89) hC 99 (by decide +kernel) (by decide) ?_
                                    refine a_sub (lv' := [(7, vi (((a + 1) : Int))), (6, vi ((t : Int))), (5, vi ((k : Int))), (3, vl ((wnS (m0 G) N k).2 * (60 * (m0 G) 50 8))), (0, .ref 50), (1, vi ((s : Int))), (2, vi ((n : Int)))]) [0, 2, 3, 4, 5, 6, 7] rfl ?_
                                    refine g_G (G' := uG (wnS (m0 G) N k).1 63 (up (thF (wnS (m0 G) N k).1 N ((wnS (m0 G) N k).2 * (60 * (m0 G) 50 8)) t) t (thA (wnS (m0 G) N k).1 N t ((wnS (m0 G) N k).2 * (60 * (m0 G) 50 8)) (a + 1)))) (by rw [uG_s, uG_uG, up_up, ← hst]) ?_
                                    exact ih99 (a + 1) (by omega) (by omega)
                                  · skip
                                    rw [cmpZ_ge] at c153
                                    have hst : (cnZ (wnS (m0 G) N k).1 N t a ((wnS (m0 G) N k).2 * (60 * (m0 G) 50 8))) = thA (wnS (m0 G) N k).1 N t ((wnS (m0 G) N k).2 * (60 * (m0 G) 50 8)) (a + 1) := by show _ = (if _ then _ else _); rw [if_pos (Or.inr (by rw [if_neg c140]; omega))]
                                    refine a_goto (pc := 156) (off := 16) hC 172 (by decide +kernel) (by decide) ?_
                                    refine a_lload (pc := 172) (i := 8) (x := cnZ (wnS (m0 G) N k).1 N t a ((wnS (m0 G) N k).2 * (60 * (m0 G) 50 8))) hC (by decide +kernel) 0 rfl ?_
                                    refine a_goto (pc := 174) (off := 10) hC 184 (by decide +kernel) (by decide) ?_
                                    refine g_last (pc := 184) (a := 63) (j := t) (x := cnZ (wnS (m0 G) N k).1 N t a ((wnS (m0 G) N k).2 * (60 * (m0 G) 50 8))) hC hty (by decide +kernel) rfl (by omega) (by first | decide | omega) ?_
                                    refine a_iinc (pc := 185) (i := 7) (c := 1) (x := (a : Int)) (lv' := [(7, vi (((a : Int)) + 1)), (8, vl (cnZ (wnS (m0 G) N k).1 N t a ((wnS (m0 G) N k).2 * (60 * (m0 G) 50 8)))), (6, vi ((t : Int))), (5, vi ((k : Int))), (3, vl ((wnS (m0 G) N k).2 * (60 * (m0 G) 50 8))), (0, .ref 50), (1, vi ((s : Int))), (2, vi ((n : Int)))]) hC (by decide +kernel) 1 rfl (by decide) rfl ?_
                                    refine a_goto (pc := 188) (off := -89) hC 99 (by decide +kernel) (by decide) ?_
                                    refine a_sub (lv' := [(7, vi (((a + 1) : Int))), (6, vi ((t : Int))), (5, vi ((k : Int))), (3, vl ((wnS (m0 G) N k).2 * (60 * (m0 G) 50 8))), (0, .ref 50), (1, vi ((s : Int))), (2, vi ((n : Int)))]) [0, 2, 3, 4, 5, 6, 7] rfl ?_
                                    refine g_G (G' := uG (wnS (m0 G) N k).1 63 (up (thF (wnS (m0 G) N k).1 N ((wnS (m0 G) N k).2 * (60 * (m0 G) 50 8)) t) t (thA (wnS (m0 G) N k).1 N t ((wnS (m0 G) N k).2 * (60 * (m0 G) 50 8)) (a + 1)))) (by rw [uG_s, uG_uG, up_up, ← hst]) ?_
                                    exact ih99 (a + 1) (by omega) (by omega)
                        refine a_sub (lv' := [(7, vi ((0 : Int))), (6, vi ((t : Int))), (5, vi ((k : Int))), (3, vl ((wnS (m0 G) N k).2 * (60 * (m0 G) 50 8))), (0, .ref 50), (1, vi ((s : Int))), (2, vi ((n : Int)))]) [0, 1, 2, 3, 4, 5, 6] rfl ?_
                        exact L99 _ 0 (Nat.lt_succ_self _) (by omega)
                  refine a_sub (lv' := [(6, vi ((0 : Int))), (5, vi ((k : Int))), (3, vl ((wnS (m0 G) N k).2 * (60 * (m0 G) 50 8))), (0, .ref 50), (1, vi ((s : Int))), (2, vi ((n : Int)))]) [0, 2, 1, 3, 4, 5] rfl ?_
                  refine g_G (G' := uG (wnS (m0 G) N k).1 63 (thF (wnS (m0 G) N k).1 N ((wnS (m0 G) N k).2 * (60 * (m0 G) 50 8)) 0)) (by rw [thF_0, uG_self]) ?_
                  exact L79 _ 0 (Nat.lt_succ_self _) (by omega)
            refine a_sub (lv' := [(5, vi ((0 : Int))), (3, vl ((wnS (m0 G) N 0).2)), (0, .ref 50), (1, vi ((s : Int))), (2, vi ((n : Int)))]) [0, 1, 2, 3, 4] rfl ?_
            refine g_G (G' := (wnS (m0 G) N 0).1) (by rw [show t = N by omega]; rfl) ?_
            exact L58 _ 0 (Nat.lt_succ_self _) (by omega)
          · skip
            refine a_aload_n (pc := 40) (q := 0) (i := 0) (x := 50) hC (by decide +kernel) rfl 1 rfl ?_
            refine g_get (pc := 41) (idx := 56) (ci := 6) (v := .ref 62) hC 50 22 (by decide +kernel) rfl rfl rfl rfl wrM (by decide) rfl (by decide +kernel) ?_
            refine a_iload_n (pc := 44) (q := 3) (i := 3) (x := (t : Int)) hC (by decide +kernel) rfl 0 rfl ?_
            refine a_lconst (pc := 45) (c := 0) (z := 0) hC (by decide +kernel) rfl ?_
            refine g_last (pc := 46) (a := 62) (j := t) (x := 0) hC hty (by decide +kernel) rfl (by omega) (by first | decide | omega) ?_
            refine a_iinc (pc := 47) (i := 3) (c := 1) (x := (t : Int)) (lv' := [(3, vi (((t : Int)) + 1)), (0, .ref 50), (1, vi ((s : Int))), (2, vi ((n : Int)))]) hC (by decide +kernel) 0 rfl (by decide) rfl ?_
            refine a_goto (pc := 50) (off := -18) hC 32 (by decide +kernel) (by decide) ?_
            refine a_sub (lv' := [(3, vi (((t + 1) : Int))), (0, .ref 50), (1, vi ((s : Int))), (2, vi ((n : Int)))]) [0, 1, 2, 3] rfl ?_
            refine g_G (G' := uG (m0 G) 62 (fillF ((m0 G) 62) (t + 1) 0)) (by rw [uG_s, uG_uG, fillF_s]) ?_
            exact ih32 (t + 1) (by omega) (by omega)
      refine a_sub (lv' := [(3, vi ((0 : Int))), (0, .ref 50), (1, vi ((s : Int))), (2, vi ((n : Int)))]) [0, 1, 2, 3] rfl ?_
      refine g_G (G' := uG (m0 G) 62 (fillF ((m0 G) 62) 0 0)) (by rw [fillF_0, uG_self]) ?_
      exact L32 _ 0 (Nat.lt_succ_self _) (by omega)
    · skip
      exact absurd c24 (by decide)
  · skip
    exact absurd c10 (by decide)
