/-! the reference: values -/
def agS (G : GT) (p q : Nat) (b : Int) : Nat → Bool
  | 0 => true
  | s + 1 => agS G p q b s && (decide (¬ G 51 s = b) || decide (actZ G p s = actZ G q s))
theorem agS_down {G : GT} {p q : Nat} {b : Int} : ∀ {n t : Nat}, t ≤ n → agS G p q b n = true → agS G p q b t = true
  | 0, t, h, hc => by rw [show t = 0 by omega]; rfl
  | n + 1, t, h, hc => by
    by_cases e : t = n + 1
    · rw [e]; exact hc
    · have : agS G p q b n = true := by unfold agS at hc; simp at hc; exact hc.1
      exact agS_down (by omega) this
def utS (G : GT) (N s p : Nat) (b g : Int) : Nat → Nat
  | 0 => p
  | q + 1 => if agS G p q b N = true then (if g = 0 then (if cmU G s q (utS G N s p b g q) < 0 then q else utS G N s p b g q) else (if 0 < cmU G s q (utS G N s p b g q) then q else utS G N s p b g q)) else utS G N s p b g q
theorem utS_lt {G : GT} {N s p : Nat} {b g : Int} {P : Nat} (hp : p < P) : ∀ q, q ≤ P → utS G N s p b g q < P
  | 0, _ => hp
  | q + 1, h => by
    have ih := utS_lt (G := G) (N := N) (s := s) (b := b) (g := g) hp q (by omega)
    unfold utS
    split
    · split
      · split
        · omega
        · exact ih
      · split
        · omega
        · exact ih
    · exact ih
def hzS (G : GT) (p : Nat) : Nat → Bool
  | 0 => true
  | s + 1 => hzS G p s && (decide (G 51 s = 0) || decide (actZ G p s ≤ 0))
theorem hzS_down {G : GT} {p : Nat} : ∀ {n t : Nat}, t ≤ n → hzS G p n = true → hzS G p t = true
  | 0, t, h, hc => by rw [show t = 0 by omega]; rfl
  | n + 1, t, h, hc => by
    by_cases e : t = n + 1
    · rw [e]; exact hc
    · have : hzS G p n = true := by unfold hzS at hc; simp at hc; exact hc.1
      exact hzS_down (by omega) this
theorem actZ_in3 {G : GT} {p s : Nat} (h : ∀ s, s < 5 → 0 ≤ G 52 s ∧ G 52 s ≤ 3) (hs : s < 5) : -1 ≤ actZ G p s ∧ actZ G p s ≤ 2 := by
  have h1 := h s hs
  rcases actZ_in (p := p) h hs with h2 | h2 <;> omega
def haS (G : GT) (p : Nat) : Nat → Bool
  | 0 => true
  | s + 1 => haS G p s && decide (cmU G s p (G 61 s).toNat = 0)
theorem haS_down {G : GT} {p : Nat} : ∀ {n t : Nat}, t ≤ n → haS G p n = true → haS G p t = true
  | 0, t, h, hc => by rw [show t = 0 by omega]; rfl
  | n + 1, t, h, hc => by
    by_cases e : t = n + 1
    · rw [e]; exact hc
    · have : haS G p n = true := by unfold haS at hc; simp at hc; exact hc.1
      exact haS_down (by omega) this

set_option maxRecDepth 100000 in
set_option maxHeartbeats 4000000 in
theorem ct_M_agree (l : Launch) (D : va_G) (K : K5) (G : GT) (N P p q : Nat) (b : Int) (hb : b = 0 ∨ b = 1) (hp0 : p < P) (hq : q < P) (hP : P ≤ 243) (hmm : MM G N) : Ct l D K y_M_agree c_M_agree 5 (some .boolean) 1 24 [.ref 50, vi ((p : Int)), vi ((q : Int)), vi b] G (some (vi (bZ (agS G p q b N)))) G := by
  refine Ct.intro (by decide +kernel) (Nat.le_of_ble_eq_true rfl) ?_
  intro X hro hty hC hE
  obtain ⟨hn, hN5, hsh, hac, hpa, hwe, hth, hch⟩ := id hmm
  refine a_iconst (pc := 0) (c := 0) hC (by decide +kernel) ?_
  refine a_istore (pc := 1) (q := 0) (i := 4) (lv' := [(4, vi 0), (0, .ref 50), (1, vi ((p : Int))), (2, vi ((q : Int))), (3, vi b)]) hC (by decide +kernel) (by decide) rfl ?_
  have L3 : ∀ (fuel : Nat) (s : Nat), N - s < fuel → s ≤ N → agS G p q b s = true → AW X 5 0 0 3 [(4, vi ((s : Int))), (0, .ref 50), (1, vi ((p : Int))), (2, vi ((q : Int))), (3, vi b)] [] (hp K G) := by
    intro fuel
    induction fuel with
    | zero => intro s h; exact absurd h (Nat.not_lt_zero _)
    | succ fuel ih3 =>
      intro s hm hs ha
      refine a_iload (pc := 3) (i := 4) (x := (s : Int)) hC (by decide +kernel) 0 rfl ?_
      refine a_aload_n (pc := 5) (q := 0) (i := 0) (x := 50) hC (by decide +kernel) rfl 1 rfl ?_
      refine g_get (pc := 6) (idx := 72) (ci := 6) (v := vi (G 50 1)) hC 50 1 (by decide +kernel) rfl rfl rfl rfl wrM (by decide) rfl (by decide +kernel) ?_
      refine a_icmp_ge (pc := 9) (off := 39) hC 48 (by decide +kernel) (by decide) (by unfold inI; omega) (by unfold inI; omega) (fun c9 => ?_) (fun c9 => ?_)
      · skip
        refine a_iconst (pc := 48) (c := 1) hC (by decide +kernel) ?_
        exact g_zret (pc := 49) hC hE (by decide +kernel) (by omega) (by have hsN : s = N := (by omega); rw [hsN] at ha; rw [ha]; rfl) rfl
      · skip
        have h51 := hth s (by omega)
        refine a_aload_n (pc := 12) (q := 0) (i := 0) (x := 50) hC (by decide +kernel) rfl 1 rfl ?_
        refine g_get (pc := 13) (idx := 7) (ci := 6) (v := .ref 51) hC 50 2 (by decide +kernel) rfl rfl rfl rfl wrM (by decide) rfl (by decide +kernel) ?_
        refine a_iload (pc := 16) (i := 4) (x := (s : Int)) hC (by decide +kernel) 0 rfl ?_
        refine g_zald (pc := 18) (a := 51) (j := s) hC hty (by decide +kernel) rfl (by omega) (by first | decide | omega) ?_
        refine a_iload_n (pc := 19) (q := 3) (i := 3) (x := b) hC (by decide +kernel) rfl 4 rfl ?_
        refine a_icmp_ne (pc := 20) (off := 22) hC 42 (by decide +kernel) (by decide) (by unfold inI; omega) (by unfold inI; omega) (fun c20 => ?_) (fun c20 => ?_)
        · skip
          refine a_iinc (pc := 42) (i := 4) (c := 1) (x := (s : Int)) (lv' := [(4, vi (((s : Int)) + 1)), (0, .ref 50), (1, vi ((p : Int))), (2, vi ((q : Int))), (3, vi b)]) hC (by decide +kernel) 0 rfl (by decide) rfl ?_
          refine a_goto (pc := 45) (off := -42) hC 3 (by decide +kernel) (by decide) ?_
          refine a_sub (lv' := [(4, vi (((s + 1) : Int))), (0, .ref 50), (1, vi ((p : Int))), (2, vi ((q : Int))), (3, vi b)]) [0, 1, 2, 3, 4] rfl ?_
          exact ih3 (s + 1) (by omega) (by omega) (by unfold agS; rw [ha]; simp; first | exact Or.inl c20 | exact Or.inr c37)
        · skip
          have hz1 := actZ_in3 (p := p) hac (by omega : s < 5)
          have hz2 := actZ_in3 (p := q) hac (by omega : s < 5)
          refine a_aload_n (pc := 23) (q := 0) (i := 0) (x := 50) hC (by decide +kernel) rfl 1 rfl ?_
          refine a_iload_n (pc := 24) (q := 1) (i := 1) (x := (p : Int)) hC (by decide +kernel) rfl 2 rfl ?_
          refine a_iload (pc := 25) (i := 4) (x := (s : Int)) hC (by decide +kernel) 0 rfl ?_
          refine g_callV (pc := 27) (idx := 112) (i := 50) (av := [vi ((p : Int)), vi ((s : Int))]) (rest := []) (g := G) (v := vi (actZ G p s)) hC hro hty (by decide +kernel) rfl rfl k_M_actIn (by decide +kernel) (by decide +kernel) (by decide +kernel) (ct_M_actIn X.la X.dd K G p s (by omega) (by omega) hac) rfl rfl (by decide) (by first | decide | simp [Value.category]) ?_
          refine a_aload_n (pc := 30) (q := 0) (i := 0) (x := 50) hC (by decide +kernel) rfl 1 rfl ?_
          refine a_iload_n (pc := 31) (q := 2) (i := 2) (x := (q : Int)) hC (by decide +kernel) rfl 3 rfl ?_
          refine a_iload (pc := 32) (i := 4) (x := (s : Int)) hC (by decide +kernel) 0 rfl ?_
          refine g_callV (pc := 34) (idx := 112) (i := 50) (av := [vi ((q : Int)), vi ((s : Int))]) (rest := [vi (actZ G p s)]) (g := G) (v := vi (actZ G q s)) hC hro hty (by decide +kernel) rfl rfl k_M_actIn (by decide +kernel) (by decide +kernel) (by decide +kernel) (ct_M_actIn X.la X.dd K G q s (by omega) (by omega) hac) rfl rfl (by decide) (by first | decide | simp [Value.category]) ?_
          refine a_icmp_eq (pc := 37) (off := 5) hC 42 (by decide +kernel) (by decide) (by unfold inI; omega) (by unfold inI; omega) (fun c37 => ?_) (fun c37 => ?_)
          · skip
            refine a_iinc (pc := 42) (i := 4) (c := 1) (x := (s : Int)) (lv' := [(4, vi (((s : Int)) + 1)), (0, .ref 50), (1, vi ((p : Int))), (2, vi ((q : Int))), (3, vi b)]) hC (by decide +kernel) 0 rfl (by decide) rfl ?_
            refine a_goto (pc := 45) (off := -42) hC 3 (by decide +kernel) (by decide) ?_
            refine a_sub (lv' := [(4, vi (((s + 1) : Int))), (0, .ref 50), (1, vi ((p : Int))), (2, vi ((q : Int))), (3, vi b)]) [0, 1, 2, 3, 4] rfl ?_
            exact ih3 (s + 1) (by omega) (by omega) (by unfold agS; rw [ha]; simp; first | exact Or.inl c20 | exact Or.inr c37)
          · skip
            refine a_iconst (pc := 40) (c := 0) hC (by decide +kernel) ?_
            exact g_zret (pc := 41) hC hE (by decide +kernel) (by omega) (by
              have hx : agS G p q b N = false := by
                cases hh : agS G p q b N
                · rfl
                · have h7 := agS_down (t := s + 1) (by omega) hh
                  unfold agS at h7; rw [ha] at h7; simp at h7
                  exact absurd (h7.resolve_left (fun z => z c20)) c37
              rw [hx]; rfl) rfl
  refine a_sub (lv' := [(4, vi ((0 : Int))), (0, .ref 50), (1, vi ((p : Int))), (2, vi ((q : Int))), (3, vi b)]) [0, 1, 2, 3, 4] rfl ?_
  exact L3 _ 0 (Nat.lt_succ_self _) (by omega) rfl

set_option maxRecDepth 100000 in
set_option maxHeartbeats 4000000 in
theorem ct_M_utmost (l : Launch) (D : va_G) (K : K5) (G : GT) (N P s p : Nat) (b g : Int) (hb : b = 0 ∨ b = 1) (hg : g = 0 ∨ g = 1) (hs : s < N) (hp0 : p < P) (hPl : G 50 14 = (P : Int)) (hmm : MM G N) (hcm : CmOk G N P) : Ct l D K y_M_utmost c_M_utmost 8 (some .int) 2 48 [.ref 50, vi ((s : Int)), vi ((p : Int)), vi b, vi g] G (some (vi (((utS G N s p b g P : Nat) : Int)))) G := by
  refine Ct.intro (by decide +kernel) (Nat.le_of_ble_eq_true rfl) ?_
  intro X hro hty hC hE
  obtain ⟨hn, hN5, hsh, hac, hpa, hwe, hth, hch⟩ := id hmm
  have hP := hcm.1
  refine a_iload_n (pc := 0) (q := 2) (i := 2) (x := (p : Int)) hC (by decide +kernel) rfl 2 rfl ?_
  refine a_istore (pc := 1) (q := 0) (i := 5) (lv' := [(5, vi ((p : Int))), (0, .ref 50), (1, vi ((s : Int))), (2, vi ((p : Int))), (3, vi b), (4, vi g)]) hC (by decide +kernel) (by decide) rfl ?_
  refine a_iconst (pc := 3) (c := 0) hC (by decide +kernel) ?_
  refine a_istore (pc := 4) (q := 0) (i := 6) (lv' := [(6, vi 0), (5, vi ((p : Int))), (0, .ref 50), (1, vi ((s : Int))), (2, vi ((p : Int))), (3, vi b), (4, vi g)]) hC (by decide +kernel) (by decide) rfl ?_
  have L6 : ∀ (fuel : Nat) (q : Nat), P - q < fuel → q ≤ P → AW X 8 0 0 6 [(6, vi ((q : Int))), (5, vi (((utS G N s p b g q : Nat) : Int))), (0, .ref 50), (1, vi ((s : Int))), (2, vi ((p : Int))), (3, vi b), (4, vi g)] [] (hp K G) := by
    intro fuel
    induction fuel with
    | zero => intro q h; exact absurd h (Nat.not_lt_zero _)
    | succ fuel ih6 =>
      intro q hm hq
      refine a_iload (pc := 6) (i := 6) (x := (q : Int)) hC (by decide +kernel) 0 rfl ?_
      refine a_aload_n (pc := 8) (q := 0) (i := 0) (x := 50) hC (by decide +kernel) rfl 2 rfl ?_
      refine g_get (pc := 9) (idx := 109) (ci := 6) (v := vi (G 50 14)) hC 50 14 (by decide +kernel) rfl rfl rfl rfl wrM (by decide) rfl (by decide +kernel) ?_
      refine a_icmp_ge (pc := 12) (off := 65) hC 77 (by decide +kernel) (by decide) (by unfold inI; omega) (by unfold inI; omega) (fun c12 => ?_) (fun c12 => ?_)
      · skip
        refine a_iload (pc := 77) (i := 5) (x := ((utS G N s p b g q : Nat) : Int)) hC (by decide +kernel) 1 rfl ?_
        exact g_iret (pc := 79) hC hE (by decide +kernel) (by rw [show q = P by omega]) rfl
      · skip
        have hut := utS_lt (G := G) (N := N) (s := s) (b := b) (g := g) hp0 q (by omega)
        have hag01 := bZ_01 (agS G p q b N)
        have hcu := cmU_in G s q (utS G N s p b g q)
        refine a_aload_n (pc := 15) (q := 0) (i := 0) (x := 50) hC (by decide +kernel) rfl 2 rfl ?_
        refine a_iload_n (pc := 16) (q := 2) (i := 2) (x := (p : Int)) hC (by decide +kernel) rfl 4 rfl ?_
        refine a_iload (pc := 17) (i := 6) (x := (q : Int)) hC (by decide +kernel) 0 rfl ?_
        refine a_iload_n (pc := 19) (q := 3) (i := 3) (x := b) hC (by decide +kernel) rfl 5 rfl ?_
        refine g_callV (pc := 20) (idx := 123) (i := 50) (av := [vi ((p : Int)), vi ((q : Int)), vi b]) (rest := []) (g := G) (v := vi (bZ (agS G p q b N))) hC hro hty (by decide +kernel) rfl rfl k_M_agree (by decide +kernel) (by decide +kernel) (by decide +kernel) (ct_M_agree X.la X.dd K G N P p q b hb hp0 (by omega) (by omega) hmm) rfl rfl (by decide) (by first | decide | simp [Value.category]) ?_
        refine a_if_eq (pc := 23) (off := 48) hC 71 (by decide +kernel) (by decide) (by unfold inI; omega) (fun c23 => ?_) (fun c23 => ?_)
        · skip
          have hag : agS G p q b N = false := by
            cases hh : agS G p q b N
            · rfl
            · rw [hh] at c23; exact absurd c23 (by decide)
          have hst : (utS G N s p b g q) = utS G N s p b g (q + 1) := by show _ = (if _ then _ else _); rw [if_neg (by rw [hag]; decide)]
          refine a_iinc (pc := 71) (i := 6) (c := 1) (x := (q : Int)) (lv' := [(6, vi (((q : Int)) + 1)), (5, vi (((utS G N s p b g q : Nat) : Int))), (0, .ref 50), (1, vi ((s : Int))), (2, vi ((p : Int))), (3, vi b), (4, vi g)]) hC (by decide +kernel) 0 rfl (by decide) rfl ?_
          refine a_goto (pc := 74) (off := -68) hC 6 (by decide +kernel) (by decide) ?_
          refine a_sub (lv' := [(6, vi (((q + 1) : Int))), (5, vi (((utS G N s p b g (q + 1) : Nat) : Int))), (0, .ref 50), (1, vi ((s : Int))), (2, vi ((p : Int))), (3, vi b), (4, vi g)]) [0, 1, 2, 3, 4, 5, 6] (by rw [← hst]; rfl) ?_
          exact ih6 (q + 1) (by omega) (by omega)
        · skip
          have hag : agS G p q b N = true := by
            cases hh : agS G p q b N
            · rw [hh] at c23; exact absurd rfl c23
            · rfl
          refine a_aload_n (pc := 26) (q := 0) (i := 0) (x := 50) hC (by decide +kernel) rfl 2 rfl ?_
          refine a_iload_n (pc := 27) (q := 1) (i := 1) (x := (s : Int)) hC (by decide +kernel) rfl 3 rfl ?_
          refine a_iload (pc := 28) (i := 6) (x := (q : Int)) hC (by decide +kernel) 0 rfl ?_
          refine a_iload (pc := 30) (i := 5) (x := ((utS G N s p b g q : Nat) : Int)) hC (by decide +kernel) 1 rfl ?_
          refine g_callV (pc := 32) (idx := 127) (i := 50) (av := [vi ((s : Int)), vi ((q : Int)), vi (((utS G N s p b g q : Nat) : Int))]) (rest := []) (g := G) (v := vi (cmU G s q (utS G N s p b g q))) hC hro hty (by decide +kernel) rfl rfl k_M_compare (by decide +kernel) (by decide +kernel) (by decide +kernel) (ct_M_compare X.la X.dd K G N P s q (utS G N s p b g q) (by omega) (by omega) (by omega) (by omega) hcm) rfl rfl (by decide) (by first | decide | simp [Value.category]) ?_
          refine a_istore (pc := 35) (q := 0) (i := 7) (lv' := [(7, vi (cmU G s q (utS G N s p b g q))), (6, vi ((q : Int))), (5, vi (((utS G N s p b g q : Nat) : Int))), (0, .ref 50), (1, vi ((s : Int))), (2, vi ((p : Int))), (3, vi b), (4, vi g)]) hC (by decide +kernel) (by decide) rfl ?_
          refine a_iload (pc := 37) (i := 4) (x := g) hC (by decide +kernel) 7 rfl ?_
          refine a_if_eq (pc := 39) (off := 18) hC 57 (by decide +kernel) (by decide) (by unfold inI; omega) (fun c39 => ?_) (fun c39 => ?_)
          · skip
            refine a_iload (pc := 57) (i := 7) (x := cmU G s q (utS G N s p b g q)) hC (by decide +kernel) 0 rfl ?_
            refine a_if_ge (pc := 59) (off := 8) hC 67 (by decide +kernel) (by decide) (by unfold inI; omega) (fun c59 => ?_) (fun c59 => ?_)
            · skip
              have hst : (utS G N s p b g q) = utS G N s p b g (q + 1) := by show _ = (if _ then _ else _); rw [if_pos hag, if_pos (by omega), if_neg (by omega)]
              refine a_iload (pc := 67) (i := 5) (x := ((utS G N s p b g q : Nat) : Int)) hC (by decide +kernel) 2 rfl ?_
              refine a_istore (pc := 69) (q := 0) (i := 5) (lv' := [(5, vi (((utS G N s p b g q : Nat) : Int))), (7, vi (cmU G s q (utS G N s p b g q))), (6, vi ((q : Int))), (0, .ref 50), (1, vi ((s : Int))), (2, vi ((p : Int))), (3, vi b), (4, vi g)]) hC (by decide +kernel) (by decide) rfl ?_
              refine a_iinc (pc := 71) (i := 6) (c := 1) (x := (q : Int)) (lv' := [(6, vi (((q : Int)) + 1)), (5, vi (((utS G N s p b g q : Nat) : Int))), (7, vi (cmU G s q (utS G N s p b g q))), (0, .ref 50), (1, vi ((s : Int))), (2, vi ((p : Int))), (3, vi b), (4, vi g)]) hC (by decide +kernel) 2 rfl (by decide) rfl ?_
              refine a_goto (pc := 74) (off := -68) hC 6 (by decide +kernel) (by decide) ?_
              refine a_sub (lv' := [(6, vi (((q + 1) : Int))), (5, vi (((utS G N s p b g (q + 1) : Nat) : Int))), (0, .ref 50), (1, vi ((s : Int))), (2, vi ((p : Int))), (3, vi b), (4, vi g)]) [0, 1, 3, 4, 5, 6, 7] (by rw [← hst]; rfl) ?_
              exact ih6 (q + 1) (by omega) (by omega)
            · skip
              have hst : q = utS G N s p b g (q + 1) := by show _ = (if _ then _ else _); rw [if_pos hag, if_pos (by omega), if_pos (by omega)]
              refine a_iload (pc := 62) (i := 6) (x := (q : Int)) hC (by decide +kernel) 1 rfl ?_
              refine a_goto (pc := 64) (off := 5) hC 69 (by decide +kernel) (by decide) ?_
              refine a_istore (pc := 69) (q := 0) (i := 5) (lv' := [(5, vi ((q : Int))), (7, vi (cmU G s q (utS G N s p b g q))), (6, vi ((q : Int))), (0, .ref 50), (1, vi ((s : Int))), (2, vi ((p : Int))), (3, vi b), (4, vi g)]) hC (by decide +kernel) (by decide) rfl ?_
              refine a_iinc (pc := 71) (i := 6) (c := 1) (x := (q : Int)) (lv' := [(6, vi (((q : Int)) + 1)), (5, vi ((q : Int))), (7, vi (cmU G s q (utS G N s p b g q))), (0, .ref 50), (1, vi ((s : Int))), (2, vi ((p : Int))), (3, vi b), (4, vi g)]) hC (by decide +kernel) 2 rfl (by decide) rfl ?_
              refine a_goto (pc := 74) (off := -68) hC 6 (by decide +kernel) (by decide) ?_
              refine a_sub (lv' := [(6, vi (((q + 1) : Int))), (5, vi (((utS G N s p b g (q + 1) : Nat) : Int))), (0, .ref 50), (1, vi ((s : Int))), (2, vi ((p : Int))), (3, vi b), (4, vi g)]) [0, 1, 3, 4, 5, 6, 7] (by rw [← hst]; rfl) ?_
              exact ih6 (q + 1) (by omega) (by omega)
          · skip
            refine a_iload (pc := 42) (i := 7) (x := cmU G s q (utS G N s p b g q)) hC (by decide +kernel) 0 rfl ?_
            refine a_if_le (pc := 44) (off := 8) hC 52 (by decide +kernel) (by decide) (by unfold inI; omega) (fun c44 => ?_) (fun c44 => ?_)
            · skip
              have hst : (utS G N s p b g q) = utS G N s p b g (q + 1) := by show _ = (if _ then _ else _); rw [if_pos hag, if_neg (by omega), if_neg (by omega)]
              refine a_iload (pc := 52) (i := 5) (x := ((utS G N s p b g q : Nat) : Int)) hC (by decide +kernel) 2 rfl ?_
              refine a_goto (pc := 54) (off := 15) hC 69 (by decide +kernel) (by decide) ?_
              refine a_istore (pc := 69) (q := 0) (i := 5) (lv' := [(5, vi (((utS G N s p b g q : Nat) : Int))), (7, vi (cmU G s q (utS G N s p b g q))), (6, vi ((q : Int))), (0, .ref 50), (1, vi ((s : Int))), (2, vi ((p : Int))), (3, vi b), (4, vi g)]) hC (by decide +kernel) (by decide) rfl ?_
              refine a_iinc (pc := 71) (i := 6) (c := 1) (x := (q : Int)) (lv' := [(6, vi (((q : Int)) + 1)), (5, vi (((utS G N s p b g q : Nat) : Int))), (7, vi (cmU G s q (utS G N s p b g q))), (0, .ref 50), (1, vi ((s : Int))), (2, vi ((p : Int))), (3, vi b), (4, vi g)]) hC (by decide +kernel) 2 rfl (by decide) rfl ?_
              refine a_goto (pc := 74) (off := -68) hC 6 (by decide +kernel) (by decide) ?_
              refine a_sub (lv' := [(6, vi (((q + 1) : Int))), (5, vi (((utS G N s p b g (q + 1) : Nat) : Int))), (0, .ref 50), (1, vi ((s : Int))), (2, vi ((p : Int))), (3, vi b), (4, vi g)]) [0, 1, 3, 4, 5, 6, 7] (by rw [← hst]; rfl) ?_
              exact ih6 (q + 1) (by omega) (by omega)
            · skip
              have hst : q = utS G N s p b g (q + 1) := by show _ = (if _ then _ else _); rw [if_pos hag, if_neg (by omega), if_pos (by omega)]
              refine a_iload (pc := 47) (i := 6) (x := (q : Int)) hC (by decide +kernel) 1 rfl ?_
              refine a_goto (pc := 49) (off := 20) hC 69 (by decide +kernel) (by decide) ?_
              refine a_istore (pc := 69) (q := 0) (i := 5) (lv' := [(5, vi ((q : Int))), (7, vi (cmU G s q (utS G N s p b g q))), (6, vi ((q : Int))), (0, .ref 50), (1, vi ((s : Int))), (2, vi ((p : Int))), (3, vi b), (4, vi g)]) hC (by decide +kernel) (by decide) rfl ?_
              refine a_iinc (pc := 71) (i := 6) (c := 1) (x := (q : Int)) (lv' := [(6, vi (((q : Int)) + 1)), (5, vi ((q : Int))), (7, vi (cmU G s q (utS G N s p b g q))), (0, .ref 50), (1, vi ((s : Int))), (2, vi ((p : Int))), (3, vi b), (4, vi g)]) hC (by decide +kernel) 2 rfl (by decide) rfl ?_
              refine a_goto (pc := 74) (off := -68) hC 6 (by decide +kernel) (by decide) ?_
              refine a_sub (lv' := [(6, vi (((q + 1) : Int))), (5, vi (((utS G N s p b g (q + 1) : Nat) : Int))), (0, .ref 50), (1, vi ((s : Int))), (2, vi ((p : Int))), (3, vi b), (4, vi g)]) [0, 1, 3, 4, 5, 6, 7] (by rw [← hst]; rfl) ?_
              exact ih6 (q + 1) (by omega) (by omega)
  refine a_sub (lv' := [(6, vi ((0 : Int))), (5, vi (((utS G N s p b g 0 : Nat) : Int))), (0, .ref 50), (1, vi ((s : Int))), (2, vi ((p : Int))), (3, vi b), (4, vi g)]) [0, 1, 2, 3, 4, 5, 6] rfl ?_
  exact L6 _ 0 (Nat.lt_succ_self _) (by omega)

set_option maxRecDepth 100000 in
set_option maxHeartbeats 4000000 in
theorem ct_M_hasZeros (l : Launch) (D : va_G) (K : K5) (G : GT) (N P p : Nat) (hp0 : p < P) (hP : P ≤ 243) (hmm : MM G N) : Ct l D K y_M_hasZeros c_M_hasZeros 3 (some .boolean) 1 24 [.ref 50, vi ((p : Int))] G (some (vi (bZ (hzS G p N)))) G := by
  refine Ct.intro (by decide +kernel) (Nat.le_of_ble_eq_true rfl) ?_
  intro X hro hty hC hE
  obtain ⟨hn, hN5, hsh, hac, hpa, hwe, hth, hch⟩ := id hmm
  refine a_iconst (pc := 0) (c := 0) hC (by decide +kernel) ?_
  refine a_istore_n (pc := 1) (q := 2) (i := 2) (lv' := [(2, vi 0), (0, .ref 50), (1, vi ((p : Int)))]) hC (by decide +kernel) rfl (by decide) rfl ?_
  have L2 : ∀ (fuel : Nat) (s : Nat), N - s < fuel → s ≤ N → hzS G p s = true → AW X 3 0 0 2 [(2, vi ((s : Int))), (0, .ref 50), (1, vi ((p : Int)))] [] (hp K G) := by
    intro fuel
    induction fuel with
    | zero => intro s h; exact absurd h (Nat.not_lt_zero _)
    | succ fuel ih2 =>
      intro s hm hs ha
      refine a_iload_n (pc := 2) (q := 2) (i := 2) (x := (s : Int)) hC (by decide +kernel) rfl 0 rfl ?_
      refine a_aload_n (pc := 3) (q := 0) (i := 0) (x := 50) hC (by decide +kernel) rfl 1 rfl ?_
      refine g_get (pc := 4) (idx := 72) (ci := 6) (v := vi (G 50 1)) hC 50 1 (by decide +kernel) rfl rfl rfl rfl wrM (by decide) rfl (by decide +kernel) ?_
      refine a_icmp_ge (pc := 7) (off := 29) hC 36 (by decide +kernel) (by decide) (by unfold inI; omega) (by unfold inI; omega) (fun c7 => ?_) (fun c7 => ?_)
      · skip
        refine a_iconst (pc := 36) (c := 1) hC (by decide +kernel) ?_
        exact g_zret (pc := 37) hC hE (by decide +kernel) (by omega) (by have hsN : s = N := (by omega); rw [hsN] at ha; rw [ha]; rfl) rfl
      · skip
        have h51 := hth s (by omega)
        refine a_aload_n (pc := 10) (q := 0) (i := 0) (x := 50) hC (by decide +kernel) rfl 1 rfl ?_
        refine g_get (pc := 11) (idx := 7) (ci := 6) (v := .ref 51) hC 50 2 (by decide +kernel) rfl rfl rfl rfl wrM (by decide) rfl (by decide +kernel) ?_
        refine a_iload_n (pc := 14) (q := 2) (i := 2) (x := (s : Int)) hC (by decide +kernel) rfl 0 rfl ?_
        refine g_zald (pc := 15) (a := 51) (j := s) hC hty (by decide +kernel) rfl (by omega) (by first | decide | omega) ?_
        refine a_if_eq (pc := 16) (off := 14) hC 30 (by decide +kernel) (by decide) (by unfold inI; omega) (fun c16 => ?_) (fun c16 => ?_)
        · skip
          refine a_iinc (pc := 30) (i := 2) (c := 1) (x := (s : Int)) (lv' := [(2, vi (((s : Int)) + 1)), (0, .ref 50), (1, vi ((p : Int)))]) hC (by decide +kernel) 0 rfl (by decide) rfl ?_
          refine a_goto (pc := 33) (off := -31) hC 2 (by decide +kernel) (by decide) ?_
          refine a_sub (lv' := [(2, vi (((s + 1) : Int))), (0, .ref 50), (1, vi ((p : Int)))]) [0, 1, 2] rfl ?_
          exact ih2 (s + 1) (by omega) (by omega) (by unfold hzS; rw [ha]; simp; first | exact Or.inl c16 | exact Or.inr c25)
        · skip
          have hz1 := actZ_in3 (p := p) hac (by omega : s < 5)
          refine a_aload_n (pc := 19) (q := 0) (i := 0) (x := 50) hC (by decide +kernel) rfl 1 rfl ?_
          refine a_iload_n (pc := 20) (q := 1) (i := 1) (x := (p : Int)) hC (by decide +kernel) rfl 2 rfl ?_
          refine a_iload_n (pc := 21) (q := 2) (i := 2) (x := (s : Int)) hC (by decide +kernel) rfl 0 rfl ?_
          refine g_callV (pc := 22) (idx := 112) (i := 50) (av := [vi ((p : Int)), vi ((s : Int))]) (rest := []) (g := G) (v := vi (actZ G p s)) hC hro hty (by decide +kernel) rfl rfl k_M_actIn (by decide +kernel) (by decide +kernel) (by decide +kernel) (ct_M_actIn X.la X.dd K G p s (by omega) (by omega) hac) rfl rfl (by decide) (by first | decide | simp [Value.category]) ?_
          refine a_if_le (pc := 25) (off := 5) hC 30 (by decide +kernel) (by decide) (by unfold inI; omega) (fun c25 => ?_) (fun c25 => ?_)
          · skip
            refine a_iinc (pc := 30) (i := 2) (c := 1) (x := (s : Int)) (lv' := [(2, vi (((s : Int)) + 1)), (0, .ref 50), (1, vi ((p : Int)))]) hC (by decide +kernel) 0 rfl (by decide) rfl ?_
            refine a_goto (pc := 33) (off := -31) hC 2 (by decide +kernel) (by decide) ?_
            refine a_sub (lv' := [(2, vi (((s + 1) : Int))), (0, .ref 50), (1, vi ((p : Int)))]) [0, 1, 2] rfl ?_
            exact ih2 (s + 1) (by omega) (by omega) (by unfold hzS; rw [ha]; simp; first | exact Or.inl c16 | exact Or.inr c25)
          · skip
            refine a_iconst (pc := 28) (c := 0) hC (by decide +kernel) ?_
            exact g_zret (pc := 29) hC hE (by decide +kernel) (by omega) (by
              have hx : hzS G p N = false := by
                cases hh : hzS G p N
                · rfl
                · have h7 := hzS_down (t := s + 1) (by omega) hh
                  unfold hzS at h7; rw [ha] at h7; simp at h7
                  omega
              rw [hx]; rfl) rfl
  refine a_sub (lv' := [(2, vi ((0 : Int))), (0, .ref 50), (1, vi ((p : Int)))]) [0, 1, 2] rfl ?_
  exact L2 _ 0 (Nat.lt_succ_self _) (by omega) rfl

set_option maxRecDepth 100000 in
set_option maxHeartbeats 4000000 in
theorem ct_M_hasAllValues (l : Launch) (D : va_G) (K : K5) (G : GT) (N P p : Nat) (hp0 : p < P) (hmm : MM G N) (hcm : CmOk G N P) (hva : ∀ s, s < N → 0 ≤ G 61 s ∧ G 61 s < (P : Int)) : Ct l D K y_M_hasAllValues c_M_hasAllValues 3 (some .boolean) 1 27 [.ref 50, vi ((p : Int))] G (some (vi (bZ (haS G p N)))) G := by
  refine Ct.intro (by decide +kernel) (Nat.le_of_ble_eq_true rfl) ?_
  intro X hro hty hC hE
  obtain ⟨hn, hN5, hsh, hac, hpa, hwe, hth, hch⟩ := id hmm
  have hP := hcm.1
  refine a_iconst (pc := 0) (c := 0) hC (by decide +kernel) ?_
  refine a_istore_n (pc := 1) (q := 2) (i := 2) (lv' := [(2, vi 0), (0, .ref 50), (1, vi ((p : Int)))]) hC (by decide +kernel) rfl (by decide) rfl ?_
  have L2 : ∀ (fuel : Nat) (s : Nat), N - s < fuel → s ≤ N → haS G p s = true → AW X 3 0 0 2 [(2, vi ((s : Int))), (0, .ref 50), (1, vi ((p : Int)))] [] (hp K G) := by
    intro fuel
    induction fuel with
    | zero => intro s h; exact absurd h (Nat.not_lt_zero _)
    | succ fuel ih2 =>
      intro s hm hs ha
      refine a_iload_n (pc := 2) (q := 2) (i := 2) (x := (s : Int)) hC (by decide +kernel) rfl 0 rfl ?_
      refine a_aload_n (pc := 3) (q := 0) (i := 0) (x := 50) hC (by decide +kernel) rfl 1 rfl ?_
      refine g_get (pc := 4) (idx := 72) (ci := 6) (v := vi (G 50 1)) hC 50 1 (by decide +kernel) rfl rfl rfl rfl wrM (by decide) rfl (by decide +kernel) ?_
      refine a_icmp_ge (pc := 7) (off := 26) hC 33 (by decide +kernel) (by decide) (by unfold inI; omega) (by unfold inI; omega) (fun c7 => ?_) (fun c7 => ?_)
      · skip
        refine a_iconst (pc := 33) (c := 1) hC (by decide +kernel) ?_
        exact g_zret (pc := 34) hC hE (by decide +kernel) (by omega) (by have hsN : s = N := (by omega); rw [hsN] at ha; rw [ha]; rfl) rfl
      · skip
        obtain ⟨v, hv, hvP⟩ : ∃ v : Nat, G 61 s = (v : Int) ∧ v < P := ⟨(G 61 s).toNat, by have := hva s (by omega); omega, by have := hva s (by omega); omega⟩
        have hvn : (G 61 s).toNat = v := by omega
        have hcu := cmU_in G s p v
        refine a_aload_n (pc := 10) (q := 0) (i := 0) (x := 50) hC (by decide +kernel) rfl 1 rfl ?_
        refine a_iload_n (pc := 11) (q := 2) (i := 2) (x := (s : Int)) hC (by decide +kernel) rfl 0 rfl ?_
        refine a_iload_n (pc := 12) (q := 1) (i := 1) (x := (p : Int)) hC (by decide +kernel) rfl 2 rfl ?_
        refine a_aload_n (pc := 13) (q := 0) (i := 0) (x := 50) hC (by decide +kernel) rfl 1 rfl ?_
        refine g_get (pc := 14) (idx := 53) (ci := 6) (v := .ref 61) hC 50 17 (by decide +kernel) rfl rfl rfl rfl wrM (by decide) rfl (by decide +kernel) ?_
        refine a_iload_n (pc := 17) (q := 2) (i := 2) (x := (s : Int)) hC (by decide +kernel) rfl 0 rfl ?_
        refine g_iald (pc := 18) (a := 61) (j := s) hC hty (by decide +kernel) rfl (by omega) (by first | decide | omega) ?_
        refine g_top (y := (v : Int)) hv ?_
        refine g_callV (pc := 19) (idx := 127) (i := 50) (av := [vi ((s : Int)), vi ((p : Int)), vi ((v : Int))]) (rest := []) (g := G) (v := vi (cmU G s p v)) hC hro hty (by decide +kernel) rfl rfl k_M_compare (by decide +kernel) (by decide +kernel) (by decide +kernel) (ct_M_compare X.la X.dd K G N P s p v (by omega) (by omega) (by omega) (by omega) hcm) rfl rfl (by decide) (by first | decide | simp [Value.category]) ?_
        refine a_if_eq (pc := 22) (off := 5) hC 27 (by decide +kernel) (by decide) (by unfold inI; omega) (fun c22 => ?_) (fun c22 => ?_)
        · skip
          refine a_iinc (pc := 27) (i := 2) (c := 1) (x := (s : Int)) (lv' := [(2, vi (((s : Int)) + 1)), (0, .ref 50), (1, vi ((p : Int)))]) hC (by decide +kernel) 0 rfl (by decide) rfl ?_
          refine a_goto (pc := 30) (off := -28) hC 2 (by decide +kernel) (by decide) ?_
          refine a_sub (lv' := [(2, vi (((s + 1) : Int))), (0, .ref 50), (1, vi ((p : Int)))]) [0, 1, 2] rfl ?_
          exact ih2 (s + 1) (by omega) (by omega) (by unfold haS; rw [ha, hvn]; simp; exact c22)
        · skip
          refine a_iconst (pc := 25) (c := 0) hC (by decide +kernel) ?_
          exact g_zret (pc := 26) hC hE (by decide +kernel) (by omega) (by
            have hx : haS G p N = false := by
              cases hh : haS G p N
              · rfl
              · have h7 := haS_down (t := s + 1) (by omega) hh
                unfold haS at h7; rw [ha, hvn] at h7; simp at h7
                exact absurd h7 c22
            rw [hx]; rfl) rfl
  refine a_sub (lv' := [(2, vi ((0 : Int))), (0, .ref 50), (1, vi ((p : Int)))]) [0, 1, 2] rfl ?_
  exact L2 _ 0 (Nat.lt_succ_self _) (by omega) rfl
