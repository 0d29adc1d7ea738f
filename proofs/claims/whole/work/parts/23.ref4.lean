/-! the reference: all plans -/
theorem MM.off {G G' : GT} {N : Nat} (h : MM G N) (e : ∀ b, b < 56 → G' b = G b) : MM G' N := h.keep (fun a ha => e a (by omega)) (fun k _ => by rw [e 50 (by omega)])
theorem ct_M_layWorth_any (l : Launch) (D : va_G) (K : K5) (G : GT) (N s : Nat) (a : Int) (hs : s < 5) (ha : a = -1 ∨ (0 ≤ a ∧ a < 3)) (hmm : MM G N) : Ct l D K y_M_layWorth c_M_layWorth 5 none 2 47 [.ref 50, vi (s : Int), vi a] G none (lwG G N s a) := by
  rcases ha with rfl | h
  · exact ct_M_layWorth_none l D K G N s hs hmm
  · obtain ⟨b, rfl⟩ : ∃ b : Nat, a = (b : Int) := ⟨a.toNat, by omega⟩
    exact ct_M_layWorth l D K G N s b hs (by omega) hmm
def plS (G : GT) : Nat → Int
  | 0 => 1
  | s + 1 => if G 52 s = 0 then plS G s else plS G s * G 52 s
theorem plS_in {G : GT} (h : ∀ s, s < 5 → 0 ≤ G 52 s ∧ G 52 s ≤ 3) : ∀ s, s ≤ 5 → 1 ≤ plS G s ∧ plS G s ≤ ((3 ^ s : Nat) : Int)
  | 0, _ => by unfold plS; simp
  | s + 1, hs => by
    have ih := plS_in h s (by omega)
    have h1 := h s (by omega)
    have e : ((3 ^ (s + 1) : Nat) : Int) = 3 * ((3 ^ s : Nat) : Int) := by rw [Nat.pow_succ, Nat.mul_comm]; simp
    unfold plS
    split
    · omega
    · rw [e]
      rcases (by omega : G 52 s = 1 ∨ G 52 s = 2 ∨ G 52 s = 3) with h2 | h2 | h2 <;> rw [h2] <;> omega
theorem plS_243 {G : GT} {N : Nat} (h : ∀ s, s < 5 → 0 ≤ G 52 s ∧ G 52 s ≤ 3) (hN : N ≤ 5) : 1 ≤ plS G N ∧ plS G N ≤ 243 := by
  have h1 := plS_in h N hN
  have : 3 ^ N ≤ 3 ^ 5 := Nat.pow_le_pow_right (by decide) hN
  have : (3 : Nat) ^ 5 = 243 := rfl
  omega
def pl0 (G : GT) (s : Nat) : GT := uG G 50 (up (G 50) 14 (plS G s))
theorem pl0_n {G : GT} {s b : Nat} (h : b ≠ 50) : pl0 G s b = G b := uG_n _ _ h
theorem pl0_k {G : GT} {s k : Nat} (h : k ≠ 14) : pl0 G s 50 k = G 50 k := by unfold pl0; rw [uG_s, up_n _ _ h]
theorem pl0_p (G : GT) (s : Nat) : pl0 G s 50 14 = plS G s := by unfold pl0; rw [uG_s, up_s]
theorem MM.pl0 {G : GT} {N s : Nat} (h : MM G N) : MM (pl0 G s) N := h.keep (fun a ha => pl0_n (by omega)) (fun k hk => pl0_k (by omega))
def lyW (G : GT) (p N : Nat) : Nat → GT
  | 0 => G
  | s + 1 => lwG (lyW G p N s) N s (actZ (lyW G p N s) p s)
theorem lwG_off {G : GT} {N s : Nat} {a : Int} {b : Nat} (h : b ≠ 56) (h2 : b ≠ 57) : lwG G N s a b = G b := by
  unfold lwG fixG
  split
  · rw [uG_n _ _ h2, uG_n _ _ h]
  · split
    · rw [uG_n _ _ h2, uG_n _ _ h]
    · rw [uG_n _ _ h2, uG_n _ _ h]
theorem lyW_off {G : GT} {p N b : Nat} (h : b ≠ 56) (h2 : b ≠ 57) : ∀ s, lyW G p N s b = G b
  | 0 => rfl
  | s + 1 => by show lwG _ _ _ _ b = _; rw [lwG_off h h2, lyW_off h h2 s]
theorem alG_off {G : GT} {pl : Int} {N b : Nat} (h : b ≠ 58) : alG G pl N b = G b := uG_n _ _ h
def lyD (G : GT) (p N : Nat) : GT := uG (alG (lyW G p N N) (-1) N) 60 (up (lyW G p N N 60) p (allZ (lyW G p N N) (-1) N))
def lyU (G : GT) (p N : Nat) : Nat → GT
  | 0 => lyD G p N
  | s + 1 => uG (alG (lyU G p N s) (s : Int) N) 59 (up (lyU G p N s 59) (5 * p + s) (allZ (lyU G p N s) (s : Int) N))
theorem lyU_off {G : GT} {p N b : Nat} (h : b < 56 ∨ 61 ≤ b) : ∀ s, lyU G p N s b = G b
  | 0 => by show lyD G p N b = _; unfold lyD; rw [uG_n _ _ (by omega), alG_off (by omega), lyW_off (by omega) (by omega)]
  | s + 1 => by show uG _ _ _ b = _; rw [uG_n _ _ (by omega), alG_off (by omega), lyU_off h s]
def lyP (G : GT) (N : Nat) : Nat → GT
  | 0 => G
  | p + 1 => lyU (lyP G N p) p N N
theorem lyP_off {G : GT} {N b : Nat} (h : b < 56 ∨ 61 ≤ b) : ∀ p, lyP G N p b = G b
  | 0 => rfl
  | p + 1 => by show lyU _ _ _ _ b = _; rw [lyU_off h, lyP_off h p]
def layP (G : GT) (N : Nat) : GT := lyP (pl0 G N) N (plS G N).toNat
theorem layP_off {G : GT} {N b : Nat} (h : (b < 56 ∨ 61 ≤ b) ∧ b ≠ 50) : layP G N b = G b := by unfold layP; rw [lyP_off h.1, pl0_n h.2]
theorem layP_50 (G : GT) (N : Nat) : layP G N 50 = pl0 G N 50 := by unfold layP; rw [lyP_off (by omega)]
theorem MM.lay {G : GT} {N : Nat} (h : MM G N) : MM (layP G N) N := (h.pl0 (s := N)).off (fun b hb => by unfold layP; rw [lyP_off (by omega)])
def cmU (G : GT) (s p q : Nat) : Int := cmpZ ((G 59 (5 * p + s)) * (G 60 q)) ((G 59 (5 * q + s)) * (G 60 p))
theorem cmU_in (G : GT) (s p q : Nat) : -1 ≤ cmU G s p q ∧ cmU G s p q ≤ 1 := by unfold cmU cmpZ; split; omega; split <;> omega
/-- the plans' numbers fit -/
def CmOk (G : GT) (N P : Nat) : Prop := P ≤ 243 ∧ ∀ s p q, s < N → p < P → q < P → inL ((G 59 (5 * p + s)) * (G 60 q))

set_option maxRecDepth 100000 in
set_option maxHeartbeats 4000000 in
theorem ct_M_layPlans (l : Launch) (D : va_G) (K : K5) (G : GT) (N : Nat) (hmm : MM G N) : Ct l D K y_M_layPlans c_M_layPlans 3 none 3 71 [.ref 50] G none (layP G N) := by
  refine Ct.intro (by decide +kernel) (Nat.le_of_ble_eq_true rfl) ?_
  intro X hro hty hC hE
  obtain ⟨hn, hN5, hsh, hac, hpa, hwe, hth, hch⟩ := id hmm
  have hP0 := plS_243 hac hN5
  obtain ⟨P, hP, hP243⟩ : ∃ P : Nat, plS G N = (P : Int) ∧ P ≤ 243 := ⟨(plS G N).toNat, by omega, by omega⟩
  refine a_aload_n (pc := 0) (q := 0) (i := 0) (x := 50) hC (by decide +kernel) rfl 0 rfl ?_
  refine a_iconst (pc := 1) (c := 1) hC (by decide +kernel) ?_
  refine g_put (pc := 2) (idx := 109) (ci := 6) (x := 1) hC 50 14 (by decide +kernel) rfl rfl (congrArg (fun z => vi z) (up_s _ _ _)) rfl wrM (by decide) rfl (by decide +kernel) rfl (ok_int _) ?_
  refine g_G (G' := pl0 G 0) rfl ?_
  refine a_iconst (pc := 5) (c := 0) hC (by decide +kernel) ?_
  refine a_istore_n (pc := 6) (q := 1) (i := 1) (lv' := [(1, vi 0), (0, .ref 50)]) hC (by decide +kernel) rfl (by decide) rfl ?_
  have L7 : ∀ (fuel : Nat) (s : Nat), N - s < fuel → s ≤ N → AW X 3 0 0 7 [(1, vi ((s : Int))), (0, .ref 50)] [] (hp K (pl0 G s)) := by
    intro fuel
    induction fuel with
    | zero => intro s h; exact absurd h (Nat.not_lt_zero _)
    | succ fuel ih7 =>
      intro s hm hs
      refine a_iload_n (pc := 7) (q := 1) (i := 1) (x := (s : Int)) hC (by decide +kernel) rfl 0 rfl ?_
      refine a_aload_n (pc := 8) (q := 0) (i := 0) (x := 50) hC (by decide +kernel) rfl 1 rfl ?_
      refine g_get (pc := 9) (idx := 72) (ci := 6) (v := vi ((pl0 G s) 50 1)) hC 50 1 (by decide +kernel) rfl rfl rfl rfl wrM (by decide) rfl (by decide +kernel) ?_
      refine g_top (y := (N : Int)) (by rw [pl0_k (by decide)]; exact hn) ?_
      refine a_icmp_ge (pc := 12) (off := 40) hC 52 (by decide +kernel) (by decide) (by unfold inI; omega) (by unfold inI; omega) (fun c12 => ?_) (fun c12 => ?_)
      · skip
        refine a_iconst (pc := 52) (c := 0) hC (by decide +kernel) ?_
        refine a_istore_n (pc := 53) (q := 1) (i := 1) (lv' := [(1, vi 0), (0, .ref 50)]) hC (by decide +kernel) rfl (by decide) rfl ?_
        have L54 : ∀ (fuel : Nat) (p : Nat), P - p < fuel → p ≤ P → AW X 3 0 0 54 [(1, vi ((p : Int))), (0, .ref 50)] [] (hp K (lyP (pl0 G N) N p)) := by
          intro fuel
          induction fuel with
          | zero => intro p h; exact absurd h (Nat.not_lt_zero _)
          | succ fuel ih54 =>
            intro p hm hp0
            refine a_iload_n (pc := 54) (q := 1) (i := 1) (x := (p : Int)) hC (by decide +kernel) rfl 0 rfl ?_
            refine a_aload_n (pc := 55) (q := 0) (i := 0) (x := 50) hC (by decide +kernel) rfl 1 rfl ?_
            refine g_get (pc := 56) (idx := 109) (ci := 6) (v := vi ((lyP (pl0 G N) N p) 50 14)) hC 50 14 (by decide +kernel) rfl rfl rfl rfl wrM (by decide) rfl (by decide +kernel) ?_
            refine g_top (y := (P : Int)) (by rw [lyP_off (by omega), pl0_p]; exact hP) ?_
            refine a_icmp_ge (pc := 59) (off := 78) hC 137 (by decide +kernel) (by decide) (by unfold inI; omega) (by unfold inI; omega) (fun c59 => ?_) (fun c59 => ?_)
            · skip
              exact g_vret (pc := 137) hC hE (by decide +kernel) (by rw [show p = P by omega]; unfold layP; rw [hP]; rfl)
            · skip
              have hmH : MM (lyP (pl0 G N) N p) N := (hmm.pl0 (s := N)).off (fun b hb => lyP_off (by omega) p)
              refine a_iconst (pc := 62) (c := 0) hC (by decide +kernel) ?_
              refine a_istore_n (pc := 63) (q := 2) (i := 2) (lv' := [(2, vi 0), (1, vi ((p : Int))), (0, .ref 50)]) hC (by decide +kernel) rfl (by decide) rfl ?_
              have L64 : ∀ (fuel : Nat) (s : Nat), N - s < fuel → s ≤ N → AW X 3 0 0 64 [(2, vi ((s : Int))), (1, vi ((p : Int))), (0, .ref 50)] [] (hp K (lyW (lyP (pl0 G N) N p) p N s)) := by
                intro fuel
                induction fuel with
                | zero => intro s h; exact absurd h (Nat.not_lt_zero _)
                | succ fuel ih64 =>
                  intro s hm hs
                  refine a_iload_n (pc := 64) (q := 2) (i := 2) (x := (s : Int)) hC (by decide +kernel) rfl 0 rfl ?_
                  refine a_aload_n (pc := 65) (q := 0) (i := 0) (x := 50) hC (by decide +kernel) rfl 2 rfl ?_
                  refine g_get (pc := 66) (idx := 72) (ci := 6) (v := vi ((lyW (lyP (pl0 G N) N p) p N s) 50 1)) hC 50 1 (by decide +kernel) rfl rfl rfl rfl wrM (by decide) rfl (by decide +kernel) ?_
                  refine g_top (y := (N : Int)) (by rw [lyW_off (by omega) (by omega), lyP_off (by omega), pl0_k (by decide)]; exact hn) ?_
                  refine a_icmp_ge (pc := 69) (off := 20) hC 89 (by decide +kernel) (by decide) (by unfold inI; omega) (by unfold inI; omega) (fun c69 => ?_) (fun c69 => ?_)
                  · skip
                    have hmN : MM (lyW (lyP (pl0 G N) N p) p N s) N := hmH.off (fun b hb => lyW_off (by omega) (by omega) s)
                    have hsN : s = N := by omega
                    refine a_aload_n (pc := 89) (q := 0) (i := 0) (x := 50) hC (by decide +kernel) rfl 2 rfl ?_
                    refine g_get (pc := 90) (idx := 50) (ci := 6) (v := .ref 60) hC 50 16 (by decide +kernel) rfl rfl rfl rfl wrM (by decide) rfl (by decide +kernel) ?_
                    refine a_iload_n (pc := 93) (q := 1) (i := 1) (x := (p : Int)) hC (by decide +kernel) rfl 1 rfl ?_
                    refine a_aload_n (pc := 94) (q := 0) (i := 0) (x := 50) hC (by decide +kernel) rfl 2 rfl ?_
                    refine a_iconst (pc := 95) (c := -1) hC (by decide +kernel) ?_
                    refine g_callV (pc := 96) (idx := 119) (i := 50) (av := [vi (-1)]) (rest := [vi ((p : Int)), .ref 60]) (g := alG (lyW (lyP (pl0 G N) N p) p N s) (-1) N) (v := vl (allZ (lyW (lyP (pl0 G N) N p) p N s) (-1) N)) hC hro hty (by decide +kernel) rfl rfl k_M_all (by decide +kernel) (by decide +kernel) (by decide +kernel) (ct_M_all X.la X.dd K (lyW (lyP (pl0 G N) N p) p N s) N (-1) (by omega) (by omega) hmN.1) rfl rfl (by decide) (by first | decide | simp [Value.category]) ?_
                    refine g_last (pc := 99) (a := 60) (j := p) (x := allZ (lyW (lyP (pl0 G N) N p) p N s) (-1) N) hC hty (by decide +kernel) rfl (by omega) (by first | decide | omega) ?_
                    refine a_iconst (pc := 100) (c := 0) hC (by decide +kernel) ?_
                    refine a_istore_n (pc := 101) (q := 2) (i := 2) (lv' := [(2, vi 0), (1, vi ((p : Int))), (0, .ref 50)]) hC (by decide +kernel) rfl (by decide) rfl ?_
                    have L102 : ∀ (fuel : Nat) (s : Nat), N - s < fuel → s ≤ N → AW X 3 0 0 102 [(2, vi ((s : Int))), (1, vi ((p : Int))), (0, .ref 50)] [] (hp K (lyU (lyP (pl0 G N) N p) p N s)) := by
                      intro fuel
                      induction fuel with
                      | zero => intro s h; exact absurd h (Nat.not_lt_zero _)
                      | succ fuel ih102 =>
                        intro s hm hs
                        refine a_iload_n (pc := 102) (q := 2) (i := 2) (x := (s : Int)) hC (by decide +kernel) rfl 0 rfl ?_
                        refine a_aload_n (pc := 103) (q := 0) (i := 0) (x := 50) hC (by decide +kernel) rfl 2 rfl ?_
                        refine g_get (pc := 104) (idx := 72) (ci := 6) (v := vi ((lyU (lyP (pl0 G N) N p) p N s) 50 1)) hC 50 1 (by decide +kernel) rfl rfl rfl rfl wrM (by decide) rfl (by decide +kernel) ?_
                        refine g_top (y := (N : Int)) (by rw [lyU_off (by omega), lyP_off (by omega), pl0_k (by decide)]; exact hn) ?_
                        refine a_icmp_ge (pc := 107) (off := 24) hC 131 (by decide +kernel) (by decide) (by unfold inI; omega) (by unfold inI; omega) (fun c107 => ?_) (fun c107 => ?_)
                        · skip
                          refine a_iinc (pc := 131) (i := 1) (c := 1) (x := (p : Int)) (lv' := [(1, vi (((p : Int)) + 1)), (2, vi ((s : Int))), (0, .ref 50)]) hC (by decide +kernel) 1 rfl (by decide) rfl ?_
                          refine a_goto (pc := 134) (off := -80) hC 54 (by decide +kernel) (by decide) ?_
                          refine a_sub (lv' := [(1, vi (((p + 1) : Int))), (0, .ref 50)]) [0, 2] rfl ?_
                          refine g_G (G' := lyP (pl0 G N) N (p + 1)) (by rw [show s = N by omega]; rfl) ?_
                          exact ih54 (p + 1) (by omega) (by omega)
                        · skip
                          have hmU : MM (lyU (lyP (pl0 G N) N p) p N s) N := hmH.off (fun b hb => lyU_off (by omega) s)
                          refine a_aload_n (pc := 110) (q := 0) (i := 0) (x := 50) hC (by decide +kernel) rfl 2 rfl ?_
                          refine g_get (pc := 111) (idx := 47) (ci := 6) (v := .ref 59) hC 50 15 (by decide +kernel) rfl rfl rfl rfl wrM (by decide) rfl (by decide +kernel) ?_
                          refine a_iconst (pc := 114) (c := 5) hC (by decide +kernel) ?_
                          refine a_iload_n (pc := 115) (q := 1) (i := 1) (x := (p : Int)) hC (by decide +kernel) rfl 1 rfl ?_
                          refine a_imul (pc := 116) hC (by decide +kernel) ?_
                          refine a_iload_n (pc := 117) (q := 2) (i := 2) (x := (s : Int)) hC (by decide +kernel) rfl 0 rfl ?_
                          refine a_iadd (pc := 118) hC (by decide +kernel) ?_
                          refine a_aload_n (pc := 119) (q := 0) (i := 0) (x := 50) hC (by decide +kernel) rfl 2 rfl ?_
                          refine a_iload_n (pc := 120) (q := 2) (i := 2) (x := (s : Int)) hC (by decide +kernel) rfl 0 rfl ?_
                          refine g_callV (pc := 121) (idx := 119) (i := 50) (av := [vi ((s : Int))]) (rest := [vi ((5 * ((p : Int))) + ((s : Int))), .ref 59]) (g := alG (lyU (lyP (pl0 G N) N p) p N s) ((s : Int)) N) (v := vl (allZ (lyU (lyP (pl0 G N) N p) p N s) ((s : Int)) N)) hC hro hty (by decide +kernel) rfl rfl k_M_all (by decide +kernel) (by decide +kernel) (by decide +kernel) (ct_M_all X.la X.dd K (lyU (lyP (pl0 G N) N p) p N s) N ((s : Int)) (by omega) (by omega) hmU.1) rfl rfl (by decide) (by first | decide | simp [Value.category]) ?_
                          refine g_snd (y := ((5 * p + s : Nat) : Int)) (by omega) ?_
                          refine g_last (pc := 124) (a := 59) (j := 5 * p + s) (x := allZ (lyU (lyP (pl0 G N) N p) p N s) ((s : Int)) N) hC hty (by decide +kernel) rfl (by omega) (by first | decide | omega) ?_
                          refine a_iinc (pc := 125) (i := 2) (c := 1) (x := (s : Int)) (lv' := [(2, vi (((s : Int)) + 1)), (1, vi ((p : Int))), (0, .ref 50)]) hC (by decide +kernel) 0 rfl (by decide) rfl ?_
                          refine a_goto (pc := 128) (off := -26) hC 102 (by decide +kernel) (by decide) ?_
                          refine a_sub (lv' := [(2, vi (((s + 1) : Int))), (1, vi ((p : Int))), (0, .ref 50)]) [0, 1, 2] rfl ?_
                          refine g_G (G' := lyU (lyP (pl0 G N) N p) p N (s + 1)) (by rw [alG_off (by decide)]; rfl) ?_
                          exact ih102 (s + 1) (by omega) (by omega)
                    refine a_sub (lv' := [(2, vi ((0 : Int))), (1, vi ((p : Int))), (0, .ref 50)]) [0, 1, 2] rfl ?_
                    refine g_G (G' := lyU (lyP (pl0 G N) N p) p N 0) (by rw [hsN, alG_off (by decide)]; rfl) ?_
                    exact L102 _ 0 (Nat.lt_succ_self _) (by omega)
                  · skip
                    have hmW : MM (lyW (lyP (pl0 G N) N p) p N s) N := hmH.off (fun b hb => lyW_off (by omega) (by omega) s)
                    have haz := actZ_in (p := p) hmW.2.2.2.1 (by omega : s < 5)
                    have ha5 := hmW.2.2.2.1 s (by omega)
                    refine a_aload_n (pc := 72) (q := 0) (i := 0) (x := 50) hC (by decide +kernel) rfl 2 rfl ?_
                    refine a_iload_n (pc := 73) (q := 2) (i := 2) (x := (s : Int)) hC (by decide +kernel) rfl 0 rfl ?_
                    refine a_aload_n (pc := 74) (q := 0) (i := 0) (x := 50) hC (by decide +kernel) rfl 2 rfl ?_
                    refine a_iload_n (pc := 75) (q := 1) (i := 1) (x := (p : Int)) hC (by decide +kernel) rfl 1 rfl ?_
                    refine a_iload_n (pc := 76) (q := 2) (i := 2) (x := (s : Int)) hC (by decide +kernel) rfl 0 rfl ?_
                    refine g_callV (pc := 77) (idx := 112) (i := 50) (av := [vi ((p : Int)), vi ((s : Int))]) (rest := [vi ((s : Int)), .ref 50]) (g := lyW (lyP (pl0 G N) N p) p N s) (v := vi (actZ (lyW (lyP (pl0 G N) N p) p N s) p s)) hC hro hty (by decide +kernel) rfl rfl k_M_actIn (by decide +kernel) (by decide +kernel) (by decide +kernel) (ct_M_actIn X.la X.dd K (lyW (lyP (pl0 G N) N p) p N s) p s (by omega) (by omega) hmW.2.2.2.1) rfl rfl (by decide) (by first | decide | simp [Value.category]) ?_
                    refine g_callV0 (pc := 80) (idx := 115) (i := 50) (av := [vi ((s : Int)), vi (actZ (lyW (lyP (pl0 G N) N p) p N s) p s)]) (rest := []) (g := lwG (lyW (lyP (pl0 G N) N p) p N s) N s (actZ (lyW (lyP (pl0 G N) N p) p N s) p s)) hC hro hty (by decide +kernel) rfl rfl k_M_layWorth (by decide +kernel) (by decide +kernel) (by decide +kernel) (ct_M_layWorth_any X.la X.dd K (lyW (lyP (pl0 G N) N p) p N s) N s (actZ (lyW (lyP (pl0 G N) N p) p N s) p s) (by omega) (by omega) hmW) rfl rfl (by decide) (by first | decide | simp [Value.category]) ?_
                    refine a_iinc (pc := 83) (i := 2) (c := 1) (x := (s : Int)) (lv' := [(2, vi (((s : Int)) + 1)), (1, vi ((p : Int))), (0, .ref 50)]) hC (by decide +kernel) 0 rfl (by decide) rfl ?_
                    refine a_goto (pc := 86) (off := -22) hC 64 (by decide +kernel) (by decide) ?_
                    refine a_sub (lv' := [(2, vi (((s + 1) : Int))), (1, vi ((p : Int))), (0, .ref 50)]) [0, 1, 2] rfl ?_
                    refine g_G (G' := lyW (lyP (pl0 G N) N p) p N (s + 1)) rfl ?_
                    exact ih64 (s + 1) (by omega) (by omega)
              refine a_sub (lv' := [(2, vi ((0 : Int))), (1, vi ((p : Int))), (0, .ref 50)]) [0, 1, 2] rfl ?_
              refine g_G (G' := lyW (lyP (pl0 G N) N p) p N 0) rfl ?_
              exact L64 _ 0 (Nat.lt_succ_self _) (by omega)
        refine a_sub (lv' := [(1, vi ((0 : Int))), (0, .ref 50)]) [0, 1] rfl ?_
        refine g_G (G' := lyP (pl0 G N) N 0) (by rw [show s = N by omega]; rfl) ?_
        exact L54 _ 0 (Nat.lt_succ_self _) (by omega)
      · skip
        have h3 := hac s (by omega)
        refine a_aload_n (pc := 15) (q := 0) (i := 0) (x := 50) hC (by decide +kernel) rfl 1 rfl ?_
        refine a_aload_n (pc := 16) (q := 0) (i := 0) (x := 50) hC (by decide +kernel) rfl 1 rfl ?_
        refine g_get (pc := 17) (idx := 13) (ci := 6) (v := .ref 52) hC 50 3 (by decide +kernel) rfl rfl rfl rfl wrM (by decide) rfl (by decide +kernel) ?_
        refine a_iload_n (pc := 20) (q := 1) (i := 1) (x := (s : Int)) hC (by decide +kernel) rfl 0 rfl ?_
        refine g_iald (pc := 21) (a := 52) (j := s) hC hty (by decide +kernel) rfl (by omega) (by first | decide | omega) ?_
        refine g_top (y := G 52 s) (by rw [pl0_n (by decide)]) ?_
        refine a_if_ne (pc := 22) (off := 10) hC 32 (by decide +kernel) (by decide) (by unfold inI; omega) (fun c22 => ?_) (fun c22 => ?_)
        · skip
          have hst : plS G s * G 52 s = plS G (s + 1) := by show _ = (if _ then _ else _); rw [if_neg c22]
          refine a_aload_n (pc := 32) (q := 0) (i := 0) (x := 50) hC (by decide +kernel) rfl 1 rfl ?_
          refine g_get (pc := 33) (idx := 109) (ci := 6) (v := vi ((pl0 G s) 50 14)) hC 50 14 (by decide +kernel) rfl rfl rfl rfl wrM (by decide) rfl (by decide +kernel) ?_
          refine g_top (y := plS G s) (pl0_p _ _) ?_
          refine a_aload_n (pc := 36) (q := 0) (i := 0) (x := 50) hC (by decide +kernel) rfl 1 rfl ?_
          refine g_get (pc := 37) (idx := 13) (ci := 6) (v := .ref 52) hC 50 3 (by decide +kernel) rfl rfl rfl rfl wrM (by decide) rfl (by decide +kernel) ?_
          refine a_iload_n (pc := 40) (q := 1) (i := 1) (x := (s : Int)) hC (by decide +kernel) rfl 0 rfl ?_
          refine g_iald (pc := 41) (a := 52) (j := s) hC hty (by decide +kernel) rfl (by omega) (by first | decide | omega) ?_
          refine g_top (y := G 52 s) (by rw [pl0_n (by decide)]) ?_
          refine a_imul (pc := 42) hC (by decide +kernel) ?_
          refine g_put (pc := 43) (idx := 109) (ci := 6) (x := (plS G s) * (G 52 s)) hC 50 14 (by decide +kernel) rfl rfl (congrArg (fun z => vi z) (up_s _ _ _)) rfl wrM (by decide) rfl (by decide +kernel) rfl (ok_int _) ?_
          refine a_iinc (pc := 46) (i := 1) (c := 1) (x := (s : Int)) (lv' := [(1, vi (((s : Int)) + 1)), (0, .ref 50)]) hC (by decide +kernel) 0 rfl (by decide) rfl ?_
          refine a_goto (pc := 49) (off := -42) hC 7 (by decide +kernel) (by decide) ?_
          refine a_sub (lv' := [(1, vi (((s + 1) : Int))), (0, .ref 50)]) [0, 1] rfl ?_
          refine g_G (G' := pl0 G (s + 1)) (by rw [hst]; unfold pl0; rw [uG_s, uG_uG, up_up]) ?_
          exact ih7 (s + 1) (by omega) (by omega)
        · skip
          have hst : plS G s = plS G (s + 1) := by show _ = (if _ then _ else _); rw [if_pos c22]
          refine a_aload_n (pc := 25) (q := 0) (i := 0) (x := 50) hC (by decide +kernel) rfl 1 rfl ?_
          refine g_get (pc := 26) (idx := 109) (ci := 6) (v := vi ((pl0 G s) 50 14)) hC 50 14 (by decide +kernel) rfl rfl rfl rfl wrM (by decide) rfl (by decide +kernel) ?_
          refine g_top (y := plS G s) (pl0_p _ _) ?_
          refine a_goto (pc := 29) (off := 14) hC 43 (by decide +kernel) (by decide) ?_
          refine g_put (pc := 43) (idx := 109) (ci := 6) (x := plS G s) hC 50 14 (by decide +kernel) rfl rfl (congrArg (fun z => vi z) (up_s _ _ _)) rfl wrM (by decide) rfl (by decide +kernel) rfl (ok_int _) ?_
          refine a_iinc (pc := 46) (i := 1) (c := 1) (x := (s : Int)) (lv' := [(1, vi (((s : Int)) + 1)), (0, .ref 50)]) hC (by decide +kernel) 0 rfl (by decide) rfl ?_
          refine a_goto (pc := 49) (off := -42) hC 7 (by decide +kernel) (by decide) ?_
          refine a_sub (lv' := [(1, vi (((s + 1) : Int))), (0, .ref 50)]) [0, 1] rfl ?_
          refine g_G (G' := pl0 G (s + 1)) (by rw [hst]; unfold pl0; rw [uG_s, uG_uG, up_up]) ?_
          exact ih7 (s + 1) (by omega) (by omega)
  refine a_sub (lv' := [(1, vi ((0 : Int))), (0, .ref 50)]) [0, 1] rfl ?_
  exact L7 _ 0 (Nat.lt_succ_self _) (by omega)

set_option maxRecDepth 100000 in
set_option maxHeartbeats 4000000 in
theorem ct_M_compare (l : Launch) (D : va_G) (K : K5) (G : GT) (N P s p q : Nat) (hN5 : N ≤ 5) (hs : s < N) (hp0 : p < P) (hq : q < P) (hcm : CmOk G N P) : Ct l D K y_M_compare c_M_compare 8 (some .int) 0 0 [.ref 50, vi ((s : Int)), vi ((p : Int)), vi ((q : Int))] G (some (vi (cmU G s p q))) G := by
  refine Ct.intro (by decide +kernel) (Nat.le_of_ble_eq_true rfl) ?_
  intro X hro hty hC hE
  have hP := hcm.1
  refine a_aload_n (pc := 0) (q := 0) (i := 0) (x := 50) hC (by decide +kernel) rfl 0 rfl ?_
  refine g_get (pc := 1) (idx := 47) (ci := 6) (v := .ref 59) hC 50 15 (by decide +kernel) rfl rfl rfl rfl wrM (by decide) rfl (by decide +kernel) ?_
  refine a_iconst (pc := 4) (c := 5) hC (by decide +kernel) ?_
  refine a_iload_n (pc := 5) (q := 2) (i := 2) (x := (p : Int)) hC (by decide +kernel) rfl 2 rfl ?_
  refine a_imul (pc := 6) hC (by decide +kernel) ?_
  refine a_iload_n (pc := 7) (q := 1) (i := 1) (x := (s : Int)) hC (by decide +kernel) rfl 1 rfl ?_
  refine a_iadd (pc := 8) hC (by decide +kernel) ?_
  refine g_top (y := ((5 * p + s : Nat) : Int)) (by omega) ?_
  refine g_lald (pc := 9) (a := 59) (j := 5 * p + s) hC hty (by decide +kernel) rfl (by omega) (by first | decide | omega) ?_
  refine a_aload_n (pc := 10) (q := 0) (i := 0) (x := 50) hC (by decide +kernel) rfl 0 rfl ?_
  refine g_get (pc := 11) (idx := 50) (ci := 6) (v := .ref 60) hC 50 16 (by decide +kernel) rfl rfl rfl rfl wrM (by decide) rfl (by decide +kernel) ?_
  refine a_iload_n (pc := 14) (q := 3) (i := 3) (x := (q : Int)) hC (by decide +kernel) rfl 3 rfl ?_
  refine g_lald (pc := 15) (a := 60) (j := q) hC hty (by decide +kernel) rfl (by omega) (by first | decide | omega) ?_
  refine a_lmul (pc := 16) hC (by decide +kernel) ?_
  refine a_lstore (pc := 17) (q := 0) (i := 4) (lv' := [(4, vl ((G 59 (5 * p + s)) * (G 60 q))), (0, .ref 50), (1, vi ((s : Int))), (2, vi ((p : Int))), (3, vi ((q : Int)))]) hC (by decide +kernel) (by decide) rfl ?_
  refine a_aload_n (pc := 19) (q := 0) (i := 0) (x := 50) hC (by decide +kernel) rfl 1 rfl ?_
  refine g_get (pc := 20) (idx := 47) (ci := 6) (v := .ref 59) hC 50 15 (by decide +kernel) rfl rfl rfl rfl wrM (by decide) rfl (by decide +kernel) ?_
  refine a_iconst (pc := 23) (c := 5) hC (by decide +kernel) ?_
  refine a_iload_n (pc := 24) (q := 3) (i := 3) (x := (q : Int)) hC (by decide +kernel) rfl 4 rfl ?_
  refine a_imul (pc := 25) hC (by decide +kernel) ?_
  refine a_iload_n (pc := 26) (q := 1) (i := 1) (x := (s : Int)) hC (by decide +kernel) rfl 2 rfl ?_
  refine a_iadd (pc := 27) hC (by decide +kernel) ?_
  refine g_top (y := ((5 * q + s : Nat) : Int)) (by omega) ?_
  refine g_lald (pc := 28) (a := 59) (j := 5 * q + s) hC hty (by decide +kernel) rfl (by omega) (by first | decide | omega) ?_
  refine a_aload_n (pc := 29) (q := 0) (i := 0) (x := 50) hC (by decide +kernel) rfl 1 rfl ?_
  refine g_get (pc := 30) (idx := 50) (ci := 6) (v := .ref 60) hC 50 16 (by decide +kernel) rfl rfl rfl rfl wrM (by decide) rfl (by decide +kernel) ?_
  refine a_iload_n (pc := 33) (q := 2) (i := 2) (x := (p : Int)) hC (by decide +kernel) rfl 3 rfl ?_
  refine g_lald (pc := 34) (a := 60) (j := p) hC hty (by decide +kernel) rfl (by omega) (by first | decide | omega) ?_
  refine a_lmul (pc := 35) hC (by decide +kernel) ?_
  refine a_lstore (pc := 36) (q := 0) (i := 6) (lv' := [(6, vl ((G 59 (5 * q + s)) * (G 60 p))), (4, vl ((G 59 (5 * p + s)) * (G 60 q))), (0, .ref 50), (1, vi ((s : Int))), (2, vi ((p : Int))), (3, vi ((q : Int)))]) hC (by decide +kernel) (by decide) rfl ?_
  refine a_lload (pc := 38) (i := 4) (x := (G 59 (5 * p + s)) * (G 60 q)) hC (by decide +kernel) 1 rfl ?_
  refine a_lload (pc := 40) (i := 6) (x := (G 59 (5 * q + s)) * (G 60 p)) hC (by decide +kernel) 0 rfl ?_
  refine a_lcmp (pc := 42) hC (by decide +kernel) (hcm.2 s p q hs hp0 hq) (hcm.2 s q p hs hq hp0) ?_
  refine a_if_ge (pc := 43) (off := 7) hC 50 (by decide +kernel) (by decide) (cmpZ_in _ _) (fun c43 => ?_) (fun c43 => ?_)
  · skip
    rw [cmpZ_ge] at c43
    refine a_lload (pc := 50) (i := 4) (x := (G 59 (5 * p + s)) * (G 60 q)) hC (by decide +kernel) 1 rfl ?_
    refine a_lload (pc := 52) (i := 6) (x := (G 59 (5 * q + s)) * (G 60 p)) hC (by decide +kernel) 0 rfl ?_
    refine a_lcmp (pc := 54) hC (by decide +kernel) (hcm.2 s p q hs hp0 hq) (hcm.2 s q p hs hq hp0) ?_
    refine a_if_le (pc := 55) (off := 7) hC 62 (by decide +kernel) (by decide) (cmpZ_in _ _) (fun c55 => ?_) (fun c55 => ?_)
    · skip
      rw [cmpZ_le] at c55
      refine a_iconst (pc := 62) (c := 0) hC (by decide +kernel) ?_
      exact g_iret (pc := 63) hC hE (by decide +kernel) (by unfold cmU cmpZ; first | (rw [if_neg (by omega), if_neg (by omega)]; done) | (rw [if_pos (by omega)]; done) | (rw [if_neg (by omega), if_pos (by omega)])) rfl
    · skip
      rw [cmpZ_le] at c55
      refine a_iconst (pc := 58) (c := 1) hC (by decide +kernel) ?_
      refine a_goto (pc := 59) (off := 4) hC 63 (by decide +kernel) (by decide) ?_
      exact g_iret (pc := 63) hC hE (by decide +kernel) (by unfold cmU cmpZ; first | (rw [if_neg (by omega), if_neg (by omega)]; done) | (rw [if_pos (by omega)]; done) | (rw [if_neg (by omega), if_pos (by omega)])) rfl
  · skip
    rw [cmpZ_ge] at c43
    refine a_iconst (pc := 46) (c := -1) hC (by decide +kernel) ?_
    refine a_goto (pc := 47) (off := 16) hC 63 (by decide +kernel) (by decide) ?_
    exact g_iret (pc := 63) hC hE (by decide +kernel) (by unfold cmU cmpZ; first | (rw [if_neg (by omega), if_neg (by omega)]; done) | (rw [if_pos (by omega)]; done) | (rw [if_neg (by omega), if_pos (by omega)])) rfl
