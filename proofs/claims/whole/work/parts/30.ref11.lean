/-! the reference: reach, rings -/
def rnT (G : GT) (s nx : Nat) : Nat → Nat
  | 0 => nx
  | t + 1 => if 0 < tWei G s t then orN (rnT G s nx t) t else rnT G s nx t
theorem orN_ge (m t : Nat) : m ≤ orN m t := Nat.left_le_or
theorem rnT_in {G : GT} {s nx : Nat} (h : nx < 32) : ∀ t, t ≤ 5 → nx ≤ rnT G s nx t ∧ rnT G s nx t < 32
  | 0, _ => ⟨Nat.le_refl _, h⟩
  | t + 1, ht => by
    have ih := rnT_in (G := G) (s := s) h t (by omega)
    unfold rnT
    split
    · exact ⟨Nat.le_trans ih.1 (orN_ge _ _), orN_lt ih.2 (by omega)⟩
    · exact ih
def rnS (G : GT) (N seen : Nat) : Nat → Nat
  | 0 => seen
  | s + 1 => if bt2 seen s = 1 then rnT G s (rnS G N seen s) N else rnS G N seen s
theorem rnS_in {G : GT} {N seen : Nat} (hN : N ≤ 5) (h : seen < 32) : ∀ s, seen ≤ rnS G N seen s ∧ rnS G N seen s < 32
  | 0 => ⟨Nat.le_refl _, h⟩
  | s + 1 => by
    have ih := rnS_in (G := G) hN h s
    unfold rnS
    split
    · have := rnT_in (G := G) (s := s) ih.2 N hN
      exact ⟨Nat.le_trans ih.1 this.1, this.2⟩
    · exact ih
def rchL (G : GT) (N : Nat) : Nat → Nat → Nat
  | 0, m => m
  | k + 1, m => if rnS G N m N = m then m else rchL G N k (rnS G N m N)
theorem rchL_st {G : GT} {N : Nat} (hN : N ≤ 5) : ∀ (k k' m : Nat), m < 32 → 32 - m ≤ k → 32 - m ≤ k' → rchL G N k m = rchL G N k' m
  | 0, k', m, hm, h, _ => by omega
  | k + 1, 0, m, hm, _, h => by omega
  | k + 1, k' + 1, m, hm, h1, h2 => by
    unfold rchL
    split
    · rfl
    · next hne =>
      have := rnS_in (G := G) hN hm N
      exact rchL_st hN k k' _ this.2 (by omega) (by omega)
theorem rchL_in {G : GT} {N : Nat} (hN : N ≤ 5) : ∀ (k m : Nat), m < 32 → rchL G N k m < 32
  | 0, m, h => h
  | k + 1, m, h => by
    unfold rchL
    split
    · exact h
    · exact rchL_in hN k _ (rnS_in hN h N).2
def rch (G : GT) (N f : Nat) : Nat := rchL G N 32 (pw f)
theorem pw_lt {f : Nat} (h : f < 5) : pw f < 32 := by
  rcases (by omega : f = 0 ∨ f = 1 ∨ f = 2 ∨ f = 3 ∨ f = 4) with rfl | rfl | rfl | rfl | rfl <;> decide
theorem rch_lt {G : GT} {N f : Nat} (hN : N ≤ 5) (hf : f < 5) : rch G N f < 32 := rchL_in hN 32 _ (pw_lt hf)
theorem tWei_in {G : GT} {N s t : Nat} (h : MM G N) (hs : s < 5) (ht : t < 5) : 0 ≤ tWei G s t ∧ tWei G s t ≤ 6 := by
  have h8 := h.2.2.2.2.2.2.2 s hs
  have := h.2.2.2.2.2.1 (wIx s (G 55 s).toNat t) (by unfold wIx; omega)
  unfold tWei
  split
  · omega
  · exact this
theorem tTot_in {G : GT} {N s : Nat} (h : MM G N) (hs : s < 5) : 0 ≤ tTot G s ∧ tTot G s ≤ 30 := by
  have h8 := h.2.2.2.2.2.2.2 s hs
  have := totZ_in (a := (G 55 s).toNat) h hs (by omega) 5 (by omega)
  unfold tTot
  split
  · omega
  · exact ⟨this.1, by have := this.2; omega⟩

set_option maxRecDepth 100000 in
set_option maxHeartbeats 4000000 in
theorem ct_M_reach (l : Launch) (D : va_G) (K : K5) (G : GT) (N f : Nat) (hf : f < 5) (hmm : MM G N) : Ct l D K y_M_reach c_M_reach 7 (some .int) 2 45 [.ref 50, vi ((f : Int))] G (some (vi (((rch G N f : Nat) : Int)))) G := by
  refine Ct.intro (by decide +kernel) (Nat.le_of_ble_eq_true rfl) ?_
  intro X hro hty hC hE
  obtain ⟨hn, hN5, hsh, hac, hpa, hwe, hth, hch⟩ := id hmm
  have hpf := pw_lt hf
  refine a_iconst (pc := 0) (c := 1) hC (by decide +kernel) ?_
  refine a_iload_n (pc := 1) (q := 1) (i := 1) (x := (f : Int)) hC (by decide +kernel) rfl 1 rfl ?_
  refine a_ishl (pc := 2) (z := ((pw f : Nat) : Int)) hC (by decide +kernel) (iZ_shl (by omega)) ?_
  refine a_istore_n (pc := 3) (q := 2) (i := 2) (lv' := [(2, vi (((pw f : Nat) : Int))), (0, .ref 50), (1, vi ((f : Int)))]) hC (by decide +kernel) rfl (by decide) rfl ?_
  refine a_iconst (pc := 4) (c := 1) hC (by decide +kernel) ?_
  refine a_istore_n (pc := 5) (q := 3) (i := 3) (lv' := [(3, vi 1), (2, vi (((pw f : Nat) : Int))), (0, .ref 50), (1, vi ((f : Int)))]) hC (by decide +kernel) rfl (by decide) rfl ?_
  have L6 : ∀ (fuel : Nat) (m : Nat) (g : Int), (32 - m) + g.toNat < fuel → m < 32 → (g = 0 ∨ g = 1) → (if g = 1 then rchL G N 32 m else m) = rch G N f → AW X 7 0 0 6 [(3, vi g), (2, vi ((m : Int))), (0, .ref 50), (1, vi ((f : Int)))] [] (hp K G) := by
    intro fuel
    induction fuel with
    | zero => intro m g h; exact absurd h (Nat.not_lt_zero _)
    | succ fuel ih6 =>
      intro m g hm hm32 hg01 hH
      refine a_iload_n (pc := 6) (q := 3) (i := 3) (x := g) hC (by decide +kernel) rfl 0 rfl ?_
      refine a_if_eq (pc := 7) (off := 95) hC 102 (by decide +kernel) (by decide) (by unfold inI; omega) (fun c7 => ?_) (fun c7 => ?_)
      · skip
        refine a_iload_n (pc := 102) (q := 2) (i := 2) (x := (m : Int)) hC (by decide +kernel) rfl 1 rfl ?_
        exact g_iret (pc := 103) hC hE (by decide +kernel) (by rw [← hH, if_neg (by omega)]) rfl
      · skip
        have hg1 : g = 1 := by omega
        have hg2 : g.toNat = 1 := by omega
        refine a_iload_n (pc := 10) (q := 2) (i := 2) (x := (m : Int)) hC (by decide +kernel) rfl 1 rfl ?_
        refine a_istore (pc := 11) (q := 0) (i := 4) (lv' := [(4, vi ((m : Int))), (3, vi g), (2, vi ((m : Int))), (0, .ref 50), (1, vi ((f : Int)))]) hC (by decide +kernel) (by decide) rfl ?_
        refine a_iconst (pc := 13) (c := 0) hC (by decide +kernel) ?_
        refine a_istore (pc := 14) (q := 0) (i := 5) (lv' := [(5, vi 0), (4, vi ((m : Int))), (3, vi g), (2, vi ((m : Int))), (0, .ref 50), (1, vi ((f : Int)))]) hC (by decide +kernel) (by decide) rfl ?_
        have L16 : ∀ (fuel : Nat) (s : Nat), N - s < fuel → s ≤ N → AW X 7 0 0 16 [(5, vi ((s : Int))), (4, vi ((((rnS G N m s) : Nat) : Int))), (3, vi g), (2, vi ((m : Int))), (0, .ref 50), (1, vi ((f : Int)))] [] (hp K G) := by
          intro fuel
          induction fuel with
          | zero => intro s h; exact absurd h (Nat.not_lt_zero _)
          | succ fuel ih16 =>
            intro s hm hs
            have hrs := rnS_in (G := G) hN5 hm32 s
            refine a_iload (pc := 16) (i := 5) (x := (s : Int)) hC (by decide +kernel) 0 rfl ?_
            refine a_aload_n (pc := 18) (q := 0) (i := 0) (x := 50) hC (by decide +kernel) rfl 4 rfl ?_
            refine g_get (pc := 19) (idx := 72) (ci := 6) (v := vi (G 50 1)) hC 50 1 (by decide +kernel) rfl rfl rfl rfl wrM (by decide) rfl (by decide +kernel) ?_
            refine a_icmp_ge (pc := 22) (off := 62) hC 84 (by decide +kernel) (by decide) (by unfold inI; omega) (by unfold inI; omega) (fun c22 => ?_) (fun c22 => ?_)
            · skip
              have hsN : s = N := by omega
              have hrN := rnS_in (G := G) hN5 hm32 N
              refine a_iload (pc := 84) (i := 4) (x := (((rnS G N m s) : Nat) : Int)) hC (by decide +kernel) 1 rfl ?_
              refine a_iload_n (pc := 86) (q := 2) (i := 2) (x := (m : Int)) hC (by decide +kernel) rfl 3 rfl ?_
              refine a_icmp_eq (pc := 87) (off := 7) hC 94 (by decide +kernel) (by decide) (by unfold inI; omega) (by unfold inI; omega) (fun c87 => ?_) (fun c87 => ?_)
              · skip
                have hnx : rnS G N m N = m := by have hz : ((rnS G N m s : Nat) : Int) = (m : Int) := c87; rw [hsN] at hz; omega
                have hfin : rchL G N 32 m = m := by show (if _ then _ else _) = _; rw [if_pos hnx]
                refine a_iconst (pc := 94) (c := 0) hC (by decide +kernel) ?_
                refine a_istore_n (pc := 95) (q := 3) (i := 3) (lv' := [(3, vi 0), (5, vi ((s : Int))), (4, vi ((((rnS G N m s) : Nat) : Int))), (2, vi ((m : Int))), (0, .ref 50), (1, vi ((f : Int)))]) hC (by decide +kernel) rfl (by decide) rfl ?_
                refine a_iload (pc := 96) (i := 4) (x := (((rnS G N m s) : Nat) : Int)) hC (by decide +kernel) 2 rfl ?_
                refine a_istore_n (pc := 98) (q := 2) (i := 2) (lv' := [(2, vi ((((rnS G N m s) : Nat) : Int))), (3, vi 0), (5, vi ((s : Int))), (4, vi ((((rnS G N m s) : Nat) : Int))), (0, .ref 50), (1, vi ((f : Int)))]) hC (by decide +kernel) rfl (by decide) rfl ?_
                refine a_goto (pc := 99) (off := -93) hC 6 (by decide +kernel) (by decide) ?_
                refine a_sub (lv' := [(3, vi 0), (2, vi (((rnS G N m N) : Int))), (0, .ref 50), (1, vi ((f : Int)))]) [1, 0, 4, 5] (by rw [hsN]; rfl) ?_
                exact ih6 (rnS G N m N) 0 (by have h1 : (1 : Int).toNat = 1 := rfl; have h0 : (0 : Int).toNat = 0 := rfl; omega) hrN.2 (Or.inl rfl) (by rw [if_neg (by decide), hnx, ← hH, if_pos hg1, hfin])
              · skip
                have hnx : ¬ rnS G N m N = m := by intro hz; apply c87; rw [hsN, hz]
                have hfin : rchL G N 32 m = rchL G N 32 (rnS G N m N) := by
                  have h1 : rchL G N 32 m = rchL G N 31 (rnS G N m N) := by show (if _ then _ else _) = _; rw [if_neg hnx]
                  rw [h1]; exact rchL_st hN5 31 32 _ hrN.2 (by omega) (by omega)
                refine a_iconst (pc := 90) (c := 1) hC (by decide +kernel) ?_
                refine a_goto (pc := 91) (off := 4) hC 95 (by decide +kernel) (by decide) ?_
                refine a_istore_n (pc := 95) (q := 3) (i := 3) (lv' := [(3, vi 1), (5, vi ((s : Int))), (4, vi ((((rnS G N m s) : Nat) : Int))), (2, vi ((m : Int))), (0, .ref 50), (1, vi ((f : Int)))]) hC (by decide +kernel) rfl (by decide) rfl ?_
                refine a_iload (pc := 96) (i := 4) (x := (((rnS G N m s) : Nat) : Int)) hC (by decide +kernel) 2 rfl ?_
                refine a_istore_n (pc := 98) (q := 2) (i := 2) (lv' := [(2, vi ((((rnS G N m s) : Nat) : Int))), (3, vi 1), (5, vi ((s : Int))), (4, vi ((((rnS G N m s) : Nat) : Int))), (0, .ref 50), (1, vi ((f : Int)))]) hC (by decide +kernel) rfl (by decide) rfl ?_
                refine a_goto (pc := 99) (off := -93) hC 6 (by decide +kernel) (by decide) ?_
                refine a_sub (lv' := [(3, vi 1), (2, vi (((rnS G N m N) : Int))), (0, .ref 50), (1, vi ((f : Int)))]) [1, 0, 4, 5] (by rw [hsN]; rfl) ?_
                exact ih6 (rnS G N m N) 1 (by have h1 : (1 : Int).toNat = 1 := rfl; omega) hrN.2 (Or.inr rfl) (by rw [if_pos rfl, ← hfin, ← hH, if_pos hg1])
            · skip
              refine a_iconst (pc := 25) (c := 0) hC (by decide +kernel) ?_
              refine a_istore (pc := 26) (q := 0) (i := 6) (lv' := [(6, vi 0), (5, vi ((s : Int))), (4, vi ((((rnS G N m s) : Nat) : Int))), (3, vi g), (2, vi ((m : Int))), (0, .ref 50), (1, vi ((f : Int)))]) hC (by decide +kernel) (by decide) rfl ?_
              have L28 : ∀ (fuel : Nat) (t : Nat), N - t < fuel → t ≤ N → (¬ bt2 m s = 1 → t = 0) → AW X 7 0 0 28 [(6, vi ((t : Int))), (5, vi ((s : Int))), (4, vi ((((rnT G s (rnS G N m s) t) : Nat) : Int))), (3, vi g), (2, vi ((m : Int))), (0, .ref 50), (1, vi ((f : Int)))] [] (hp K G) := by
                intro fuel
                induction fuel with
                | zero => intro t h; exact absurd h (Nat.not_lt_zero _)
                | succ fuel ih28 =>
                  intro t hm ht hbt
                  have hrt := rnT_in (G := G) (s := s) hrs.2 t (by omega)
                  have hsl := sr_lt (m := m) (k := s) (by omega)
                  have hb2 := bt2_in m s
                  refine a_iload (pc := 28) (i := 6) (x := (t : Int)) hC (by decide +kernel) 0 rfl ?_
                  refine a_aload_n (pc := 30) (q := 0) (i := 0) (x := 50) hC (by decide +kernel) rfl 5 rfl ?_
                  refine g_get (pc := 31) (idx := 72) (ci := 6) (v := vi (G 50 1)) hC 50 1 (by decide +kernel) rfl rfl rfl rfl wrM (by decide) rfl (by decide +kernel) ?_
                  refine a_icmp_ge (pc := 34) (off := 44) hC 78 (by decide +kernel) (by decide) (by unfold inI; omega) (by unfold inI; omega) (fun c34 => ?_) (fun c34 => ?_)
                  · skip
                    have hss : (rnT G s (rnS G N m s) t) = rnS G N m (s + 1) := by
                      show _ = (if _ then _ else _)
                      by_cases hb : bt2 m s = 1
                      · rw [if_pos hb, show t = N by omega]
                      · rw [if_neg hb, hbt hb]; rfl
                    refine a_iinc (pc := 78) (i := 5) (c := 1) (x := (s : Int)) (lv' := [(5, vi (((s : Int)) + 1)), (6, vi ((t : Int))), (4, vi ((((rnT G s (rnS G N m s) t) : Nat) : Int))), (3, vi g), (2, vi ((m : Int))), (0, .ref 50), (1, vi ((f : Int)))]) hC (by decide +kernel) 1 rfl (by decide) rfl ?_
                    refine a_goto (pc := 81) (off := -65) hC 16 (by decide +kernel) (by decide) ?_
                    refine a_sub (lv' := [(5, vi (((s + 1) : Int))), (4, vi ((((rnS G N m (s + 1)) : Nat) : Int))), (3, vi g), (2, vi ((m : Int))), (0, .ref 50), (1, vi ((f : Int)))]) [0, 2, 3, 4, 5, 6] (by rw [← hss]; rfl) ?_
                    exact ih16 (s + 1) (by omega) (by omega)
                  · skip
                    refine a_iload_n (pc := 37) (q := 2) (i := 2) (x := (m : Int)) hC (by decide +kernel) rfl 4 rfl ?_
                    refine a_iload (pc := 38) (i := 5) (x := (s : Int)) hC (by decide +kernel) 1 rfl ?_
                    refine a_ishr (pc := 40) (z := ((sr m s : Nat) : Int)) hC (by decide +kernel) (shr5 m (by omega) s (by omega)) ?_
                    refine a_iconst (pc := 41) (c := 1) hC (by decide +kernel) ?_
                    refine a_iand (pc := 42) (z := ((bt2 m s : Nat) : Int)) hC (by decide +kernel) (and1 _ hsl) ?_
                    refine a_iconst (pc := 43) (c := 1) hC (by decide +kernel) ?_
                    refine a_icmp_ne (pc := 44) (off := 34) hC 78 (by decide +kernel) (by decide) (by unfold inI; omega) (by unfold inI; omega) (fun c44 => ?_) (fun c44 => ?_)
                    · skip
                      have hss : (rnT G s (rnS G N m s) t) = rnS G N m (s + 1) := by
                        show _ = (if _ then _ else _); rw [if_neg (by omega), hbt (by omega)]; rfl
                      refine a_iinc (pc := 78) (i := 5) (c := 1) (x := (s : Int)) (lv' := [(5, vi (((s : Int)) + 1)), (6, vi ((t : Int))), (4, vi ((((rnT G s (rnS G N m s) t) : Nat) : Int))), (3, vi g), (2, vi ((m : Int))), (0, .ref 50), (1, vi ((f : Int)))]) hC (by decide +kernel) 1 rfl (by decide) rfl ?_
                      refine a_goto (pc := 81) (off := -65) hC 16 (by decide +kernel) (by decide) ?_
                      refine a_sub (lv' := [(5, vi (((s + 1) : Int))), (4, vi ((((rnS G N m (s + 1)) : Nat) : Int))), (3, vi g), (2, vi ((m : Int))), (0, .ref 50), (1, vi ((f : Int)))]) [0, 2, 3, 4, 5, 6] (by rw [← hss]; rfl) ?_
                      exact ih16 (s + 1) (by omega) (by omega)
                    · skip
                      have hw6 := tWei_in hmm (by omega : s < 5) (by omega : t < 5)
                      have hpt := pw_in (k := t) (by omega)
                      refine a_aload_n (pc := 47) (q := 0) (i := 0) (x := 50) hC (by decide +kernel) rfl 5 rfl ?_
                      refine a_iload (pc := 48) (i := 5) (x := (s : Int)) hC (by decide +kernel) 1 rfl ?_
                      refine a_iload (pc := 50) (i := 6) (x := (t : Int)) hC (by decide +kernel) 0 rfl ?_
                      refine g_callV (pc := 52) (idx := 179) (i := 50) (av := [vi ((s : Int)), vi ((t : Int))]) (rest := []) (g := G) (v := vi (tWei G s t)) hC hro hty (by decide +kernel) rfl rfl k_M_toldWeight (by decide +kernel) (by decide +kernel) (by decide +kernel) (ct_M_toldWeight X.la X.dd K G N s t (by omega) (by omega) hmm) rfl rfl (by decide) (by first | decide | simp [Value.category]) ?_
                      refine a_if_le (pc := 55) (off := 13) hC 68 (by decide +kernel) (by decide) (by unfold inI; omega) (fun c55 => ?_) (fun c55 => ?_)
                      · skip
                        have hst : (rnT G s (rnS G N m s) t) = rnT G s (rnS G N m s) (t + 1) := by show _ = (if _ then _ else _); rw [if_neg (by omega)]
                        refine a_iload (pc := 68) (i := 4) (x := (((rnT G s (rnS G N m s) t) : Nat) : Int)) hC (by decide +kernel) 2 rfl ?_
                        refine a_istore (pc := 70) (q := 0) (i := 4) (lv' := [(4, vi ((((rnT G s (rnS G N m s) t) : Nat) : Int))), (6, vi ((t : Int))), (5, vi ((s : Int))), (3, vi g), (2, vi ((m : Int))), (0, .ref 50), (1, vi ((f : Int)))]) hC (by decide +kernel) (by decide) rfl ?_
                        refine a_iinc (pc := 72) (i := 6) (c := 1) (x := (t : Int)) (lv' := [(6, vi (((t : Int)) + 1)), (4, vi ((((rnT G s (rnS G N m s) t) : Nat) : Int))), (5, vi ((s : Int))), (3, vi g), (2, vi ((m : Int))), (0, .ref 50), (1, vi ((f : Int)))]) hC (by decide +kernel) 1 rfl (by decide) rfl ?_
                        refine a_goto (pc := 75) (off := -47) hC 28 (by decide +kernel) (by decide) ?_
                        refine a_sub (lv' := [(6, vi (((t + 1) : Int))), (5, vi ((s : Int))), (4, vi ((((rnT G s (rnS G N m s) (t + 1)) : Nat) : Int))), (3, vi g), (2, vi ((m : Int))), (0, .ref 50), (1, vi ((f : Int)))]) [0, 2, 1, 3, 4, 5, 6] (by rw [← hst]; rfl) ?_
                        exact ih28 (t + 1) (by omega) (by omega) (fun z => absurd (by omega) z)
                      · skip
                        have hst : orN (rnT G s (rnS G N m s) t) t = rnT G s (rnS G N m s) (t + 1) := by show _ = (if _ then _ else _); rw [if_pos (by omega)]
                        refine a_iload (pc := 58) (i := 4) (x := (((rnT G s (rnS G N m s) t) : Nat) : Int)) hC (by decide +kernel) 2 rfl ?_
                        refine a_iconst (pc := 60) (c := 1) hC (by decide +kernel) ?_
                        refine a_iload (pc := 61) (i := 6) (x := (t : Int)) hC (by decide +kernel) 0 rfl ?_
                        refine a_ishl (pc := 63) (z := ((pw t : Nat) : Int)) hC (by decide +kernel) (iZ_shl (by omega)) ?_
                        refine a_ior (pc := 64) (z := ((orN (rnT G s (rnS G N m s) t) t : Nat) : Int)) hC (by decide +kernel) or_nat ?_
                        refine a_goto (pc := 65) (off := 5) hC 70 (by decide +kernel) (by decide) ?_
                        refine a_istore (pc := 70) (q := 0) (i := 4) (lv' := [(4, vi (((orN (rnT G s (rnS G N m s) t) t : Nat) : Int))), (6, vi ((t : Int))), (5, vi ((s : Int))), (3, vi g), (2, vi ((m : Int))), (0, .ref 50), (1, vi ((f : Int)))]) hC (by decide +kernel) (by decide) rfl ?_
                        refine a_iinc (pc := 72) (i := 6) (c := 1) (x := (t : Int)) (lv' := [(6, vi (((t : Int)) + 1)), (4, vi (((orN (rnT G s (rnS G N m s) t) t : Nat) : Int))), (5, vi ((s : Int))), (3, vi g), (2, vi ((m : Int))), (0, .ref 50), (1, vi ((f : Int)))]) hC (by decide +kernel) 1 rfl (by decide) rfl ?_
                        refine a_goto (pc := 75) (off := -47) hC 28 (by decide +kernel) (by decide) ?_
                        refine a_sub (lv' := [(6, vi (((t + 1) : Int))), (5, vi ((s : Int))), (4, vi ((((rnT G s (rnS G N m s) (t + 1)) : Nat) : Int))), (3, vi g), (2, vi ((m : Int))), (0, .ref 50), (1, vi ((f : Int)))]) [0, 2, 1, 3, 4, 5, 6] (by rw [← hst]; rfl) ?_
                        exact ih28 (t + 1) (by omega) (by omega) (fun z => absurd (by omega) z)
              refine a_sub (lv' := [(6, vi ((0 : Int))), (5, vi ((s : Int))), (4, vi ((((rnT G s (rnS G N m s) 0) : Nat) : Int))), (3, vi g), (2, vi ((m : Int))), (0, .ref 50), (1, vi ((f : Int)))]) [0, 1, 2, 3, 4, 5, 6] rfl ?_
              exact L28 _ 0 (Nat.lt_succ_self _) (by omega) (fun _ => rfl)
        refine a_sub (lv' := [(5, vi ((0 : Int))), (4, vi ((((rnS G N m 0) : Nat) : Int))), (3, vi g), (2, vi ((m : Int))), (0, .ref 50), (1, vi ((f : Int)))]) [0, 1, 2, 3, 4, 5] rfl ?_
        exact L16 _ 0 (Nat.lt_succ_self _) (by omega)
  refine a_sub (lv' := [(3, vi 1), (2, vi (((pw f) : Int))), (0, .ref 50), (1, vi ((f : Int)))]) [0, 1, 2, 3] rfl ?_
  exact L6 _ (pw f) 1 (Nat.lt_succ_self _) hpf (Or.inr rfl) (if_pos rfl)

def rgL (G : GT) (N s m : Nat) : Nat → Bool
  | 0 => true
  | t + 1 => rgL G N s m t && (decide (¬ bt2 m t = 1) || (decide (¬ tTot G t = 0) && decide (¬ bt2 (rch G N t) s = 0)))
theorem rgL_down {G : GT} {N s m : Nat} : ∀ {n t : Nat}, t ≤ n → rgL G N s m n = true → rgL G N s m t = true
  | 0, t, h, hc => by rw [show t = 0 by omega]; rfl
  | n + 1, t, h, hc => by
    by_cases e : t = n + 1
    · rw [e]; exact hc
    · have : rgL G N s m n = true := by unfold rgL at hc; simp at hc; exact hc.1
      exact rgL_down (by omega) this
def rng (G : GT) (N s : Nat) : Nat := if rgL G N s (rch G N s) N = true then rch G N s else 0
theorem rng_lt {G : GT} {N s : Nat} (hN : N ≤ 5) (hs : s < 5) : rng G N s < 32 := by
  unfold rng; split; exact rch_lt hN hs; decide
def wkX (G : GT) (s t : Nat) : Int := (if t = s then tTot G s else 0) - tWei G s t
def wkF (G : GT) (s t : Nat) : Nat → Int := fun j => if 5 * s ≤ j ∧ j < 5 * s + t then wkX G s (j - 5 * s) else G 56 j
theorem wkF_0 (G : GT) (s : Nat) : wkF G s 0 = G 56 := by funext j; exact if_neg (by omega)
theorem wkF_s (G : GT) (s t : Nat) : up (wkF G s t) (5 * s + t) (wkX G s t) = wkF G s (t + 1) := by
  funext j; unfold up wkF
  by_cases h : j = 5 * s + t
  · rw [if_pos h, if_pos (by omega), show j - 5 * s = t by omega]
  · rw [if_neg h]
    by_cases h2 : 5 * s ≤ j ∧ j < 5 * s + t
    · rw [if_pos h2, if_pos (by omega)]
    · rw [if_neg h2, if_neg (by omega)]
def lkS (G : GT) (N m : Nat) : Nat → GT
  | 0 => G
  | s + 1 => if bt2 m s = 1 then uG (uG (lkS G N m s) 56 (wkF (lkS G N m s) s N)) 57 (up (lkS G N m s 57) s 0) else fixG (lkS G N m s) N s 0
theorem lkS_off {G : GT} {N m b : Nat} (h : b ≠ 56) (h2 : b ≠ 57) : ∀ s, lkS G N m s b = G b
  | 0 => rfl
  | s + 1 => by
    unfold lkS
    split
    · rw [uG_n _ _ h2, uG_n _ _ h, lkS_off h h2 s]
    · unfold fixG; rw [uG_n _ _ h2, uG_n _ _ h, lkS_off h h2 s]
theorem tTot_congr {G G' : GT} (e : ∀ b, 52 ≤ b ∧ b ≤ 55 → G' b = G b) (s : Nat) : tTot G' s = tTot G s := by
  unfold tTot; rw [e 52 (by omega), e 55 (by omega), totZ_congr (e 54 (by omega))]
theorem tWei_congr {G G' : GT} (e : ∀ b, 52 ≤ b ∧ b ≤ 55 → G' b = G b) (s t : Nat) : tWei G' s t = tWei G s t := by
  unfold tWei; rw [e 52 (by omega), e 55 (by omega), e 54 (by omega)]

set_option maxRecDepth 100000 in
set_option maxHeartbeats 4000000 in
theorem ct_M_ring (l : Launch) (D : va_G) (K : K5) (G : GT) (N s : Nat) (hs : s < N) (hmm : MM G N) : Ct l D K y_M_ring c_M_ring 4 (some .int) 3 71 [.ref 50, vi ((s : Int))] G (some (vi (((rng G N s : Nat) : Int)))) G := by
  refine Ct.intro (by decide +kernel) (Nat.le_of_ble_eq_true rfl) ?_
  intro X hro hty hC hE
  obtain ⟨hn, hN5, hsh, hac, hpa, hwe, hth, hch⟩ := id hmm
  obtain ⟨m, hme⟩ : ∃ m : Nat, rch G N s = m := ⟨_, rfl⟩
  have hm32 : m < 32 := by rw [← hme]; exact rch_lt hN5 (by omega)
  refine a_aload_n (pc := 0) (q := 0) (i := 0) (x := 50) hC (by decide +kernel) rfl 0 rfl ?_
  refine a_iload_n (pc := 1) (q := 1) (i := 1) (x := (s : Int)) hC (by decide +kernel) rfl 1 rfl ?_
  refine g_callV (pc := 2) (idx := 182) (i := 50) (av := [vi ((s : Int))]) (rest := []) (g := G) (v := vi (((rch G N s : Nat) : Int))) hC hro hty (by decide +kernel) rfl rfl k_M_reach (by decide +kernel) (by decide +kernel) (by decide +kernel) (ct_M_reach X.la X.dd K G N s (by omega) hmm) rfl rfl (by decide) (by first | decide | simp [Value.category]) ?_
  refine g_top (y := (m : Int)) (by rw [hme]) ?_
  refine a_istore_n (pc := 5) (q := 2) (i := 2) (lv' := [(2, vi ((m : Int))), (0, .ref 50), (1, vi ((s : Int)))]) hC (by decide +kernel) rfl (by decide) rfl ?_
  refine a_iconst (pc := 6) (c := 0) hC (by decide +kernel) ?_
  refine a_istore_n (pc := 7) (q := 3) (i := 3) (lv' := [(3, vi 0), (2, vi ((m : Int))), (0, .ref 50), (1, vi ((s : Int)))]) hC (by decide +kernel) rfl (by decide) rfl ?_
  have L8 : ∀ (fuel : Nat) (t : Nat), N - t < fuel → t ≤ N → rgL G N s m t = true → AW X 4 0 0 8 [(3, vi ((t : Int))), (2, vi ((m : Int))), (0, .ref 50), (1, vi ((s : Int)))] [] (hp K G) := by
    intro fuel
    induction fuel with
    | zero => intro t h; exact absurd h (Nat.not_lt_zero _)
    | succ fuel ih8 =>
      intro t hm ht hrg
      refine a_iload_n (pc := 8) (q := 3) (i := 3) (x := (t : Int)) hC (by decide +kernel) rfl 0 rfl ?_
      refine a_aload_n (pc := 9) (q := 0) (i := 0) (x := 50) hC (by decide +kernel) rfl 2 rfl ?_
      refine g_get (pc := 10) (idx := 72) (ci := 6) (v := vi (G 50 1)) hC 50 1 (by decide +kernel) rfl rfl rfl rfl wrM (by decide) rfl (by decide +kernel) ?_
      refine a_icmp_ge (pc := 13) (off := 40) hC 53 (by decide +kernel) (by decide) (by unfold inI; omega) (by unfold inI; omega) (fun c13 => ?_) (fun c13 => ?_)
      · skip
        refine a_iload_n (pc := 53) (q := 2) (i := 2) (x := (m : Int)) hC (by decide +kernel) rfl 1 rfl ?_
        exact g_iret (pc := 54) hC hE (by decide +kernel) (by have htN : t = N := (by omega); rw [htN] at hrg; unfold rng; rw [hme, if_pos hrg]) rfl
      · skip
        have hsl := sr_lt (m := m) (k := t) (by omega)
        have hb2 := bt2_in m t
        have htt := tTot_in hmm (by omega : t < 5)
        have hr32 := rch_lt (G := G) (f := t) hN5 (by omega)
        have hsl2 := sr_lt (m := rch G N t) (k := s) (by omega)
        have hb3 := bt2_in (rch G N t) s
        refine a_iload_n (pc := 16) (q := 2) (i := 2) (x := (m : Int)) hC (by decide +kernel) rfl 1 rfl ?_
        refine a_iload_n (pc := 17) (q := 3) (i := 3) (x := (t : Int)) hC (by decide +kernel) rfl 0 rfl ?_
        refine a_ishr (pc := 18) (z := ((sr m t : Nat) : Int)) hC (by decide +kernel) (shr5 m (by omega) t (by omega)) ?_
        refine a_iconst (pc := 19) (c := 1) hC (by decide +kernel) ?_
        refine a_iand (pc := 20) (z := ((bt2 m t : Nat) : Int)) hC (by decide +kernel) (and1 _ hsl) ?_
        refine a_iconst (pc := 21) (c := 1) hC (by decide +kernel) ?_
        refine a_icmp_ne (pc := 22) (off := 25) hC 47 (by decide +kernel) (by decide) (by unfold inI; omega) (by unfold inI; omega) (fun c22 => ?_) (fun c22 => ?_)
        · skip
          refine a_iinc (pc := 47) (i := 3) (c := 1) (x := (t : Int)) (lv' := [(3, vi (((t : Int)) + 1)), (2, vi ((m : Int))), (0, .ref 50), (1, vi ((s : Int)))]) hC (by decide +kernel) 0 rfl (by decide) rfl ?_
          refine a_goto (pc := 50) (off := -42) hC 8 (by decide +kernel) (by decide) ?_
          refine a_sub (lv' := [(3, vi (((t + 1) : Int))), (2, vi ((m : Int))), (0, .ref 50), (1, vi ((s : Int)))]) [0, 1, 2, 3] rfl ?_
          exact ih8 (t + 1) (by omega) (by omega) (by unfold rgL; rw [hrg]; simp; omega)
        · skip
          refine a_aload_n (pc := 25) (q := 0) (i := 0) (x := 50) hC (by decide +kernel) rfl 2 rfl ?_
          refine a_iload_n (pc := 26) (q := 3) (i := 3) (x := (t : Int)) hC (by decide +kernel) rfl 0 rfl ?_
          refine g_callV (pc := 27) (idx := 185) (i := 50) (av := [vi ((t : Int))]) (rest := []) (g := G) (v := vi (tTot G t)) hC hro hty (by decide +kernel) rfl rfl k_M_toldTotal (by decide +kernel) (by decide +kernel) (by decide +kernel) (ct_M_toldTotal X.la X.dd K G N t (by omega) hmm) rfl rfl (by decide) (by first | decide | simp [Value.category]) ?_
          refine a_if_eq (pc := 30) (off := 15) hC 45 (by decide +kernel) (by decide) (by unfold inI; omega) (fun c30 => ?_) (fun c30 => ?_)
          · skip
            refine a_iconst (pc := 45) (c := 0) hC (by decide +kernel) ?_
            exact g_iret (pc := 46) hC hE (by decide +kernel) (by
              have hx : rgL G N s m N = false := by
                cases hh : rgL G N s m N
                · rfl
                · have h7 := rgL_down (t := t + 1) (by omega) hh
                  unfold rgL at h7; rw [hrg] at h7; simp at h7
                  omega
              unfold rng; rw [hme, hx]; rfl) rfl
          · skip
            refine a_aload_n (pc := 33) (q := 0) (i := 0) (x := 50) hC (by decide +kernel) rfl 2 rfl ?_
            refine a_iload_n (pc := 34) (q := 3) (i := 3) (x := (t : Int)) hC (by decide +kernel) rfl 0 rfl ?_
            refine g_callV (pc := 35) (idx := 182) (i := 50) (av := [vi ((t : Int))]) (rest := []) (g := G) (v := vi (((rch G N t : Nat) : Int))) hC hro hty (by decide +kernel) rfl rfl k_M_reach (by decide +kernel) (by decide +kernel) (by decide +kernel) (ct_M_reach X.la X.dd K G N t (by omega) hmm) rfl rfl (by decide) (by first | decide | simp [Value.category]) ?_
            refine a_iload_n (pc := 38) (q := 1) (i := 1) (x := (s : Int)) hC (by decide +kernel) rfl 3 rfl ?_
            refine a_ishr (pc := 39) (z := ((sr (rch G N t) s : Nat) : Int)) hC (by decide +kernel) (shr5 (rch G N t) (by omega) s (by omega)) ?_
            refine a_iconst (pc := 40) (c := 1) hC (by decide +kernel) ?_
            refine a_iand (pc := 41) (z := ((bt2 (rch G N t) s : Nat) : Int)) hC (by decide +kernel) (and1 _ hsl2) ?_
            refine a_if_ne (pc := 42) (off := 5) hC 47 (by decide +kernel) (by decide) (by unfold inI; omega) (fun c42 => ?_) (fun c42 => ?_)
            · skip
              refine a_iinc (pc := 47) (i := 3) (c := 1) (x := (t : Int)) (lv' := [(3, vi (((t : Int)) + 1)), (2, vi ((m : Int))), (0, .ref 50), (1, vi ((s : Int)))]) hC (by decide +kernel) 0 rfl (by decide) rfl ?_
              refine a_goto (pc := 50) (off := -42) hC 8 (by decide +kernel) (by decide) ?_
              refine a_sub (lv' := [(3, vi (((t + 1) : Int))), (2, vi ((m : Int))), (0, .ref 50), (1, vi ((s : Int)))]) [0, 1, 2, 3] rfl ?_
              exact ih8 (t + 1) (by omega) (by omega) (by unfold rgL; rw [hrg]; simp; omega)
            · skip
              refine a_iconst (pc := 45) (c := 0) hC (by decide +kernel) ?_
              exact g_iret (pc := 46) hC hE (by decide +kernel) (by
              have hx : rgL G N s m N = false := by
                cases hh : rgL G N s m N
                · rfl
                · have h7 := rgL_down (t := t + 1) (by omega) hh
                  unfold rgL at h7; rw [hrg] at h7; simp at h7
                  omega
              unfold rng; rw [hme, hx]; rfl) rfl
  refine a_sub (lv' := [(3, vi ((0 : Int))), (2, vi ((m : Int))), (0, .ref 50), (1, vi ((s : Int)))]) [0, 1, 2, 3] rfl ?_
  exact L8 _ 0 (Nat.lt_succ_self _) (by omega) rfl

set_option maxRecDepth 100000 in
set_option maxHeartbeats 4000000 in
theorem ct_M_layWalk (l : Launch) (D : va_G) (K : K5) (G : GT) (N m : Nat) (hm64 : m < 64) (hmm : MM G N) : Ct l D K y_M_layWalk c_M_layWalk 4 none 3 68 [.ref 50, vi ((m : Int))] G none (lkS G N m N) := by
  refine Ct.intro (by decide +kernel) (Nat.le_of_ble_eq_true rfl) ?_
  intro X hro hty hC hE
  obtain ⟨hn, hN5, hsh, hac, hpa, hwe, hth, hch⟩ := id hmm
  refine a_iconst (pc := 0) (c := 0) hC (by decide +kernel) ?_
  refine a_istore_n (pc := 1) (q := 2) (i := 2) (lv' := [(2, vi 0), (0, .ref 50), (1, vi ((m : Int)))]) hC (by decide +kernel) rfl (by decide) rfl ?_
  have L2 : ∀ (fuel : Nat) (s : Nat), N - s < fuel → s ≤ N → AW X 4 0 0 2 [(2, vi ((s : Int))), (0, .ref 50), (1, vi ((m : Int)))] [] (hp K (lkS G N m s)) := by
    intro fuel
    induction fuel with
    | zero => intro s h; exact absurd h (Nat.not_lt_zero _)
    | succ fuel ih2 =>
      intro s hm hs
      refine a_iload_n (pc := 2) (q := 2) (i := 2) (x := (s : Int)) hC (by decide +kernel) rfl 0 rfl ?_
      refine a_aload_n (pc := 3) (q := 0) (i := 0) (x := 50) hC (by decide +kernel) rfl 1 rfl ?_
      refine g_get (pc := 4) (idx := 72) (ci := 6) (v := vi ((lkS G N m s) 50 1)) hC 50 1 (by decide +kernel) rfl rfl rfl rfl wrM (by decide) rfl (by decide +kernel) ?_
      refine g_top (y := (N : Int)) (by rw [lkS_off (by decide) (by decide)]; exact hn) ?_
      refine a_icmp_ge (pc := 7) (off := 82) hC 89 (by decide +kernel) (by decide) (by unfold inI; omega) (by unfold inI; omega) (fun c7 => ?_) (fun c7 => ?_)
      · skip
        exact g_vret (pc := 89) hC hE (by decide +kernel) (by rw [show s = N by omega])
      · skip
        have hsl := sr_lt (m := m) (k := s) (by omega)
        have hb2 := bt2_in m s
        have hmL : MM (lkS G N m s) N := hmm.off (fun b hb => lkS_off (by omega) (by omega) s)
        refine a_iload_n (pc := 10) (q := 1) (i := 1) (x := (m : Int)) hC (by decide +kernel) rfl 2 rfl ?_
        refine a_iload_n (pc := 11) (q := 2) (i := 2) (x := (s : Int)) hC (by decide +kernel) rfl 0 rfl ?_
        refine a_ishr (pc := 12) (z := ((sr m s : Nat) : Int)) hC (by decide +kernel) (shr5 m (by omega) s (by omega)) ?_
        refine a_iconst (pc := 13) (c := 1) hC (by decide +kernel) ?_
        refine a_iand (pc := 14) (z := ((bt2 m s : Nat) : Int)) hC (by decide +kernel) (and1 _ hsl) ?_
        refine a_iconst (pc := 15) (c := 1) hC (by decide +kernel) ?_
        refine a_icmp_ne (pc := 16) (off := 61) hC 77 (by decide +kernel) (by decide) (by unfold inI; omega) (by unfold inI; omega) (fun c16 => ?_) (fun c16 => ?_)
        · skip
          have hst : fixG (lkS G N m s) N s 0 = lkS G N m (s + 1) := by show _ = (if _ then _ else _); rw [if_neg (by omega)]
          refine a_aload_n (pc := 77) (q := 0) (i := 0) (x := 50) hC (by decide +kernel) rfl 1 rfl ?_
          refine a_iload_n (pc := 78) (q := 2) (i := 2) (x := (s : Int)) hC (by decide +kernel) rfl 0 rfl ?_
          refine a_lconst (pc := 79) (c := 0) (z := 0) hC (by decide +kernel) rfl ?_
          refine g_callV0 (pc := 80) (idx := 105) (i := 50) (av := [vi ((s : Int)), vl 0]) (rest := []) (g := fixG (lkS G N m s) N s 0) hC hro hty (by decide +kernel) rfl rfl k_M_fix (by decide +kernel) (by decide +kernel) (by decide +kernel) (ct_M_fix X.la X.dd K (lkS G N m s) N s 0 (by omega) (by omega) hmL.1) rfl rfl (by decide) (by first | decide | simp [Value.category]) ?_
          refine a_iinc (pc := 83) (i := 2) (c := 1) (x := (s : Int)) (lv' := [(2, vi (((s : Int)) + 1)), (0, .ref 50), (1, vi ((m : Int)))]) hC (by decide +kernel) 0 rfl (by decide) rfl ?_
          refine a_goto (pc := 86) (off := -84) hC 2 (by decide +kernel) (by decide) ?_
          refine a_sub (lv' := [(2, vi (((s + 1) : Int))), (0, .ref 50), (1, vi ((m : Int)))]) [0, 1, 2] rfl ?_
          refine g_G (G' := lkS G N m (s + 1)) (by first | exact hst | (rw [show t = N by omega, uG_n (b := 57) _ _ (by decide)]; exact hst)) ?_
          exact ih2 (s + 1) (by omega) (by omega)
        · skip
          have hst : uG (uG (lkS G N m s) 56 (wkF (lkS G N m s) s N)) 57 (up ((lkS G N m s) 57) s 0) = lkS G N m (s + 1) := by show _ = (if _ then _ else _); rw [if_pos (by omega)]
          refine a_iconst (pc := 19) (c := 0) hC (by decide +kernel) ?_
          refine a_istore_n (pc := 20) (q := 3) (i := 3) (lv' := [(3, vi 0), (2, vi ((s : Int))), (0, .ref 50), (1, vi ((m : Int)))]) hC (by decide +kernel) rfl (by decide) rfl ?_
          have L21 : ∀ (fuel : Nat) (t : Nat), N - t < fuel → t ≤ N → AW X 4 0 0 21 [(3, vi ((t : Int))), (2, vi ((s : Int))), (0, .ref 50), (1, vi ((m : Int)))] [] (hp K (uG (lkS G N m s) 56 (wkF (lkS G N m s) s t))) := by
            intro fuel
            induction fuel with
            | zero => intro t h; exact absurd h (Nat.not_lt_zero _)
            | succ fuel ih21 =>
              intro t hm ht
              refine a_iload_n (pc := 21) (q := 3) (i := 3) (x := (t : Int)) hC (by decide +kernel) rfl 0 rfl ?_
              refine a_aload_n (pc := 22) (q := 0) (i := 0) (x := 50) hC (by decide +kernel) rfl 2 rfl ?_
              refine g_get (pc := 23) (idx := 72) (ci := 6) (v := vi ((uG (lkS G N m s) 56 (wkF (lkS G N m s) s t)) 50 1)) hC 50 1 (by decide +kernel) rfl rfl rfl rfl wrM (by decide) rfl (by decide +kernel) ?_
              refine g_top (y := (N : Int)) (by rw [uG_n _ _ (by decide)]; exact hmL.1) ?_
              refine a_icmp_ge (pc := 26) (off := 41) hC 67 (by decide +kernel) (by decide) (by unfold inI; omega) (by unfold inI; omega) (fun c26 => ?_) (fun c26 => ?_)
              · skip
                refine a_aload_n (pc := 67) (q := 0) (i := 0) (x := 50) hC (by decide +kernel) rfl 2 rfl ?_
                refine g_get (pc := 68) (idx := 41) (ci := 6) (v := .ref 57) hC 50 12 (by decide +kernel) rfl rfl rfl rfl wrM (by decide) rfl (by decide +kernel) ?_
                refine a_iload_n (pc := 71) (q := 2) (i := 2) (x := (s : Int)) hC (by decide +kernel) rfl 1 rfl ?_
                refine a_lconst (pc := 72) (c := 0) (z := 0) hC (by decide +kernel) rfl ?_
                refine g_last (pc := 73) (a := 57) (j := s) (x := 0) hC hty (by decide +kernel) rfl (by omega) (by first | decide | omega) ?_
                refine a_goto (pc := 74) (off := 9) hC 83 (by decide +kernel) (by decide) ?_
                refine a_iinc (pc := 83) (i := 2) (c := 1) (x := (s : Int)) (lv' := [(2, vi (((s : Int)) + 1)), (3, vi ((t : Int))), (0, .ref 50), (1, vi ((m : Int)))]) hC (by decide +kernel) 1 rfl (by decide) rfl ?_
                refine a_goto (pc := 86) (off := -84) hC 2 (by decide +kernel) (by decide) ?_
                refine a_sub (lv' := [(2, vi (((s + 1) : Int))), (0, .ref 50), (1, vi ((m : Int)))]) [0, 2, 3] rfl ?_
                refine g_G (G' := lkS G N m (s + 1)) (by first | exact hst | (rw [show t = N by omega, uG_n (b := 57) _ _ (by decide)]; exact hst)) ?_
                exact ih2 (s + 1) (by omega) (by omega)
              · skip
                have hcg : ∀ b, b < 56 → (uG (lkS G N m s) 56 (wkF (lkS G N m s) s t)) b = (lkS G N m s) b := fun b hb => uG_n _ _ (by omega)
                have hmW : MM (uG (lkS G N m s) 56 (wkF (lkS G N m s) s t)) N := hmL.off hcg
                have hw6 := tWei_in hmL (by omega : s < 5) (by omega : t < 5)
                have ht6 := tTot_in hmL (by omega : s < 5)
                refine a_aload_n (pc := 29) (q := 0) (i := 0) (x := 50) hC (by decide +kernel) rfl 2 rfl ?_
                refine g_get (pc := 30) (idx := 37) (ci := 6) (v := .ref 56) hC 50 11 (by decide +kernel) rfl rfl rfl rfl wrM (by decide) rfl (by decide +kernel) ?_
                refine a_iconst (pc := 33) (c := 5) hC (by decide +kernel) ?_
                refine a_iload_n (pc := 34) (q := 2) (i := 2) (x := (s : Int)) hC (by decide +kernel) rfl 1 rfl ?_
                refine a_imul (pc := 35) hC (by decide +kernel) ?_
                refine a_iload_n (pc := 36) (q := 3) (i := 3) (x := (t : Int)) hC (by decide +kernel) rfl 0 rfl ?_
                refine a_iadd (pc := 37) hC (by decide +kernel) ?_
                refine a_iload_n (pc := 38) (q := 3) (i := 3) (x := (t : Int)) hC (by decide +kernel) rfl 0 rfl ?_
                refine a_iload_n (pc := 39) (q := 2) (i := 2) (x := (s : Int)) hC (by decide +kernel) rfl 1 rfl ?_
                refine a_icmp_ne (pc := 40) (off := 11) hC 51 (by decide +kernel) (by decide) (by unfold inI; omega) (by unfold inI; omega) (fun c40 => ?_) (fun c40 => ?_)
                · skip
                  refine a_iconst (pc := 51) (c := 0) hC (by decide +kernel) ?_
                  refine a_aload_n (pc := 52) (q := 0) (i := 0) (x := 50) hC (by decide +kernel) rfl 2 rfl ?_
                  refine a_iload_n (pc := 53) (q := 2) (i := 2) (x := (s : Int)) hC (by decide +kernel) rfl 1 rfl ?_
                  refine a_iload_n (pc := 54) (q := 3) (i := 3) (x := (t : Int)) hC (by decide +kernel) rfl 0 rfl ?_
                  refine g_callV (pc := 55) (idx := 179) (i := 50) (av := [vi ((s : Int)), vi ((t : Int))]) (rest := [vi 0, vi ((5 * ((s : Int))) + ((t : Int))), .ref 56]) (g := uG (lkS G N m s) 56 (wkF (lkS G N m s) s t)) (v := vi (tWei (uG (lkS G N m s) 56 (wkF (lkS G N m s) s t)) s t)) hC hro hty (by decide +kernel) rfl rfl k_M_toldWeight (by decide +kernel) (by decide +kernel) (by decide +kernel) (ct_M_toldWeight X.la X.dd K (uG (lkS G N m s) 56 (wkF (lkS G N m s) s t)) N s t (by omega) (by omega) hmW) rfl rfl (by decide) (by first | decide | simp [Value.category]) ?_
                  refine g_top (y := tWei (lkS G N m s) s t) (tWei_congr (fun b hb => hcg b (by omega)) s t) ?_
                  refine a_isub (pc := 58) hC (by decide +kernel) ?_
                  refine g_top (y := wkX (lkS G N m s) s t) (by unfold wkX; first | rw [if_pos (by omega)] | rw [if_neg (by omega)]) ?_
                  refine a_i2l (pc := 59) hC (by decide +kernel) (by unfold inI wkX; split <;> omega) ?_
                  refine g_snd (y := ((5 * s + t : Nat) : Int)) (by omega) ?_
                  refine g_last (pc := 60) (a := 56) (j := 5 * s + t) (x := wkX (lkS G N m s) s t) hC hty (by decide +kernel) rfl (by omega) (by first | decide | omega) ?_
                  refine a_iinc (pc := 61) (i := 3) (c := 1) (x := (t : Int)) (lv' := [(3, vi (((t : Int)) + 1)), (2, vi ((s : Int))), (0, .ref 50), (1, vi ((m : Int)))]) hC (by decide +kernel) 0 rfl (by decide) rfl ?_
                  refine a_goto (pc := 64) (off := -43) hC 21 (by decide +kernel) (by decide) ?_
                  refine a_sub (lv' := [(3, vi (((t + 1) : Int))), (2, vi ((s : Int))), (0, .ref 50), (1, vi ((m : Int)))]) [0, 1, 2, 3] rfl ?_
                  refine g_G (G' := uG (lkS G N m s) 56 (wkF (lkS G N m s) s (t + 1))) (by rw [uG_s, uG_uG, wkF_s]) ?_
                  exact ih21 (t + 1) (by omega) (by omega)
                · skip
                  refine a_aload_n (pc := 43) (q := 0) (i := 0) (x := 50) hC (by decide +kernel) rfl 2 rfl ?_
                  refine a_iload_n (pc := 44) (q := 2) (i := 2) (x := (s : Int)) hC (by decide +kernel) rfl 1 rfl ?_
                  refine g_callV (pc := 45) (idx := 185) (i := 50) (av := [vi ((s : Int))]) (rest := [vi ((5 * ((s : Int))) + ((t : Int))), .ref 56]) (g := uG (lkS G N m s) 56 (wkF (lkS G N m s) s t)) (v := vi (tTot (uG (lkS G N m s) 56 (wkF (lkS G N m s) s t)) s)) hC hro hty (by decide +kernel) rfl rfl k_M_toldTotal (by decide +kernel) (by decide +kernel) (by decide +kernel) (ct_M_toldTotal X.la X.dd K (uG (lkS G N m s) 56 (wkF (lkS G N m s) s t)) N s (by omega) hmW) rfl rfl (by decide) (by first | decide | simp [Value.category]) ?_
                  refine g_top (y := tTot (lkS G N m s) s) (tTot_congr (fun b hb => hcg b (by omega)) s) ?_
                  refine a_goto (pc := 48) (off := 4) hC 52 (by decide +kernel) (by decide) ?_
                  refine a_aload_n (pc := 52) (q := 0) (i := 0) (x := 50) hC (by decide +kernel) rfl 2 rfl ?_
                  refine a_iload_n (pc := 53) (q := 2) (i := 2) (x := (s : Int)) hC (by decide +kernel) rfl 1 rfl ?_
                  refine a_iload_n (pc := 54) (q := 3) (i := 3) (x := (t : Int)) hC (by decide +kernel) rfl 0 rfl ?_
                  refine g_callV (pc := 55) (idx := 179) (i := 50) (av := [vi ((s : Int)), vi ((t : Int))]) (rest := [vi (tTot (lkS G N m s) s), vi ((5 * ((s : Int))) + ((t : Int))), .ref 56]) (g := uG (lkS G N m s) 56 (wkF (lkS G N m s) s t)) (v := vi (tWei (uG (lkS G N m s) 56 (wkF (lkS G N m s) s t)) s t)) hC hro hty (by decide +kernel) rfl rfl k_M_toldWeight (by decide +kernel) (by decide +kernel) (by decide +kernel) (ct_M_toldWeight X.la X.dd K (uG (lkS G N m s) 56 (wkF (lkS G N m s) s t)) N s t (by omega) (by omega) hmW) rfl rfl (by decide) (by first | decide | simp [Value.category]) ?_
                  refine g_top (y := tWei (lkS G N m s) s t) (tWei_congr (fun b hb => hcg b (by omega)) s t) ?_
                  refine a_isub (pc := 58) hC (by decide +kernel) ?_
                  refine g_top (y := wkX (lkS G N m s) s t) (by unfold wkX; first | rw [if_pos (by omega)] | rw [if_neg (by omega)]) ?_
                  refine a_i2l (pc := 59) hC (by decide +kernel) (by unfold inI wkX; split <;> omega) ?_
                  refine g_snd (y := ((5 * s + t : Nat) : Int)) (by omega) ?_
                  refine g_last (pc := 60) (a := 56) (j := 5 * s + t) (x := wkX (lkS G N m s) s t) hC hty (by decide +kernel) rfl (by omega) (by first | decide | omega) ?_
                  refine a_iinc (pc := 61) (i := 3) (c := 1) (x := (t : Int)) (lv' := [(3, vi (((t : Int)) + 1)), (2, vi ((s : Int))), (0, .ref 50), (1, vi ((m : Int)))]) hC (by decide +kernel) 0 rfl (by decide) rfl ?_
                  refine a_goto (pc := 64) (off := -43) hC 21 (by decide +kernel) (by decide) ?_
                  refine a_sub (lv' := [(3, vi (((t + 1) : Int))), (2, vi ((s : Int))), (0, .ref 50), (1, vi ((m : Int)))]) [0, 1, 2, 3] rfl ?_
                  refine g_G (G' := uG (lkS G N m s) 56 (wkF (lkS G N m s) s (t + 1))) (by rw [uG_s, uG_uG, wkF_s]) ?_
                  exact ih21 (t + 1) (by omega) (by omega)
          refine a_sub (lv' := [(3, vi ((0 : Int))), (2, vi ((s : Int))), (0, .ref 50), (1, vi ((m : Int)))]) [0, 1, 2, 3] rfl ?_
          refine g_G (G' := uG (lkS G N m s) 56 (wkF (lkS G N m s) s 0)) (by rw [wkF_0, uG_self]) ?_
          exact L21 _ 0 (Nat.lt_succ_self _) (by omega)
  refine a_sub (lv' := [(2, vi ((0 : Int))), (0, .ref 50), (1, vi ((m : Int)))]) [0, 1, 2] rfl ?_
  refine g_G (G' := lkS G N m 0) rfl ?_
  exact L2 _ 0 (Nat.lt_succ_self _) (by omega)
