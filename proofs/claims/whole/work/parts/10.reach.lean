/-! LongRun -/
def orZ (x y : Int) : Int := ((x.toNat ||| y.toNat : Nat) : Int)
def andZ (x y : Int) : Int := ((x.toNat &&& y.toNat : Nat) : Int)
theorem iZ_nat (a : Nat) : iZ (a : Int) = Int32.ofNat a := Int32.ofInt_eq_ofNat
theorem iZ_or {x y : Int} (hx : 0 ≤ x) (hy : 0 ≤ y) : iZ x ||| iZ y = iZ (orZ x y) := by
  obtain ⟨a, rfl⟩ : ∃ a : Nat, x = (a : Int) := ⟨x.toNat, by omega⟩
  obtain ⟨b, rfl⟩ : ∃ b : Nat, y = (b : Int) := ⟨y.toNat, by omega⟩
  unfold orZ
  rw [Int.toNat_natCast, Int.toNat_natCast, iZ_nat, iZ_nat, iZ_nat]
  apply Int32.toBitVec.inj
  show BitVec.ofNat 32 a ||| BitVec.ofNat 32 b = BitVec.ofNat 32 (a ||| b)
  apply BitVec.eq_of_getLsbD_eq
  intro i hi
  simp [BitVec.getLsbD_ofNat, Nat.testBit_or, hi]
theorem iZ_and {x y : Int} (hx : 0 ≤ x) (hy : 0 ≤ y) : iZ x &&& iZ y = iZ (andZ x y) := by
  obtain ⟨a, rfl⟩ : ∃ a : Nat, x = (a : Int) := ⟨x.toNat, by omega⟩
  obtain ⟨b, rfl⟩ : ∃ b : Nat, y = (b : Int) := ⟨y.toNat, by omega⟩
  unfold andZ
  rw [Int.toNat_natCast, Int.toNat_natCast, iZ_nat, iZ_nat, iZ_nat]
  apply Int32.toBitVec.inj
  show BitVec.ofNat 32 a &&& BitVec.ofNat 32 b = BitVec.ofNat 32 (a &&& b)
  apply BitVec.eq_of_getLsbD_eq
  intro i hi
  simp [BitVec.getLsbD_ofNat, Nat.testBit_and, hi]
def pw (k : Nat) : Nat := 2 ^ k
theorem iZ_shl {k : Nat} (h : k < 6) : iZ 1 <<< (iZ (k : Int) &&& 31) = iZ ((pw k : Nat) : Int) := by
  rcases (by omega : k = 0 ∨ k = 1 ∨ k = 2 ∨ k = 3 ∨ k = 4 ∨ k = 5) with rfl | rfl | rfl | rfl | rfl | rfl <;> decide
theorem pw_in {k : Nat} (h : k < 6) : pw k ≤ 32 := by
  rcases (by omega : k = 0 ∨ k = 1 ∨ k = 2 ∨ k = 3 ∨ k = 4 ∨ k = 5) with rfl | rfl | rfl | rfl | rfl | rfl <;> decide
theorem orZ_in {x y : Int} (hx : 0 ≤ x ∧ x ≤ 63) (hy : 0 ≤ y ∧ y ≤ 63) : 0 ≤ orZ x y ∧ orZ x y ≤ 63 := by
  unfold orZ
  have : x.toNat ||| y.toNat < 2 ^ 6 := Nat.or_lt_two_pow (by omega) (by omega)
  omega
theorem and_pw0 : ∀ a, a < 64 → ∀ t, t < 6 → (a &&& 2 ^ t = 0 ↔ a.testBit t = false) := by decide +kernel
theorem and_pw {a t : Nat} (ha : a ≤ 63) (ht : t < 6) : (a &&& pw t = 0 ↔ a.testBit t = false) ∧ a &&& pw t ≤ 63 :=
  ⟨and_pw0 a (by omega) t ht, Nat.le_trans Nat.and_le_left ha⟩
def tb (G : GT) (s t : Nat) : Bool := (G 42 s).toNat.testBit t
def bZ (b : Bool) : Int := if b then 1 else 0
theorem bZ_01 (b : Bool) : bZ b = 0 ∨ bZ b = 1 := by cases b; exact Or.inl rfl; exact Or.inr rfl
def RcOk (G : GT) (N : Nat) : Prop := ∀ s, s < N → 0 ≤ G 42 s ∧ G 42 s ≤ 63
theorem andZ_pw {x : Int} {t : Nat} (hx : 0 ≤ x ∧ x ≤ 63) (ht : t < 6) : (andZ x ((pw t : Nat) : Int) = 0 ↔ x.toNat.testBit t = false) ∧ inI (andZ x ((pw t : Nat) : Int)) := by
  unfold andZ inI
  rw [Int.toNat_natCast]
  have := and_pw (a := x.toNat) (t := t) (by omega) ht
  constructor
  · rw [← this.1]; omega
  · omega
def cirL (G : GT) (s : Nat) : Nat → Bool
  | 0 => true
  | t + 1 => cirL G s t && (!(tb G s t) || tb G t s)
def inCir (G : GT) (s n : Nat) : Bool := !(tb G s 5) && cirL G s n
theorem cirL_down {G : GT} {s : Nat} : ∀ {n t : Nat}, t ≤ n → cirL G s n = true → cirL G s t = true
  | 0, t, h, hc => by rw [show t = 0 by omega]; rfl
  | n + 1, t, h, hc => by
    by_cases e : t = n + 1
    · rw [e]; exact hc
    · have : cirL G s n = true := by unfold cirL at hc; simp at hc; exact hc.1
      exact cirL_down (by omega) this

set_option maxRecDepth 100000 in
set_option maxHeartbeats 4000000 in
theorem ct_L_reaches (l : Launch) (D : va_G) (K : K5) (G : GT) (N s t : Nat) (hs : s < N) (hN : N ≤ 5) (ht : t < 5) (hrc : RcOk G N) : Ct l D K y_L_reaches c_L_reaches 3 (some .boolean) 0 0 [.ref 32, vi ((s : Int)), vi ((t : Int))] G (some (vi (bZ (tb G s t)))) G := by
  refine Ct.intro (by decide +kernel) (Nat.le_of_ble_eq_true rfl) ?_
  intro X hro hty hC hE
  have h1 := hrc s hs
  have h2 := andZ_pw (t := t) h1 (by omega)
  refine a_aload_n (pc := 0) (q := 0) (i := 0) (x := 32) hC (by decide +kernel) rfl 0 rfl ?_
  refine g_get (pc := 1) (idx := 25) (ci := 1) (v := .ref 42) hC 32 2 (by decide +kernel) rfl rfl rfl rfl wrL (by decide) rfl (by decide +kernel) ?_
  refine a_iload_n (pc := 4) (q := 1) (i := 1) (x := (s : Int)) hC (by decide +kernel) rfl 1 rfl ?_
  refine g_iald (pc := 5) (a := 42) (j := s) hC hty (by decide +kernel) rfl (by omega) (by first | decide | omega) ?_
  refine a_iconst (pc := 6) (c := 1) hC (by decide +kernel) ?_
  refine a_iload_n (pc := 7) (q := 2) (i := 2) (x := (t : Int)) hC (by decide +kernel) rfl 2 rfl ?_
  refine a_ishl (pc := 8) (z := ((pw t : Nat) : Int)) hC (by decide +kernel) (iZ_shl (by omega)) ?_
  refine a_iand (pc := 9) (z := andZ (G 42 s) ((pw t : Nat) : Int)) hC (by decide +kernel) (iZ_and (by omega) (by omega)) ?_
  refine a_if_eq (pc := 10) (off := 7) hC 17 (by decide +kernel) (by decide) h2.2 (fun c10 => ?_) (fun c10 => ?_)
  · skip
    refine a_iconst (pc := 17) (c := 0) hC (by decide +kernel) ?_
    exact g_zret (pc := 18) hC hE (by decide +kernel) (by omega) (by unfold bZ tb; first | rw [if_neg (by rw [h2.1.mp c10]; decide)] | rw [if_pos (by cases hh : (G 42 s).toNat.testBit t; exact absurd (h2.1.mpr hh) c10; rfl)]) rfl
  · skip
    refine a_iconst (pc := 13) (c := 1) hC (by decide +kernel) ?_
    refine a_goto (pc := 14) (off := 4) hC 18 (by decide +kernel) (by decide) ?_
    exact g_zret (pc := 18) hC hE (by decide +kernel) (by omega) (by unfold bZ tb; first | rw [if_neg (by rw [h2.1.mp c10]; decide)] | rw [if_pos (by cases hh : (G 42 s).toNat.testBit t; exact absurd (h2.1.mpr hh) c10; rfl)]) rfl

set_option maxRecDepth 100000 in
set_option maxHeartbeats 4000000 in
theorem ct_L_isInCircle (l : Launch) (D : va_G) (K : K5) (G : GT) (N s : Nat) (hs : s < N) (hN : N ≤ 5) (hrc : RcOk G N) : Ct l D K y_L_isInCircle c_L_isInCircle 4 (some .boolean) 1 22 [.ref 32, vi ((s : Int)), vi ((N : Int))] G (some (vi (bZ (inCir G s N)))) G := by
  refine Ct.intro (by decide +kernel) (Nat.le_of_ble_eq_true rfl) ?_
  intro X hro hty hC hE
  have h1 := hrc s hs
  have h5 := andZ_pw (t := 5) h1 (by omega)
  refine a_aload_n (pc := 0) (q := 0) (i := 0) (x := 32) hC (by decide +kernel) rfl 0 rfl ?_
  refine g_get (pc := 1) (idx := 25) (ci := 1) (v := .ref 42) hC 32 2 (by decide +kernel) rfl rfl rfl rfl wrL (by decide) rfl (by decide +kernel) ?_
  refine a_iload_n (pc := 4) (q := 1) (i := 1) (x := (s : Int)) hC (by decide +kernel) rfl 1 rfl ?_
  refine g_iald (pc := 5) (a := 42) (j := s) hC hty (by decide +kernel) rfl (by omega) (by first | decide | omega) ?_
  refine a_bipush (pc := 6) (c := 32) hC (by decide +kernel) (by decide +kernel) ?_
  refine a_iand (pc := 8) (z := andZ (G 42 s) ((pw 5 : Nat) : Int)) hC (by decide +kernel) (iZ_and (y := 32) (by omega) (by omega)) ?_
  refine a_if_eq (pc := 9) (off := 5) hC 14 (by decide +kernel) (by decide) h5.2 (fun c9 => ?_) (fun c9 => ?_)
  · skip
    have hb5 : tb G s 5 = false := h5.1.mp c9
    refine a_iconst (pc := 14) (c := 0) hC (by decide +kernel) ?_
    refine a_istore_n (pc := 15) (q := 3) (i := 3) (lv' := [(3, vi 0), (0, .ref 32), (1, vi ((s : Int))), (2, vi ((N : Int)))]) hC (by decide +kernel) rfl (by decide) rfl ?_
    have L16 : ∀ (fuel : Nat) (t : Nat), N - t < fuel → t ≤ N → cirL G s t = true → AW X 4 0 0 16 [(3, vi ((t : Int))), (0, .ref 32), (1, vi ((s : Int))), (2, vi ((N : Int)))] [] (hp K G) := by
      intro fuel
      induction fuel with
      | zero => intro t h; exact absurd h (Nat.not_lt_zero _)
      | succ fuel ih16 =>
        intro t hm ht hcl
        refine a_iload_n (pc := 16) (q := 3) (i := 3) (x := (t : Int)) hC (by decide +kernel) rfl 0 rfl ?_
        refine a_iload_n (pc := 17) (q := 2) (i := 2) (x := (N : Int)) hC (by decide +kernel) rfl 3 rfl ?_
        refine a_icmp_ge (pc := 18) (off := 29) hC 47 (by decide +kernel) (by decide) (by unfold inI; omega) (by unfold inI; omega) (fun c18 => ?_) (fun c18 => ?_)
        · skip
          refine a_iconst (pc := 47) (c := 1) hC (by decide +kernel) ?_
          exact g_zret (pc := 48) hC hE (by decide +kernel) (by omega) (by unfold inCir; rw [hb5, ← show t = N by omega, hcl]; rfl) rfl
        · skip
          refine a_aload_n (pc := 21) (q := 0) (i := 0) (x := 32) hC (by decide +kernel) rfl 1 rfl ?_
          refine a_iload_n (pc := 22) (q := 1) (i := 1) (x := (s : Int)) hC (by decide +kernel) rfl 2 rfl ?_
          refine a_iload_n (pc := 23) (q := 3) (i := 3) (x := (t : Int)) hC (by decide +kernel) rfl 0 rfl ?_
          refine g_callV (pc := 24) (idx := 75) (i := 32) (av := [vi ((s : Int)), vi ((t : Int))]) (rest := []) (g := G) (v := vi (bZ (tb G s t))) hC hro hty (by decide +kernel) rfl rfl k_L_reaches (by decide +kernel) (by decide +kernel) (by decide +kernel) (ct_L_reaches X.la X.dd K G N s t (by omega) (by omega) (by omega) hrc) rfl rfl (by decide) (by first | decide | simp [Value.category]) ?_
          refine a_if_eq (pc := 27) (off := 14) hC 41 (by decide +kernel) (by decide) (by unfold inI; have := bZ_01 (tb G s t); omega) (fun c27 => ?_) (fun c27 => ?_)
          · skip
            have hb1 : tb G s t = false := by
              cases hh : tb G s t
              · rfl
              · rw [hh] at c27; exact absurd c27 (by decide)
            refine a_iinc (pc := 41) (i := 3) (c := 1) (x := (t : Int)) (lv' := [(3, vi (((t : Int)) + 1)), (0, .ref 32), (1, vi ((s : Int))), (2, vi ((N : Int)))]) hC (by decide +kernel) 0 rfl (by decide) rfl ?_
            refine a_goto (pc := 44) (off := -28) hC 16 (by decide +kernel) (by decide) ?_
            refine a_sub (lv' := [(3, vi (((t + 1) : Int))), (0, .ref 32), (1, vi ((s : Int))), (2, vi ((N : Int)))]) [0, 1, 2, 3] rfl ?_
            exact ih16 (t + 1) (by omega) (by omega) (by unfold cirL; rw [hcl, hb1]; first | rfl | (rw [hb2]; rfl))
          · skip
            have hb1 : tb G s t = true := by
              cases hh : tb G s t
              · rw [hh] at c27; exact absurd rfl c27
              · rfl
            refine a_aload_n (pc := 30) (q := 0) (i := 0) (x := 32) hC (by decide +kernel) rfl 1 rfl ?_
            refine a_iload_n (pc := 31) (q := 3) (i := 3) (x := (t : Int)) hC (by decide +kernel) rfl 0 rfl ?_
            refine a_iload_n (pc := 32) (q := 1) (i := 1) (x := (s : Int)) hC (by decide +kernel) rfl 2 rfl ?_
            refine g_callV (pc := 33) (idx := 75) (i := 32) (av := [vi ((t : Int)), vi ((s : Int))]) (rest := []) (g := G) (v := vi (bZ (tb G t s))) hC hro hty (by decide +kernel) rfl rfl k_L_reaches (by decide +kernel) (by decide +kernel) (by decide +kernel) (ct_L_reaches X.la X.dd K G N t s (by omega) (by omega) (by omega) hrc) rfl rfl (by decide) (by first | decide | simp [Value.category]) ?_
            refine a_if_ne (pc := 36) (off := 5) hC 41 (by decide +kernel) (by decide) (by unfold inI; have := bZ_01 (tb G t s); omega) (fun c36 => ?_) (fun c36 => ?_)
            · skip
              have hb2 : tb G t s = true := by
                cases hh : tb G t s
                · rw [hh] at c36; exact absurd rfl c36
                · rfl
              refine a_iinc (pc := 41) (i := 3) (c := 1) (x := (t : Int)) (lv' := [(3, vi (((t : Int)) + 1)), (0, .ref 32), (1, vi ((s : Int))), (2, vi ((N : Int)))]) hC (by decide +kernel) 0 rfl (by decide) rfl ?_
              refine a_goto (pc := 44) (off := -28) hC 16 (by decide +kernel) (by decide) ?_
              refine a_sub (lv' := [(3, vi (((t + 1) : Int))), (0, .ref 32), (1, vi ((s : Int))), (2, vi ((N : Int)))]) [0, 1, 2, 3] rfl ?_
              exact ih16 (t + 1) (by omega) (by omega) (by unfold cirL; rw [hcl, hb1]; first | rfl | (rw [hb2]; rfl))
            · skip
              have hb2 : tb G t s = false := by
                cases hh : tb G t s
                · rfl
                · rw [hh] at c36; exact absurd c36 (by decide)
              refine a_iconst (pc := 39) (c := 0) hC (by decide +kernel) ?_
              exact g_zret (pc := 40) hC hE (by decide +kernel) (by omega) (by
            have hx : cirL G s N = false := by
              cases hh : cirL G s N
              · rfl
              · have := cirL_down (t := t + 1) (by omega) hh
                unfold cirL at this; rw [hcl, hb1, hb2] at this; exact absurd this (by decide)
            unfold inCir; rw [hx]; cases tb G s 5 <;> rfl) rfl
    refine a_sub (lv' := [(3, vi ((0 : Int))), (0, .ref 32), (1, vi ((s : Int))), (2, vi ((N : Int)))]) [0, 1, 2, 3] rfl ?_
    exact L16 _ 0 (Nat.lt_succ_self _) (by omega) rfl
  · skip
    have hb5 : tb G s 5 = true := by
      cases hh : tb G s 5
      · exact absurd (h5.1.mpr hh) c9
      · rfl
    refine a_iconst (pc := 12) (c := 0) hC (by decide +kernel) ?_
    exact g_zret (pc := 13) hC hE (by decide +kernel) (by omega) (by unfold inCir; rw [hb5]; rfl) rfl

/-- the states that a state's act leads to, the end (bit 5) if none -/
def mkB (G : GT) (q : Nat) : Nat → Int
  | 0 => if G 5 q = 0 then 32 else 0
  | t + 1 => if 0 < G (7 + q) t then orZ (mkB G q t) ((pw t : Nat) : Int) else mkB G q t
theorem mkB_in (G : GT) (q : Nat) : ∀ t, t ≤ 5 → 0 ≤ mkB G q t ∧ mkB G q t ≤ 63
  | 0, _ => by unfold mkB; split <;> omega
  | t + 1, h => by
    unfold mkB
    have := pw_in (k := t) (by omega)
    split
    · exact orZ_in (mkB_in G q t (by omega)) (by omega)
    · exact mkB_in G q t (by omega)
def rc1 (G : GT) (pl N s : Nat) : Int := orZ (mkB G (slotN G pl s) N) ((pw s : Nat) : Int)
def rc1F (G : GT) (pl N i : Nat) : Nat → Int := fun s => if s < i then rc1 G pl N s else G 42 s
theorem rc1F_0 (G : GT) (pl N : Nat) : rc1F G pl N 0 = G 42 := by funext s; exact if_neg (by omega)
theorem rc1F_s (G : GT) (pl N i : Nat) : up (rc1F G pl N i) i (rc1 G pl N i) = rc1F G pl N (i + 1) := by
  funext j; unfold up rc1F
  by_cases h : j = i
  · subst h; rw [if_pos rfl, if_pos (by omega)]
  · rw [if_neg h]
    by_cases h2 : j < i
    · rw [if_pos h2, if_pos (by omega)]
    · rw [if_neg h2, if_neg (by omega)]
/-- Warshall's rounds -/
def wS (f : Nat → Int) (by_ : Nat) : Nat → Nat → Int
  | 0 => f
  | s + 1 => if (wS f by_ s s).toNat.testBit by_ then up (wS f by_ s) s (orZ (wS f by_ s s) (wS f by_ s by_)) else wS f by_ s
def wB (f : Nat → Int) (N : Nat) : Nat → Nat → Int
  | 0 => f
  | b + 1 => wS (wB f N b) b N
theorem wS_in {f : Nat → Int} {N b : Nat} (hb : b < N) (h : ∀ s, s < N → 0 ≤ f s ∧ f s ≤ 63) : ∀ i, i ≤ N → ∀ s, s < N → 0 ≤ wS f b i s ∧ wS f b i s ≤ 63
  | 0, _, s, hs => h s hs
  | i + 1, hi, s, hs => by
    unfold wS
    split
    · by_cases e : s = i
      · subst e; rw [up_s]; exact orZ_in (wS_in hb h s (by omega) s hs) (wS_in hb h s (by omega) b hb)
      · rw [up_n _ _ e]; exact wS_in hb h i (by omega) s hs
    · exact wS_in hb h i (by omega) s hs
theorem wB_in {f : Nat → Int} {N : Nat} (h : ∀ s, s < N → 0 ≤ f s ∧ f s ≤ 63) : ∀ b, b ≤ N → ∀ s, s < N → 0 ≤ wB f N b s ∧ wB f N b s ≤ 63
  | 0, _, s, hs => h s hs
  | b + 1, hb, s, hs => wS_in (by omega) (fun s hs => wB_in h b (by omega) s hs) N (Nat.le_refl _) s hs
theorem rc1F_in {G : GT} {pl N : Nat} (hN : N ≤ 5) : ∀ s, s < N → 0 ≤ rc1F G pl N N s ∧ rc1F G pl N N s ≤ 63 := by
  intro s hs
  unfold rc1F rc1
  rw [if_pos hs]
  have := pw_in (k := s) (by omega)
  exact orZ_in (mkB_in _ _ _ hN) (by omega)
def reaG (G : GT) (pl N : Nat) : GT := uG G 42 (wB (rc1F G pl N N) N N)

set_option maxRecDepth 100000 in
set_option maxHeartbeats 4000000 in
theorem ct_L_findReach (l : Launch) (D : va_G) (K : K5) (G : GT) (pl N : Nat) (hw : WW G N) (hpl : PlOk G pl N) : Ct l D K y_L_findReach c_L_findReach 7 none 1 22 [.ref 32, .ref 1, .ref pl] G none (reaG G pl N) := by
  refine Ct.intro (by decide +kernel) (Nat.le_of_ble_eq_true rfl) ?_
  intro X hro hty hC hE
  obtain ⟨hn, hN5, hsh, hac, hpa, hwe, hth⟩ := id hw
  have hplr := hpl.1
  refine a_iconst (pc := 0) (c := 0) hC (by decide +kernel) ?_
  refine a_istore_n (pc := 1) (q := 3) (i := 3) (lv' := [(3, vi 0), (0, .ref 32), (1, .ref 1), (2, .ref pl)]) hC (by decide +kernel) rfl (by decide) rfl ?_
  have L2 : ∀ (fuel : Nat) (s : Nat), N - s < fuel → s ≤ N → AW X 7 0 0 2 [(3, vi ((s : Int))), (0, .ref 32), (1, .ref 1), (2, .ref pl)] [] (hp K (uG G 42 (rc1F G pl N s))) := by
    intro fuel
    induction fuel with
    | zero => intro s h; exact absurd h (Nat.not_lt_zero _)
    | succ fuel ih2 =>
      intro s hm hs
      refine a_iload_n (pc := 2) (q := 3) (i := 3) (x := (s : Int)) hC (by decide +kernel) rfl 0 rfl ?_
      refine a_aload_n (pc := 3) (q := 1) (i := 1) (x := 1) hC (by decide +kernel) rfl 2 rfl ?_
      refine g_getN (pc := 4) (idx := 36) (ci := 4) (v := vi ((uG G 42 (rc1F G pl N s)) 1 0)) (host := "PlanValues") hC 1 0 (by decide +kernel) rfl rfl rfl rfl wrW (by decide) rfl (by decide +kernel) ?_
      refine g_top (y := (N : Int)) (by rw [uG_n _ _ (by omega)]; exact hn) ?_
      refine a_icmp_ge (pc := 7) (off := 88) hC 95 (by decide +kernel) (by decide) (by unfold inI; omega) (by unfold inI; omega) (fun c7 => ?_) (fun c7 => ?_)
      · skip
        refine a_iconst (pc := 95) (c := 0) hC (by decide +kernel) ?_
        refine a_istore_n (pc := 96) (q := 3) (i := 3) (lv' := [(3, vi 0), (0, .ref 32), (1, .ref 1), (2, .ref pl)]) hC (by decide +kernel) rfl (by decide) rfl ?_
        have L97 : ∀ (fuel : Nat) (b : Nat), N - b < fuel → b ≤ N → AW X 7 0 0 97 [(3, vi ((b : Int))), (0, .ref 32), (1, .ref 1), (2, .ref pl)] [] (hp K (uG G 42 (wB (rc1F G pl N N) N b))) := by
          intro fuel
          induction fuel with
          | zero => intro b h; exact absurd h (Nat.not_lt_zero _)
          | succ fuel ih97 =>
            intro b hm hb
            refine a_iload_n (pc := 97) (q := 3) (i := 3) (x := (b : Int)) hC (by decide +kernel) rfl 0 rfl ?_
            refine a_aload_n (pc := 98) (q := 1) (i := 1) (x := 1) hC (by decide +kernel) rfl 2 rfl ?_
            refine g_getN (pc := 99) (idx := 36) (ci := 4) (v := vi ((uG G 42 (wB (rc1F G pl N N) N b)) 1 0)) (host := "PlanValues") hC 1 0 (by decide +kernel) rfl rfl rfl rfl wrW (by decide) rfl (by decide +kernel) ?_
            refine g_top (y := (N : Int)) (by rw [uG_n _ _ (by omega)]; exact hn) ?_
            refine a_icmp_ge (pc := 102) (off := 53) hC 155 (by decide +kernel) (by decide) (by unfold inI; omega) (by unfold inI; omega) (fun c102 => ?_) (fun c102 => ?_)
            · skip
              exact g_vret (pc := 155) hC hE (by decide +kernel) (by rw [show b = N by omega]; rfl)
            · skip
              refine a_iconst (pc := 105) (c := 0) hC (by decide +kernel) ?_
              refine a_istore (pc := 106) (q := 0) (i := 4) (lv' := [(4, vi 0), (3, vi ((b : Int))), (0, .ref 32), (1, .ref 1), (2, .ref pl)]) hC (by decide +kernel) (by decide) rfl ?_
              have L108 : ∀ (fuel : Nat) (a : Nat), N - a < fuel → a ≤ N → AW X 7 0 0 108 [(4, vi ((a : Int))), (3, vi ((b : Int))), (0, .ref 32), (1, .ref 1), (2, .ref pl)] [] (hp K (uG G 42 (wS (wB (rc1F G pl N N) N b) b a))) := by
                intro fuel
                induction fuel with
                | zero => intro a h; exact absurd h (Nat.not_lt_zero _)
                | succ fuel ih108 =>
                  intro a hm ha
                  refine a_iload (pc := 108) (i := 4) (x := (a : Int)) hC (by decide +kernel) 0 rfl ?_
                  refine a_aload_n (pc := 110) (q := 1) (i := 1) (x := 1) hC (by decide +kernel) rfl 3 rfl ?_
                  refine g_getN (pc := 111) (idx := 36) (ci := 4) (v := vi ((uG G 42 (wS (wB (rc1F G pl N N) N b) b a)) 1 0)) (host := "PlanValues") hC 1 0 (by decide +kernel) rfl rfl rfl rfl wrW (by decide) rfl (by decide +kernel) ?_
                  refine g_top (y := (N : Int)) (by rw [uG_n _ _ (by omega)]; exact hn) ?_
                  refine a_icmp_ge (pc := 114) (off := 35) hC 149 (by decide +kernel) (by decide) (by unfold inI; omega) (by unfold inI; omega) (fun c114 => ?_) (fun c114 => ?_)
                  · skip
                    refine a_iinc (pc := 149) (i := 3) (c := 1) (x := (b : Int)) (lv' := [(3, vi (((b : Int)) + 1)), (4, vi ((a : Int))), (0, .ref 32), (1, .ref 1), (2, .ref pl)]) hC (by decide +kernel) 1 rfl (by decide) rfl ?_
                    refine a_goto (pc := 152) (off := -55) hC 97 (by decide +kernel) (by decide) ?_
                    refine a_sub (lv' := [(3, vi (((b + 1) : Int))), (0, .ref 32), (1, .ref 1), (2, .ref pl)]) [0, 2, 3, 4] rfl ?_
                    refine g_G (G' := uG G 42 (wB (rc1F G pl N N) N (b + 1))) (by rw [show a = N by omega]; rfl) ?_
                    exact ih97 (b + 1) (by omega) (by omega)
                  · skip
                    have hwi := wS_in (by omega : b < N) (fun z hz => wB_in (rc1F_in (G := G) (pl := pl) hN5) b (by omega) z hz) a (by omega)
                    have hwa := hwi a (by omega)
                    have hwb := hwi b (by omega)
                    refine a_aload_n (pc := 117) (q := 0) (i := 0) (x := 32) hC (by decide +kernel) rfl 2 rfl ?_
                    refine a_iload (pc := 118) (i := 4) (x := (a : Int)) hC (by decide +kernel) 0 rfl ?_
                    refine a_iload_n (pc := 120) (q := 3) (i := 3) (x := (b : Int)) hC (by decide +kernel) rfl 1 rfl ?_
                    refine g_callV (pc := 121) (idx := 75) (i := 32) (av := [vi ((a : Int)), vi ((b : Int))]) (rest := []) (g := uG G 42 (wS (wB (rc1F G pl N N) N b) b a)) (v := vi (bZ (tb (uG G 42 (wS (wB (rc1F G pl N N) N b) b a)) a b))) hC hro hty (by decide +kernel) rfl rfl k_L_reaches (by decide +kernel) (by decide +kernel) (by decide +kernel) (ct_L_reaches X.la X.dd K (uG G 42 (wS (wB (rc1F G pl N N) N b) b a)) N a b (by omega) (by omega) (by omega) (fun z hz => by rw [uG_s]; exact hwi z hz)) rfl rfl (by decide) (by first | decide | simp [Value.category]) ?_
                    refine a_if_eq (pc := 124) (off := 19) hC 143 (by decide +kernel) (by decide) (by unfold inI; have := bZ_01 (tb (uG G 42 (wS (wB (rc1F G pl N N) N b) b a)) a b); omega) (fun c124 => ?_) (fun c124 => ?_)
                    · skip
                      have htb : (wS (wB (rc1F G pl N N) N b) b a a).toNat.testBit b = false := by
                        cases hh : (wS (wB (rc1F G pl N N) N b) b a a).toNat.testBit b
                        · rfl
                        · unfold tb bZ at c124; rw [uG_s, hh] at c124; exact absurd c124 (by decide)
                      have hws : wS (wB (rc1F G pl N N) N b) b a = wS (wB (rc1F G pl N N) N b) b (a + 1) := by show _ = (if _ then _ else _); rw [if_neg (by rw [htb]; decide)]
                      refine a_iinc (pc := 143) (i := 4) (c := 1) (x := (a : Int)) (lv' := [(4, vi (((a : Int)) + 1)), (3, vi ((b : Int))), (0, .ref 32), (1, .ref 1), (2, .ref pl)]) hC (by decide +kernel) 0 rfl (by decide) rfl ?_
                      refine a_goto (pc := 146) (off := -38) hC 108 (by decide +kernel) (by decide) ?_
                      refine a_sub (lv' := [(4, vi (((a + 1) : Int))), (3, vi ((b : Int))), (0, .ref 32), (1, .ref 1), (2, .ref pl)]) [0, 1, 2, 3, 4] rfl ?_
                      refine g_G (G' := uG G 42 (wS (wB (rc1F G pl N N) N b) b (a + 1))) (by first | (rw [← hws]; done) | (rw [← hws, uG_s, uG_uG])) ?_
                      exact ih108 (a + 1) (by omega) (by omega)
                    · skip
                      have htb : (wS (wB (rc1F G pl N N) N b) b a a).toNat.testBit b = true := by
                        cases hh : (wS (wB (rc1F G pl N N) N b) b a a).toNat.testBit b
                        · unfold tb bZ at c124; rw [uG_s, hh] at c124; exact absurd rfl c124
                        · rfl
                      have hws : up (wS (wB (rc1F G pl N N) N b) b a) a (orZ (wS (wB (rc1F G pl N N) N b) b a a) (wS (wB (rc1F G pl N N) N b) b a b)) = wS (wB (rc1F G pl N N) N b) b (a + 1) := by show _ = (if _ then _ else _); rw [if_pos htb]
                      refine a_aload_n (pc := 127) (q := 0) (i := 0) (x := 32) hC (by decide +kernel) rfl 2 rfl ?_
                      refine g_get (pc := 128) (idx := 25) (ci := 1) (v := .ref 42) hC 32 2 (by decide +kernel) rfl rfl rfl rfl wrL (by decide) rfl (by decide +kernel) ?_
                      refine a_iload (pc := 131) (i := 4) (x := (a : Int)) hC (by decide +kernel) 0 rfl ?_
                      refine a_dup2 (pc := 133) hC (by decide +kernel) rfl rfl ?_
                      refine g_iald (pc := 134) (a := 42) (j := a) hC hty (by decide +kernel) rfl (by omega) (by first | decide | omega) ?_
                      refine g_top (y := wS (wB (rc1F G pl N N) N b) b a a) (by rw [uG_s]) ?_
                      refine a_aload_n (pc := 135) (q := 0) (i := 0) (x := 32) hC (by decide +kernel) rfl 2 rfl ?_
                      refine g_get (pc := 136) (idx := 25) (ci := 1) (v := .ref 42) hC 32 2 (by decide +kernel) rfl rfl rfl rfl wrL (by decide) rfl (by decide +kernel) ?_
                      refine a_iload_n (pc := 139) (q := 3) (i := 3) (x := (b : Int)) hC (by decide +kernel) rfl 1 rfl ?_
                      refine g_iald (pc := 140) (a := 42) (j := b) hC hty (by decide +kernel) rfl (by omega) (by first | decide | omega) ?_
                      refine g_top (y := wS (wB (rc1F G pl N N) N b) b a b) (by rw [uG_s]) ?_
                      refine a_ior (pc := 141) (z := orZ (wS (wB (rc1F G pl N N) N b) b a a) (wS (wB (rc1F G pl N N) N b) b a b)) hC (by decide +kernel) (iZ_or (by omega) (by omega)) ?_
                      refine g_iast (pc := 142) (a := 42) (j := a) (x := orZ (wS (wB (rc1F G pl N N) N b) b a a) (wS (wB (rc1F G pl N N) N b) b a b)) hC hty (by decide +kernel) rfl (by omega) (by first | decide | omega) ?_
                      refine a_iinc (pc := 143) (i := 4) (c := 1) (x := (a : Int)) (lv' := [(4, vi (((a : Int)) + 1)), (3, vi ((b : Int))), (0, .ref 32), (1, .ref 1), (2, .ref pl)]) hC (by decide +kernel) 0 rfl (by decide) rfl ?_
                      refine a_goto (pc := 146) (off := -38) hC 108 (by decide +kernel) (by decide) ?_
                      refine a_sub (lv' := [(4, vi (((a + 1) : Int))), (3, vi ((b : Int))), (0, .ref 32), (1, .ref 1), (2, .ref pl)]) [0, 1, 2, 3, 4] rfl ?_
                      refine g_G (G' := uG G 42 (wS (wB (rc1F G pl N N) N b) b (a + 1))) (by first | (rw [← hws]; done) | (rw [← hws, uG_s, uG_uG])) ?_
                      exact ih108 (a + 1) (by omega) (by omega)
              refine a_sub (lv' := [(4, vi ((0 : Int))), (3, vi ((b : Int))), (0, .ref 32), (1, .ref 1), (2, .ref pl)]) [0, 1, 2, 3, 4] rfl ?_
              refine g_G (G' := uG G 42 (wS (wB (rc1F G pl N N) N b) b 0)) rfl ?_
              exact L108 _ 0 (Nat.lt_succ_self _) (by omega)
        refine a_sub (lv' := [(3, vi ((0 : Int))), (0, .ref 32), (1, .ref 1), (2, .ref pl)]) [0, 1, 2, 3] rfl ?_
        refine g_G (G' := uG G 42 (wB (rc1F G pl N N) N 0)) (by rw [show s = N by omega]; rfl) ?_
        exact L97 _ 0 (Nat.lt_succ_self _) (by omega)
      · skip
        obtain ⟨q, hq, hq3⟩ : ∃ q : Nat, G pl s = (q : Int) ∧ q < 3 := ⟨(G pl s).toNat, by have := hpl.2 s (by omega); omega, by have := hpl.2 s (by omega); omega⟩
        have hsl : slotN G pl s = s * 3 + q := by unfold slotN; omega
        have hps := hpa (s * 3 + q) (by omega)
        refine a_iload_n (pc := 10) (q := 3) (i := 3) (x := (s : Int)) hC (by decide +kernel) rfl 0 rfl ?_
        refine a_aload_n (pc := 11) (q := 2) (i := 2) (x := pl) hC (by decide +kernel) rfl 3 rfl ?_
        refine a_iload_n (pc := 12) (q := 3) (i := 3) (x := (s : Int)) hC (by decide +kernel) rfl 0 rfl ?_
        refine g_iald (pc := 13) (a := pl) (j := s) hC hty (by decide +kernel) hpl.sh (by omega) (by first | decide | omega) ?_
        refine g_top (y := (q : Int)) (by rw [uG_n _ _ (by omega)]; exact hq) ?_
        refine g_callSN (pc := 14) (idx := 49) (av := [vi ((s : Int)), vi ((q : Int))]) (rest := []) (g := uG G 42 (rc1F G pl N s)) (v := vi (((s : Int)) * 3 + ((q : Int)))) (host := "PlanValues") hC hro hty (by decide +kernel) k_W_slotOf (by decide +kernel) (by decide +kernel) (ct_W_slotOf X.la X.dd K (uG G 42 (rc1F G pl N s)) ((s : Int)) ((q : Int))) rfl rfl (by decide) (by first | decide | simp [Value.category]) ?_
        refine g_top (y := ((s * 3 + q : Nat) : Int)) (by omega) ?_
        refine a_istore (pc := 17) (q := 0) (i := 4) (lv' := [(4, vi (((s * 3 + q : Nat) : Int))), (3, vi ((s : Int))), (0, .ref 32), (1, .ref 1), (2, .ref pl)]) hC (by decide +kernel) (by decide) rfl ?_
        refine a_aload_n (pc := 19) (q := 1) (i := 1) (x := 1) hC (by decide +kernel) rfl 3 rfl ?_
        refine g_getN (pc := 20) (idx := 68) (ci := 4) (v := .ref 5) (host := "PlanValues") hC 1 6 (by decide +kernel) rfl rfl rfl rfl wrW (by decide) rfl (by decide +kernel) ?_
        refine a_iload (pc := 23) (i := 4) (x := ((s * 3 + q : Nat) : Int)) hC (by decide +kernel) 0 rfl ?_
        refine g_iald (pc := 25) (a := 5) (j := s * 3 + q) hC hty (by decide +kernel) rfl (by omega) (by first | decide | omega) ?_
        refine g_top (y := G 5 (s * 3 + q)) (by rw [uG_n _ _ (by omega)]) ?_
        refine a_if_ne (pc := 26) (off := 8) hC 34 (by decide +kernel) (by decide) (by unfold inI; omega) (fun c26 => ?_) (fun c26 => ?_)
        · skip
          have hm0 : (0 : Int) = mkB G (s * 3 + q) 0 := by show _ = (if _ then _ else _); rw [if_neg c26]
          refine a_iconst (pc := 34) (c := 0) hC (by decide +kernel) ?_
          refine a_istore (pc := 35) (q := 0) (i := 5) (lv' := [(5, vi 0), (4, vi (((s * 3 + q : Nat) : Int))), (3, vi ((s : Int))), (0, .ref 32), (1, .ref 1), (2, .ref pl)]) hC (by decide +kernel) (by decide) rfl ?_
          refine a_iconst (pc := 37) (c := 0) hC (by decide +kernel) ?_
          refine a_istore (pc := 38) (q := 0) (i := 6) (lv' := [(6, vi 0), (5, vi 0), (4, vi (((s * 3 + q : Nat) : Int))), (3, vi ((s : Int))), (0, .ref 32), (1, .ref 1), (2, .ref pl)]) hC (by decide +kernel) (by decide) rfl ?_
          have L40 : ∀ (fuel : Nat) (t : Nat), N - t < fuel → t ≤ N → AW X 7 0 0 40 [(6, vi ((t : Int))), (5, vi (mkB G (s * 3 + q) t)), (4, vi (((s * 3 + q : Nat) : Int))), (3, vi ((s : Int))), (0, .ref 32), (1, .ref 1), (2, .ref pl)] [] (hp K (uG G 42 (rc1F G pl N s))) := by
            intro fuel
            induction fuel with
            | zero => intro t h; exact absurd h (Nat.not_lt_zero _)
            | succ fuel ih40 =>
              intro t hm ht
              have hmb := mkB_in G (s * 3 + q) t (by omega)
              refine a_iload (pc := 40) (i := 6) (x := (t : Int)) hC (by decide +kernel) 0 rfl ?_
              refine a_aload_n (pc := 42) (q := 1) (i := 1) (x := 1) hC (by decide +kernel) rfl 5 rfl ?_
              refine g_getN (pc := 43) (idx := 36) (ci := 4) (v := vi ((uG G 42 (rc1F G pl N s)) 1 0)) (host := "PlanValues") hC 1 0 (by decide +kernel) rfl rfl rfl rfl wrW (by decide) rfl (by decide +kernel) ?_
              refine g_top (y := (N : Int)) (by rw [uG_n _ _ (by omega)]; exact hn) ?_
              refine a_icmp_ge (pc := 46) (off := 31) hC 77 (by decide +kernel) (by decide) (by unfold inI; omega) (by unfold inI; omega) (fun c46 => ?_) (fun c46 => ?_)
              · skip
                have hpw := pw_in (k := s) (by omega)
                refine a_aload_n (pc := 77) (q := 0) (i := 0) (x := 32) hC (by decide +kernel) rfl 4 rfl ?_
                refine g_get (pc := 78) (idx := 25) (ci := 1) (v := .ref 42) hC 32 2 (by decide +kernel) rfl rfl rfl rfl wrL (by decide) rfl (by decide +kernel) ?_
                refine a_iload_n (pc := 81) (q := 3) (i := 3) (x := (s : Int)) hC (by decide +kernel) rfl 3 rfl ?_
                refine a_iload (pc := 82) (i := 5) (x := mkB G (s * 3 + q) t) hC (by decide +kernel) 1 rfl ?_
                refine a_iconst (pc := 84) (c := 1) hC (by decide +kernel) ?_
                refine a_iload_n (pc := 85) (q := 3) (i := 3) (x := (s : Int)) hC (by decide +kernel) rfl 3 rfl ?_
                refine a_ishl (pc := 86) (z := ((pw s : Nat) : Int)) hC (by decide +kernel) (iZ_shl (by omega)) ?_
                refine a_ior (pc := 87) (z := orZ (mkB G (s * 3 + q) t) ((pw s : Nat) : Int)) hC (by decide +kernel) (iZ_or (by omega) (by omega)) ?_
                refine g_top (y := rc1 G pl N s) (by unfold rc1; rw [hsl, show t = N by omega]) ?_
                refine g_iast (pc := 88) (a := 42) (j := s) (x := rc1 G pl N s) hC hty (by decide +kernel) rfl (by omega) (by first | decide | omega) ?_
                refine a_iinc (pc := 89) (i := 3) (c := 1) (x := (s : Int)) (lv' := [(3, vi (((s : Int)) + 1)), (6, vi ((t : Int))), (5, vi (mkB G (s * 3 + q) t)), (4, vi (((s * 3 + q : Nat) : Int))), (0, .ref 32), (1, .ref 1), (2, .ref pl)]) hC (by decide +kernel) 3 rfl (by decide) rfl ?_
                refine a_goto (pc := 92) (off := -90) hC 2 (by decide +kernel) (by decide) ?_
                refine a_sub (lv' := [(3, vi (((s + 1) : Int))), (0, .ref 32), (1, .ref 1), (2, .ref pl)]) [0, 4, 5, 6] rfl ?_
                refine g_G (G' := uG G 42 (rc1F G pl N (s + 1))) (by rw [uG_s, uG_uG, rc1F_s]) ?_
                exact ih2 (s + 1) (by omega) (by omega)
              · skip
                have hwt := hwe (s * 3 + q) t (by omega) (by omega)
                have hpw := pw_in (k := t) (by omega)
                refine a_aload_n (pc := 49) (q := 1) (i := 1) (x := 1) hC (by decide +kernel) rfl 5 rfl ?_
                refine g_getN (pc := 50) (idx := 71) (ci := 4) (v := .ref 6) (host := "PlanValues") hC 1 7 (by decide +kernel) rfl rfl rfl rfl wrW (by decide) rfl (by decide +kernel) ?_
                refine a_iload (pc := 53) (i := 4) (x := ((s * 3 + q : Nat) : Int)) hC (by decide +kernel) 2 rfl ?_
                refine g_aaldI (pc := 55) (a := 6) (j := s * 3 + q) hC hty (by decide +kernel) rfl (by omega) (by first | decide | omega) ?_
                refine a_iload (pc := 56) (i := 6) (x := (t : Int)) hC (by decide +kernel) 0 rfl ?_
                refine g_iald (pc := 58) (a := 7 + (s * 3 + q)) (j := t) hC hty (by decide +kernel) (sh_we (by omega : (s * 3 + q) < 15)) (by omega) (by first | decide | omega) ?_
                refine g_top (y := G (7 + (s * 3 + q)) t) (by rw [uG_n _ _ (by omega)]) ?_
                refine a_if_le (pc := 59) (off := 12) hC 71 (by decide +kernel) (by decide) (by unfold inI; omega) (fun c59 => ?_) (fun c59 => ?_)
                · skip
                  have hms : mkB G (s * 3 + q) t = mkB G (s * 3 + q) (t + 1) := by show _ = (if _ then _ else _); rw [if_neg (by omega)]
                  refine a_iinc (pc := 71) (i := 6) (c := 1) (x := (t : Int)) (lv' := [(6, vi (((t : Int)) + 1)), (5, vi (mkB G (s * 3 + q) t)), (4, vi (((s * 3 + q : Nat) : Int))), (3, vi ((s : Int))), (0, .ref 32), (1, .ref 1), (2, .ref pl)]) hC (by decide +kernel) 0 rfl (by decide) rfl ?_
                  refine a_goto (pc := 74) (off := -34) hC 40 (by decide +kernel) (by decide) ?_
                  refine a_sub (lv' := [(6, vi (((t + 1) : Int))), (5, vi (mkB G (s * 3 + q) (t + 1))), (4, vi (((s * 3 + q : Nat) : Int))), (3, vi ((s : Int))), (0, .ref 32), (1, .ref 1), (2, .ref pl)]) [0, 1, 2, 3, 4, 5, 6] (by rw [← hms]; rfl) ?_
                  exact ih40 (t + 1) (by omega) (by omega)
                · skip
                  have hms : orZ (mkB G (s * 3 + q) t) ((pw t : Nat) : Int) = mkB G (s * 3 + q) (t + 1) := by show _ = (if _ then _ else _); rw [if_pos (by omega)]
                  refine a_iload (pc := 62) (i := 5) (x := mkB G (s * 3 + q) t) hC (by decide +kernel) 1 rfl ?_
                  refine a_iconst (pc := 64) (c := 1) hC (by decide +kernel) ?_
                  refine a_iload (pc := 65) (i := 6) (x := (t : Int)) hC (by decide +kernel) 0 rfl ?_
                  refine a_ishl (pc := 67) (z := ((pw t : Nat) : Int)) hC (by decide +kernel) (iZ_shl (by omega)) ?_
                  refine a_ior (pc := 68) (z := orZ (mkB G (s * 3 + q) t) ((pw t : Nat) : Int)) hC (by decide +kernel) (iZ_or (by omega) (by omega)) ?_
                  refine a_istore (pc := 69) (q := 0) (i := 5) (lv' := [(5, vi (orZ (mkB G (s * 3 + q) t) ((pw t : Nat) : Int))), (6, vi ((t : Int))), (4, vi (((s * 3 + q : Nat) : Int))), (3, vi ((s : Int))), (0, .ref 32), (1, .ref 1), (2, .ref pl)]) hC (by decide +kernel) (by decide) rfl ?_
                  refine a_iinc (pc := 71) (i := 6) (c := 1) (x := (t : Int)) (lv' := [(6, vi (((t : Int)) + 1)), (5, vi (orZ (mkB G (s * 3 + q) t) ((pw t : Nat) : Int))), (4, vi (((s * 3 + q : Nat) : Int))), (3, vi ((s : Int))), (0, .ref 32), (1, .ref 1), (2, .ref pl)]) hC (by decide +kernel) 1 rfl (by decide) rfl ?_
                  refine a_goto (pc := 74) (off := -34) hC 40 (by decide +kernel) (by decide) ?_
                  refine a_sub (lv' := [(6, vi (((t + 1) : Int))), (5, vi (mkB G (s * 3 + q) (t + 1))), (4, vi (((s * 3 + q : Nat) : Int))), (3, vi ((s : Int))), (0, .ref 32), (1, .ref 1), (2, .ref pl)]) [0, 1, 2, 3, 4, 5, 6] (by rw [← hms]; rfl) ?_
                  exact ih40 (t + 1) (by omega) (by omega)
          refine a_sub (lv' := [(6, vi ((0 : Int))), (5, vi (mkB G (s * 3 + q) 0)), (4, vi (((s * 3 + q : Nat) : Int))), (3, vi ((s : Int))), (0, .ref 32), (1, .ref 1), (2, .ref pl)]) [0, 1, 2, 3, 4, 5, 6] (by rw [← hm0]; rfl) ?_
          exact L40 _ 0 (Nat.lt_succ_self _) (by omega)
        · skip
          have hm0 : (32 : Int) = mkB G (s * 3 + q) 0 := by show _ = (if _ then _ else _); rw [if_pos c26]
          refine a_bipush (pc := 29) (c := 32) hC (by decide +kernel) (by decide +kernel) ?_
          refine a_goto (pc := 31) (off := 4) hC 35 (by decide +kernel) (by decide) ?_
          refine a_istore (pc := 35) (q := 0) (i := 5) (lv' := [(5, vi 32), (4, vi (((s * 3 + q : Nat) : Int))), (3, vi ((s : Int))), (0, .ref 32), (1, .ref 1), (2, .ref pl)]) hC (by decide +kernel) (by decide) rfl ?_
          refine a_iconst (pc := 37) (c := 0) hC (by decide +kernel) ?_
          refine a_istore (pc := 38) (q := 0) (i := 6) (lv' := [(6, vi 0), (5, vi 32), (4, vi (((s * 3 + q : Nat) : Int))), (3, vi ((s : Int))), (0, .ref 32), (1, .ref 1), (2, .ref pl)]) hC (by decide +kernel) (by decide) rfl ?_
          have L40 : ∀ (fuel : Nat) (t : Nat), N - t < fuel → t ≤ N → AW X 7 0 0 40 [(6, vi ((t : Int))), (5, vi (mkB G (s * 3 + q) t)), (4, vi (((s * 3 + q : Nat) : Int))), (3, vi ((s : Int))), (0, .ref 32), (1, .ref 1), (2, .ref pl)] [] (hp K (uG G 42 (rc1F G pl N s))) := by
            intro fuel
            induction fuel with
            | zero => intro t h; exact absurd h (Nat.not_lt_zero _)
            | succ fuel ih40 =>
              intro t hm ht
              have hmb := mkB_in G (s * 3 + q) t (by omega)
              refine a_iload (pc := 40) (i := 6) (x := (t : Int)) hC (by decide +kernel) 0 rfl ?_
              refine a_aload_n (pc := 42) (q := 1) (i := 1) (x := 1) hC (by decide +kernel) rfl 5 rfl ?_
              refine g_getN (pc := 43) (idx := 36) (ci := 4) (v := vi ((uG G 42 (rc1F G pl N s)) 1 0)) (host := "PlanValues") hC 1 0 (by decide +kernel) rfl rfl rfl rfl wrW (by decide) rfl (by decide +kernel) ?_
              refine g_top (y := (N : Int)) (by rw [uG_n _ _ (by omega)]; exact hn) ?_
              refine a_icmp_ge (pc := 46) (off := 31) hC 77 (by decide +kernel) (by decide) (by unfold inI; omega) (by unfold inI; omega) (fun c46 => ?_) (fun c46 => ?_)
              · skip
                have hpw := pw_in (k := s) (by omega)
                refine a_aload_n (pc := 77) (q := 0) (i := 0) (x := 32) hC (by decide +kernel) rfl 4 rfl ?_
                refine g_get (pc := 78) (idx := 25) (ci := 1) (v := .ref 42) hC 32 2 (by decide +kernel) rfl rfl rfl rfl wrL (by decide) rfl (by decide +kernel) ?_
                refine a_iload_n (pc := 81) (q := 3) (i := 3) (x := (s : Int)) hC (by decide +kernel) rfl 3 rfl ?_
                refine a_iload (pc := 82) (i := 5) (x := mkB G (s * 3 + q) t) hC (by decide +kernel) 1 rfl ?_
                refine a_iconst (pc := 84) (c := 1) hC (by decide +kernel) ?_
                refine a_iload_n (pc := 85) (q := 3) (i := 3) (x := (s : Int)) hC (by decide +kernel) rfl 3 rfl ?_
                refine a_ishl (pc := 86) (z := ((pw s : Nat) : Int)) hC (by decide +kernel) (iZ_shl (by omega)) ?_
                refine a_ior (pc := 87) (z := orZ (mkB G (s * 3 + q) t) ((pw s : Nat) : Int)) hC (by decide +kernel) (iZ_or (by omega) (by omega)) ?_
                refine g_top (y := rc1 G pl N s) (by unfold rc1; rw [hsl, show t = N by omega]) ?_
                refine g_iast (pc := 88) (a := 42) (j := s) (x := rc1 G pl N s) hC hty (by decide +kernel) rfl (by omega) (by first | decide | omega) ?_
                refine a_iinc (pc := 89) (i := 3) (c := 1) (x := (s : Int)) (lv' := [(3, vi (((s : Int)) + 1)), (6, vi ((t : Int))), (5, vi (mkB G (s * 3 + q) t)), (4, vi (((s * 3 + q : Nat) : Int))), (0, .ref 32), (1, .ref 1), (2, .ref pl)]) hC (by decide +kernel) 3 rfl (by decide) rfl ?_
                refine a_goto (pc := 92) (off := -90) hC 2 (by decide +kernel) (by decide) ?_
                refine a_sub (lv' := [(3, vi (((s + 1) : Int))), (0, .ref 32), (1, .ref 1), (2, .ref pl)]) [0, 4, 5, 6] rfl ?_
                refine g_G (G' := uG G 42 (rc1F G pl N (s + 1))) (by rw [uG_s, uG_uG, rc1F_s]) ?_
                exact ih2 (s + 1) (by omega) (by omega)
              · skip
                have hwt := hwe (s * 3 + q) t (by omega) (by omega)
                have hpw := pw_in (k := t) (by omega)
                refine a_aload_n (pc := 49) (q := 1) (i := 1) (x := 1) hC (by decide +kernel) rfl 5 rfl ?_
                refine g_getN (pc := 50) (idx := 71) (ci := 4) (v := .ref 6) (host := "PlanValues") hC 1 7 (by decide +kernel) rfl rfl rfl rfl wrW (by decide) rfl (by decide +kernel) ?_
                refine a_iload (pc := 53) (i := 4) (x := ((s * 3 + q : Nat) : Int)) hC (by decide +kernel) 2 rfl ?_
                refine g_aaldI (pc := 55) (a := 6) (j := s * 3 + q) hC hty (by decide +kernel) rfl (by omega) (by first | decide | omega) ?_
                refine a_iload (pc := 56) (i := 6) (x := (t : Int)) hC (by decide +kernel) 0 rfl ?_
                refine g_iald (pc := 58) (a := 7 + (s * 3 + q)) (j := t) hC hty (by decide +kernel) (sh_we (by omega : (s * 3 + q) < 15)) (by omega) (by first | decide | omega) ?_
                refine g_top (y := G (7 + (s * 3 + q)) t) (by rw [uG_n _ _ (by omega)]) ?_
                refine a_if_le (pc := 59) (off := 12) hC 71 (by decide +kernel) (by decide) (by unfold inI; omega) (fun c59 => ?_) (fun c59 => ?_)
                · skip
                  have hms : mkB G (s * 3 + q) t = mkB G (s * 3 + q) (t + 1) := by show _ = (if _ then _ else _); rw [if_neg (by omega)]
                  refine a_iinc (pc := 71) (i := 6) (c := 1) (x := (t : Int)) (lv' := [(6, vi (((t : Int)) + 1)), (5, vi (mkB G (s * 3 + q) t)), (4, vi (((s * 3 + q : Nat) : Int))), (3, vi ((s : Int))), (0, .ref 32), (1, .ref 1), (2, .ref pl)]) hC (by decide +kernel) 0 rfl (by decide) rfl ?_
                  refine a_goto (pc := 74) (off := -34) hC 40 (by decide +kernel) (by decide) ?_
                  refine a_sub (lv' := [(6, vi (((t + 1) : Int))), (5, vi (mkB G (s * 3 + q) (t + 1))), (4, vi (((s * 3 + q : Nat) : Int))), (3, vi ((s : Int))), (0, .ref 32), (1, .ref 1), (2, .ref pl)]) [0, 1, 2, 3, 4, 5, 6] (by rw [← hms]; rfl) ?_
                  exact ih40 (t + 1) (by omega) (by omega)
                · skip
                  have hms : orZ (mkB G (s * 3 + q) t) ((pw t : Nat) : Int) = mkB G (s * 3 + q) (t + 1) := by show _ = (if _ then _ else _); rw [if_pos (by omega)]
                  refine a_iload (pc := 62) (i := 5) (x := mkB G (s * 3 + q) t) hC (by decide +kernel) 1 rfl ?_
                  refine a_iconst (pc := 64) (c := 1) hC (by decide +kernel) ?_
                  refine a_iload (pc := 65) (i := 6) (x := (t : Int)) hC (by decide +kernel) 0 rfl ?_
                  refine a_ishl (pc := 67) (z := ((pw t : Nat) : Int)) hC (by decide +kernel) (iZ_shl (by omega)) ?_
                  refine a_ior (pc := 68) (z := orZ (mkB G (s * 3 + q) t) ((pw t : Nat) : Int)) hC (by decide +kernel) (iZ_or (by omega) (by omega)) ?_
                  refine a_istore (pc := 69) (q := 0) (i := 5) (lv' := [(5, vi (orZ (mkB G (s * 3 + q) t) ((pw t : Nat) : Int))), (6, vi ((t : Int))), (4, vi (((s * 3 + q : Nat) : Int))), (3, vi ((s : Int))), (0, .ref 32), (1, .ref 1), (2, .ref pl)]) hC (by decide +kernel) (by decide) rfl ?_
                  refine a_iinc (pc := 71) (i := 6) (c := 1) (x := (t : Int)) (lv' := [(6, vi (((t : Int)) + 1)), (5, vi (orZ (mkB G (s * 3 + q) t) ((pw t : Nat) : Int))), (4, vi (((s * 3 + q : Nat) : Int))), (3, vi ((s : Int))), (0, .ref 32), (1, .ref 1), (2, .ref pl)]) hC (by decide +kernel) 1 rfl (by decide) rfl ?_
                  refine a_goto (pc := 74) (off := -34) hC 40 (by decide +kernel) (by decide) ?_
                  refine a_sub (lv' := [(6, vi (((t + 1) : Int))), (5, vi (mkB G (s * 3 + q) (t + 1))), (4, vi (((s * 3 + q : Nat) : Int))), (3, vi ((s : Int))), (0, .ref 32), (1, .ref 1), (2, .ref pl)]) [0, 1, 2, 3, 4, 5, 6] (by rw [← hms]; rfl) ?_
                  exact ih40 (t + 1) (by omega) (by omega)
          refine a_sub (lv' := [(6, vi ((0 : Int))), (5, vi (mkB G (s * 3 + q) 0)), (4, vi (((s * 3 + q : Nat) : Int))), (3, vi ((s : Int))), (0, .ref 32), (1, .ref 1), (2, .ref pl)]) [0, 1, 2, 3, 4, 5, 6] (by rw [← hm0]; rfl) ?_
          exact L40 _ 0 (Nat.lt_succ_self _) (by omega)
  refine a_sub (lv' := [(3, vi ((0 : Int))), (0, .ref 32), (1, .ref 1), (2, .ref pl)]) [0, 1, 2, 3] rfl ?_
  refine g_G (G' := uG G 42 (rc1F G pl N 0)) (by rw [rc1F_0, uG_self]) ?_
  exact L2 _ 0 (Nat.lt_succ_self _) (by omega)
