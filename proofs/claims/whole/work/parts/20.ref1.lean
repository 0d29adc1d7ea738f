/-! the reference: its small methods -/
def MM (G : GT) (N : Nat) : Prop := G 50 1 = (N : Int) ∧ N ≤ 5 ∧ (0 ≤ G 50 7 ∧ G 50 7 < G 50 8 ∧ G 50 8 ≤ 6) ∧ (∀ s, s < 5 → 0 ≤ G 52 s ∧ G 52 s ≤ 3) ∧ (∀ q, q < 15 → -50 ≤ G 53 q ∧ G 53 q ≤ 50) ∧ (∀ q, q < 75 → 0 ≤ G 54 q ∧ G 54 q ≤ 6) ∧ (∀ s, s < 5 → G 51 s = 0 ∨ G 51 s = 1) ∧ ∀ s, s < 5 → 0 ≤ G 55 s ∧ G 55 s ≤ 2
theorem MM.keep {G G' : GT} {N : Nat} (h : MM G N) (e : ∀ a, 51 ≤ a ∧ a ≤ 55 → G' a = G a) (e0 : ∀ k, k = 1 ∨ k = 7 ∨ k = 8 → G' 50 k = G 50 k) : MM G' N := by
  obtain ⟨h1, h2, h3, h4, h5, h6, h7, h8⟩ := h
  refine ⟨by rw [e0 1 (by omega)]; exact h1, h2, by rw [e0 7 (by omega), e0 8 (by omega)]; exact h3, fun s hs => by rw [e 52 (by omega)]; exact h4 s hs, fun q hq => by rw [e 53 (by omega)]; exact h5 q hq, fun q hq => by rw [e 54 (by omega)]; exact h6 q hq, fun s hs => by rw [e 51 (by omega)]; exact h7 s hs, fun s hs => by rw [e 55 (by omega)]; exact h8 s hs⟩
def inZ (v lo hi : Int) : Int := if lo ≤ v ∧ v ≤ hi then 1 else 0
theorem inZ_01 (v lo hi : Int) : inZ v lo hi = 0 ∨ inZ v lo hi = 1 := by unfold inZ; split <;> omega
def gcZ (a b : Int) : Int := ((Nat.gcd a.natAbs b.natAbs : Nat) : Int)
theorem gcZ_s {x y : Int} (hx : 0 ≤ x) (hy : 0 ≤ y) : gcZ y (Int.tmod x y) = gcZ x y := by
  obtain ⟨a, rfl⟩ : ∃ a : Nat, x = (a : Int) := ⟨x.toNat, by omega⟩
  obtain ⟨b, rfl⟩ : ∃ b : Nat, y = (b : Int) := ⟨y.toNat, by omega⟩
  unfold gcZ
  rw [show Int.tmod (a : Int) (b : Int) = ((a % b : Nat) : Int) from rfl]
  simp only [Int.natAbs_natCast]
  rw [Nat.gcd_comm b (a % b), ← Nat.gcd_rec, Nat.gcd_comm]
theorem gcZ_0 {x : Int} (hx : 0 ≤ x) : gcZ x 0 = x := by unfold gcZ; simp; omega
theorem gcZ_abs (a b : Int) : gcZ (absZ a) (absZ b) = gcZ a b := by
  have e : ∀ x : Int, (absZ x).natAbs = x.natAbs := fun x => by unfold absZ; split <;> simp
  unfold gcZ; rw [e, e]
theorem gcZ_in {a b : Int} (hb : 1 ≤ b) : 1 ≤ gcZ a b ∧ gcZ a b ≤ b := by
  unfold gcZ
  have h1 : Nat.gcd a.natAbs b.natAbs ≤ b.natAbs := Nat.gcd_le_right _ (by omega)
  have h2 : 0 < Nat.gcd a.natAbs b.natAbs := Nat.gcd_pos_of_pos_right _ (by omega)
  omega
def mansG (G : GT) (x y : Int) : GT := uG G 50 (up (up (G 50) 9 (Int.tdiv x (gcZ x y))) 10 (Int.tdiv y (gcZ x y)))
def mS (G : GT) (s : Int) : Int := inZ s 0 (G 50 1 - 1)
def mA (G : GT) (s a : Int) : Int := if mS G s = 1 ∧ inZ a 0 (G 52 s.toNat - 1) = 1 then 1 else 0
def wIx (s a t : Nat) : Nat := 15 * s + 5 * a + t
def totZ (G : GT) (s a : Nat) : Nat → Int
  | 0 => 0
  | t + 1 => totZ G s a t + G 54 (wIx s a t)
theorem totZ_in {G : GT} {N s a : Nat} (h : MM G N) (hs : s < 5) (ha : a < 3) : ∀ t, t ≤ 5 → 0 ≤ totZ G s a t ∧ totZ G s a t ≤ 6 * (t : Int)
  | 0, _ => by unfold totZ; simp
  | t + 1, ht => by
    have ih := totZ_in h hs ha t (by omega)
    have := h.2.2.2.2.2.1 (wIx s a t) (by unfold wIx; omega)
    unfold totZ
    omega
def m0 (G : GT) : GT := uG G 50 (up (G 50) 0 0)
theorem m0_n {G : GT} {a : Nat} (h : a ≠ 50) : m0 G a = G a := uG_n _ _ h
theorem m0_k {G : GT} {k : Nat} (h : k ≠ 0) : m0 G 50 k = G 50 k := by unfold m0; rw [uG_s, up_n _ _ h]
theorem MM.m0 {G : GT} {N : Nat} (h : MM G N) : MM (m0 G) N := h.keep (fun a ha => m0_n (by omega)) (fun k hk => m0_k (by omega))
theorem shr5 : ∀ m : Nat, m < 64 → ∀ k : Nat, k < 6 → iZ (m : Int) >>> (iZ (k : Int) &&& 31) = iZ ((m / 2 ^ k : Nat) : Int) := by decide +kernel
theorem and1 : ∀ m : Nat, m < 64 → iZ (m : Int) &&& iZ 1 = iZ ((m % 2 : Nat) : Int) := by decide +kernel
def sr (m k : Nat) : Nat := m / 2 ^ k
theorem sr_lt {m k : Nat} (h : m < 64) : sr m k < 64 := Nat.lt_of_le_of_lt (Nat.div_le_self _ _) h
def bt2 (m k : Nat) : Nat := sr m k % 2
theorem bt2_in (m k : Nat) : bt2 m k < 2 := Nat.mod_lt _ (by decide)
def mnS (m : Nat) : Nat → Int
  | 0 => 0
  | k + 1 => mnS m k + (bt2 m k : Int)
theorem mnS_in (m : Nat) : ∀ k, 0 ≤ mnS m k ∧ mnS m k ≤ (k : Int)
  | 0 => by unfold mnS; simp
  | k + 1 => by have ih := mnS_in m k; have := bt2_in m k; unfold mnS; omega

set_option maxRecDepth 100000 in
set_option maxHeartbeats 4000000 in
theorem ct_M_in (l : Launch) (D : va_G) (K : K5) (G : GT) (v lo hi : Int) (hv : inL v) (hlo : inL lo) (hhi : inL hi) : Ct l D K y_M_in c_M_in 6 (some .boolean) 0 0 [vl v, vl lo, vl hi] G (some (vi (inZ v lo hi))) G := by
  refine Ct.intro (by decide +kernel) (Nat.le_of_ble_eq_true rfl) ?_
  intro X hro hty hC hE
  refine a_lload_n (pc := 0) (q := 0) (i := 0) (x := v) hC (by decide +kernel) rfl 0 rfl ?_
  refine a_lload_n (pc := 1) (q := 2) (i := 2) (x := lo) hC (by decide +kernel) rfl 1 rfl ?_
  refine a_lcmp (pc := 2) hC (by decide +kernel) hv hlo ?_
  refine a_if_lt (pc := 3) (off := 14) hC 17 (by decide +kernel) (by decide) (cmpZ_in _ _) (fun c3 => ?_) (fun c3 => ?_)
  · skip
    rw [cmpZ_lt] at c3
    refine a_iconst (pc := 17) (c := 0) hC (by decide +kernel) ?_
    exact g_zret (pc := 18) hC hE (by decide +kernel) (by omega) (by unfold inZ; split <;> omega) rfl
  · skip
    rw [cmpZ_lt] at c3
    refine a_lload_n (pc := 6) (q := 0) (i := 0) (x := v) hC (by decide +kernel) rfl 0 rfl ?_
    refine a_lload (pc := 7) (i := 4) (x := hi) hC (by decide +kernel) 2 rfl ?_
    refine a_lcmp (pc := 9) hC (by decide +kernel) hv hhi ?_
    refine a_if_gt (pc := 10) (off := 7) hC 17 (by decide +kernel) (by decide) (cmpZ_in _ _) (fun c10 => ?_) (fun c10 => ?_)
    · skip
      rw [cmpZ_gt] at c10
      refine a_iconst (pc := 17) (c := 0) hC (by decide +kernel) ?_
      exact g_zret (pc := 18) hC hE (by decide +kernel) (by omega) (by unfold inZ; split <;> omega) rfl
    · skip
      rw [cmpZ_gt] at c10
      refine a_iconst (pc := 13) (c := 1) hC (by decide +kernel) ?_
      refine a_goto (pc := 14) (off := 4) hC 18 (by decide +kernel) (by decide) ?_
      exact g_zret (pc := 18) hC hE (by decide +kernel) (by omega) (by unfold inZ; split <;> omega) rfl

set_option maxRecDepth 100000 in
set_option maxHeartbeats 4000000 in
theorem ct_M_divisor (l : Launch) (D : va_G) (K : K5) (G : GT) (a b : Int) (ha : inL a ∧ inL (absZ a)) (hb : inL b ∧ inL (absZ b)) : Ct l D K y_M_divisor c_M_divisor 10 (some .long) 0 0 [vl a, vl b] G (some (vl (gcZ a b))) G := by
  refine Ct.intro (by decide +kernel) (Nat.le_of_ble_eq_true rfl) ?_
  intro X hro hty hC hE
  have ha0 : 0 ≤ absZ a := by unfold absZ; split <;> omega
  have hb0 : 0 ≤ absZ b := by unfold absZ; split <;> omega
  refine a_lload_n (pc := 0) (q := 0) (i := 0) (x := a) hC (by decide +kernel) rfl 0 rfl ?_
  refine a_lconst (pc := 1) (c := 0) (z := 0) hC (by decide +kernel) rfl ?_
  refine a_lcmp (pc := 2) hC (by decide +kernel) ha.1 inL_0 ?_
  refine a_if_ge (pc := 3) (off := 8) hC 11 (by decide +kernel) (by decide) (cmpZ_in _ _) (fun c3 => ?_) (fun c3 => ?_)
  · skip
    rw [cmpZ_ge] at c3
    have hxa : a = absZ a := by unfold absZ; rw [if_neg (by omega)]
    refine a_lload_n (pc := 11) (q := 0) (i := 0) (x := a) hC (by decide +kernel) rfl 0 rfl ?_
    refine a_lstore (pc := 12) (q := 0) (i := 4) (lv' := [(4, vl a), (0, vl a), (2, vl b)]) hC (by decide +kernel) (by decide) rfl ?_
    refine a_lload_n (pc := 14) (q := 2) (i := 2) (x := b) hC (by decide +kernel) rfl 2 rfl ?_
    refine a_lconst (pc := 15) (c := 0) (z := 0) hC (by decide +kernel) rfl ?_
    refine a_lcmp (pc := 16) hC (by decide +kernel) hb.1 inL_0 ?_
    refine a_if_ge (pc := 17) (off := 8) hC 25 (by decide +kernel) (by decide) (cmpZ_in _ _) (fun c17 => ?_) (fun c17 => ?_)
    · skip
      rw [cmpZ_ge] at c17
      have hyb : b = absZ b := by unfold absZ; rw [if_neg (by omega)]
      refine a_lload_n (pc := 25) (q := 2) (i := 2) (x := b) hC (by decide +kernel) rfl 2 rfl ?_
      refine a_lstore (pc := 26) (q := 0) (i := 6) (lv' := [(6, vl b), (4, vl a), (0, vl a), (2, vl b)]) hC (by decide +kernel) (by decide) rfl ?_
      have L28 : ∀ (fuel : Nat) (x : Int) (y : Int), y.toNat < fuel → (0 ≤ x ∧ inL x) → (0 ≤ y ∧ inL y) → gcZ x y = gcZ a b → AW X 10 0 0 28 [(6, vl y), (4, vl x), (0, vl a), (2, vl b)] [] (hp K G) := by
        intro fuel
        induction fuel with
        | zero => intro x y h; exact absurd h (Nat.not_lt_zero _)
        | succ fuel ih28 =>
          intro x y hm hx hy hg
          refine a_lload (pc := 28) (i := 6) (x := y) hC (by decide +kernel) 0 rfl ?_
          refine a_lconst (pc := 30) (c := 0) (z := 0) hC (by decide +kernel) rfl ?_
          refine a_lcmp (pc := 31) hC (by decide +kernel) hy.2 inL_0 ?_
          refine a_if_eq (pc := 32) (off := 21) hC 53 (by decide +kernel) (by decide) (cmpZ_in _ _) (fun c32 => ?_) (fun c32 => ?_)
          · skip
            rw [cmpZ_eq] at c32
            refine a_lload (pc := 53) (i := 4) (x := x) hC (by decide +kernel) 1 rfl ?_
            exact g_lret (pc := 55) hC hE (by decide +kernel) (by rw [← hg, c32, gcZ_0 hx.1]) rfl
          · skip
            rw [cmpZ_eq] at c32
            have htm := tmod_in hx.1 hy.1 c32
            refine a_lload (pc := 35) (i := 4) (x := x) hC (by decide +kernel) 1 rfl ?_
            refine a_lload (pc := 37) (i := 6) (x := y) hC (by decide +kernel) 0 rfl ?_
            refine a_lrem (pc := 39) hC (by decide +kernel) hx.2 hy.2 c32 ?_
            refine a_lstore (pc := 40) (q := 0) (i := 8) (lv' := [(8, vl (Int.tmod x y)), (6, vl y), (4, vl x), (0, vl a), (2, vl b)]) hC (by decide +kernel) (by decide) rfl ?_
            refine a_lload (pc := 42) (i := 6) (x := y) hC (by decide +kernel) 1 rfl ?_
            refine a_lstore (pc := 44) (q := 0) (i := 4) (lv' := [(4, vl y), (8, vl (Int.tmod x y)), (6, vl y), (0, vl a), (2, vl b)]) hC (by decide +kernel) (by decide) rfl ?_
            refine a_lload (pc := 46) (i := 8) (x := Int.tmod x y) hC (by decide +kernel) 1 rfl ?_
            refine a_lstore (pc := 48) (q := 0) (i := 6) (lv' := [(6, vl (Int.tmod x y)), (4, vl y), (8, vl (Int.tmod x y)), (0, vl a), (2, vl b)]) hC (by decide +kernel) (by decide) rfl ?_
            refine a_goto (pc := 50) (off := -22) hC 28 (by decide +kernel) (by decide) ?_
            refine a_sub (lv' := [(6, vl ((Int.tmod x y))), (4, vl y), (0, vl a), (2, vl b)]) [0, 1, 3, 4] rfl ?_
            exact ih28 y (Int.tmod x y) (by omega) hy ⟨htm.1, by have := hy.2; unfold inL at *; omega⟩ (by rw [gcZ_s hx.1 hy.1]; exact hg)
      refine a_sub (lv' := [(6, vl ((absZ b))), (4, vl ((absZ a))), (0, vl a), (2, vl b)]) [0, 1, 2, 3] (by rw [← hxa, ← hyb]; rfl) ?_
      exact L28 _ (absZ a) (absZ b) (Nat.lt_succ_self _) ⟨ha0, ha.2⟩ ⟨hb0, hb.2⟩ (gcZ_abs a b)
    · skip
      rw [cmpZ_ge] at c17
      have hyb : -b = absZ b := by unfold absZ; rw [if_pos (by omega)]
      refine a_lload_n (pc := 20) (q := 2) (i := 2) (x := b) hC (by decide +kernel) rfl 2 rfl ?_
      refine a_lneg (pc := 21) hC (by decide +kernel) ?_
      refine a_goto (pc := 22) (off := 4) hC 26 (by decide +kernel) (by decide) ?_
      refine a_lstore (pc := 26) (q := 0) (i := 6) (lv' := [(6, vl (-b)), (4, vl a), (0, vl a), (2, vl b)]) hC (by decide +kernel) (by decide) rfl ?_
      have L28 : ∀ (fuel : Nat) (x : Int) (y : Int), y.toNat < fuel → (0 ≤ x ∧ inL x) → (0 ≤ y ∧ inL y) → gcZ x y = gcZ a b → AW X 10 0 0 28 [(6, vl y), (4, vl x), (0, vl a), (2, vl b)] [] (hp K G) := by
        intro fuel
        induction fuel with
        | zero => intro x y h; exact absurd h (Nat.not_lt_zero _)
        | succ fuel ih28 =>
          intro x y hm hx hy hg
          refine a_lload (pc := 28) (i := 6) (x := y) hC (by decide +kernel) 0 rfl ?_
          refine a_lconst (pc := 30) (c := 0) (z := 0) hC (by decide +kernel) rfl ?_
          refine a_lcmp (pc := 31) hC (by decide +kernel) hy.2 inL_0 ?_
          refine a_if_eq (pc := 32) (off := 21) hC 53 (by decide +kernel) (by decide) (cmpZ_in _ _) (fun c32 => ?_) (fun c32 => ?_)
          · skip
            rw [cmpZ_eq] at c32
            refine a_lload (pc := 53) (i := 4) (x := x) hC (by decide +kernel) 1 rfl ?_
            exact g_lret (pc := 55) hC hE (by decide +kernel) (by rw [← hg, c32, gcZ_0 hx.1]) rfl
          · skip
            rw [cmpZ_eq] at c32
            have htm := tmod_in hx.1 hy.1 c32
            refine a_lload (pc := 35) (i := 4) (x := x) hC (by decide +kernel) 1 rfl ?_
            refine a_lload (pc := 37) (i := 6) (x := y) hC (by decide +kernel) 0 rfl ?_
            refine a_lrem (pc := 39) hC (by decide +kernel) hx.2 hy.2 c32 ?_
            refine a_lstore (pc := 40) (q := 0) (i := 8) (lv' := [(8, vl (Int.tmod x y)), (6, vl y), (4, vl x), (0, vl a), (2, vl b)]) hC (by decide +kernel) (by decide) rfl ?_
            refine a_lload (pc := 42) (i := 6) (x := y) hC (by decide +kernel) 1 rfl ?_
            refine a_lstore (pc := 44) (q := 0) (i := 4) (lv' := [(4, vl y), (8, vl (Int.tmod x y)), (6, vl y), (0, vl a), (2, vl b)]) hC (by decide +kernel) (by decide) rfl ?_
            refine a_lload (pc := 46) (i := 8) (x := Int.tmod x y) hC (by decide +kernel) 1 rfl ?_
            refine a_lstore (pc := 48) (q := 0) (i := 6) (lv' := [(6, vl (Int.tmod x y)), (4, vl y), (8, vl (Int.tmod x y)), (0, vl a), (2, vl b)]) hC (by decide +kernel) (by decide) rfl ?_
            refine a_goto (pc := 50) (off := -22) hC 28 (by decide +kernel) (by decide) ?_
            refine a_sub (lv' := [(6, vl ((Int.tmod x y))), (4, vl y), (0, vl a), (2, vl b)]) [0, 1, 3, 4] rfl ?_
            exact ih28 y (Int.tmod x y) (by omega) hy ⟨htm.1, by have := hy.2; unfold inL at *; omega⟩ (by rw [gcZ_s hx.1 hy.1]; exact hg)
      refine a_sub (lv' := [(6, vl ((absZ b))), (4, vl ((absZ a))), (0, vl a), (2, vl b)]) [0, 1, 2, 3] (by rw [← hxa, ← hyb]; rfl) ?_
      exact L28 _ (absZ a) (absZ b) (Nat.lt_succ_self _) ⟨ha0, ha.2⟩ ⟨hb0, hb.2⟩ (gcZ_abs a b)
  · skip
    rw [cmpZ_ge] at c3
    have hxa : -a = absZ a := by unfold absZ; rw [if_pos (by omega)]
    refine a_lload_n (pc := 6) (q := 0) (i := 0) (x := a) hC (by decide +kernel) rfl 0 rfl ?_
    refine a_lneg (pc := 7) hC (by decide +kernel) ?_
    refine a_goto (pc := 8) (off := 4) hC 12 (by decide +kernel) (by decide) ?_
    refine a_lstore (pc := 12) (q := 0) (i := 4) (lv' := [(4, vl (-a)), (0, vl a), (2, vl b)]) hC (by decide +kernel) (by decide) rfl ?_
    refine a_lload_n (pc := 14) (q := 2) (i := 2) (x := b) hC (by decide +kernel) rfl 2 rfl ?_
    refine a_lconst (pc := 15) (c := 0) (z := 0) hC (by decide +kernel) rfl ?_
    refine a_lcmp (pc := 16) hC (by decide +kernel) hb.1 inL_0 ?_
    refine a_if_ge (pc := 17) (off := 8) hC 25 (by decide +kernel) (by decide) (cmpZ_in _ _) (fun c17 => ?_) (fun c17 => ?_)
    · skip
      rw [cmpZ_ge] at c17
      have hyb : b = absZ b := by unfold absZ; rw [if_neg (by omega)]
      refine a_lload_n (pc := 25) (q := 2) (i := 2) (x := b) hC (by decide +kernel) rfl 2 rfl ?_
      refine a_lstore (pc := 26) (q := 0) (i := 6) (lv' := [(6, vl b), (4, vl (-a)), (0, vl a), (2, vl b)]) hC (by decide +kernel) (by decide) rfl ?_
      have L28 : ∀ (fuel : Nat) (x : Int) (y : Int), y.toNat < fuel → (0 ≤ x ∧ inL x) → (0 ≤ y ∧ inL y) → gcZ x y = gcZ a b → AW X 10 0 0 28 [(6, vl y), (4, vl x), (0, vl a), (2, vl b)] [] (hp K G) := by
        intro fuel
        induction fuel with
        | zero => intro x y h; exact absurd h (Nat.not_lt_zero _)
        | succ fuel ih28 =>
          intro x y hm hx hy hg
          refine a_lload (pc := 28) (i := 6) (x := y) hC (by decide +kernel) 0 rfl ?_
          refine a_lconst (pc := 30) (c := 0) (z := 0) hC (by decide +kernel) rfl ?_
          refine a_lcmp (pc := 31) hC (by decide +kernel) hy.2 inL_0 ?_
          refine a_if_eq (pc := 32) (off := 21) hC 53 (by decide +kernel) (by decide) (cmpZ_in _ _) (fun c32 => ?_) (fun c32 => ?_)
          · skip
            rw [cmpZ_eq] at c32
            refine a_lload (pc := 53) (i := 4) (x := x) hC (by decide +kernel) 1 rfl ?_
            exact g_lret (pc := 55) hC hE (by decide +kernel) (by rw [← hg, c32, gcZ_0 hx.1]) rfl
          · skip
            rw [cmpZ_eq] at c32
            have htm := tmod_in hx.1 hy.1 c32
            refine a_lload (pc := 35) (i := 4) (x := x) hC (by decide +kernel) 1 rfl ?_
            refine a_lload (pc := 37) (i := 6) (x := y) hC (by decide +kernel) 0 rfl ?_
            refine a_lrem (pc := 39) hC (by decide +kernel) hx.2 hy.2 c32 ?_
            refine a_lstore (pc := 40) (q := 0) (i := 8) (lv' := [(8, vl (Int.tmod x y)), (6, vl y), (4, vl x), (0, vl a), (2, vl b)]) hC (by decide +kernel) (by decide) rfl ?_
            refine a_lload (pc := 42) (i := 6) (x := y) hC (by decide +kernel) 1 rfl ?_
            refine a_lstore (pc := 44) (q := 0) (i := 4) (lv' := [(4, vl y), (8, vl (Int.tmod x y)), (6, vl y), (0, vl a), (2, vl b)]) hC (by decide +kernel) (by decide) rfl ?_
            refine a_lload (pc := 46) (i := 8) (x := Int.tmod x y) hC (by decide +kernel) 1 rfl ?_
            refine a_lstore (pc := 48) (q := 0) (i := 6) (lv' := [(6, vl (Int.tmod x y)), (4, vl y), (8, vl (Int.tmod x y)), (0, vl a), (2, vl b)]) hC (by decide +kernel) (by decide) rfl ?_
            refine a_goto (pc := 50) (off := -22) hC 28 (by decide +kernel) (by decide) ?_
            refine a_sub (lv' := [(6, vl ((Int.tmod x y))), (4, vl y), (0, vl a), (2, vl b)]) [0, 1, 3, 4] rfl ?_
            exact ih28 y (Int.tmod x y) (by omega) hy ⟨htm.1, by have := hy.2; unfold inL at *; omega⟩ (by rw [gcZ_s hx.1 hy.1]; exact hg)
      refine a_sub (lv' := [(6, vl ((absZ b))), (4, vl ((absZ a))), (0, vl a), (2, vl b)]) [0, 1, 2, 3] (by rw [← hxa, ← hyb]; rfl) ?_
      exact L28 _ (absZ a) (absZ b) (Nat.lt_succ_self _) ⟨ha0, ha.2⟩ ⟨hb0, hb.2⟩ (gcZ_abs a b)
    · skip
      rw [cmpZ_ge] at c17
      have hyb : -b = absZ b := by unfold absZ; rw [if_pos (by omega)]
      refine a_lload_n (pc := 20) (q := 2) (i := 2) (x := b) hC (by decide +kernel) rfl 2 rfl ?_
      refine a_lneg (pc := 21) hC (by decide +kernel) ?_
      refine a_goto (pc := 22) (off := 4) hC 26 (by decide +kernel) (by decide) ?_
      refine a_lstore (pc := 26) (q := 0) (i := 6) (lv' := [(6, vl (-b)), (4, vl (-a)), (0, vl a), (2, vl b)]) hC (by decide +kernel) (by decide) rfl ?_
      have L28 : ∀ (fuel : Nat) (x : Int) (y : Int), y.toNat < fuel → (0 ≤ x ∧ inL x) → (0 ≤ y ∧ inL y) → gcZ x y = gcZ a b → AW X 10 0 0 28 [(6, vl y), (4, vl x), (0, vl a), (2, vl b)] [] (hp K G) := by
        intro fuel
        induction fuel with
        | zero => intro x y h; exact absurd h (Nat.not_lt_zero _)
        | succ fuel ih28 =>
          intro x y hm hx hy hg
          refine a_lload (pc := 28) (i := 6) (x := y) hC (by decide +kernel) 0 rfl ?_
          refine a_lconst (pc := 30) (c := 0) (z := 0) hC (by decide +kernel) rfl ?_
          refine a_lcmp (pc := 31) hC (by decide +kernel) hy.2 inL_0 ?_
          refine a_if_eq (pc := 32) (off := 21) hC 53 (by decide +kernel) (by decide) (cmpZ_in _ _) (fun c32 => ?_) (fun c32 => ?_)
          · skip
            rw [cmpZ_eq] at c32
            refine a_lload (pc := 53) (i := 4) (x := x) hC (by decide +kernel) 1 rfl ?_
            exact g_lret (pc := 55) hC hE (by decide +kernel) (by rw [← hg, c32, gcZ_0 hx.1]) rfl
          · skip
            rw [cmpZ_eq] at c32
            have htm := tmod_in hx.1 hy.1 c32
            refine a_lload (pc := 35) (i := 4) (x := x) hC (by decide +kernel) 1 rfl ?_
            refine a_lload (pc := 37) (i := 6) (x := y) hC (by decide +kernel) 0 rfl ?_
            refine a_lrem (pc := 39) hC (by decide +kernel) hx.2 hy.2 c32 ?_
            refine a_lstore (pc := 40) (q := 0) (i := 8) (lv' := [(8, vl (Int.tmod x y)), (6, vl y), (4, vl x), (0, vl a), (2, vl b)]) hC (by decide +kernel) (by decide) rfl ?_
            refine a_lload (pc := 42) (i := 6) (x := y) hC (by decide +kernel) 1 rfl ?_
            refine a_lstore (pc := 44) (q := 0) (i := 4) (lv' := [(4, vl y), (8, vl (Int.tmod x y)), (6, vl y), (0, vl a), (2, vl b)]) hC (by decide +kernel) (by decide) rfl ?_
            refine a_lload (pc := 46) (i := 8) (x := Int.tmod x y) hC (by decide +kernel) 1 rfl ?_
            refine a_lstore (pc := 48) (q := 0) (i := 6) (lv' := [(6, vl (Int.tmod x y)), (4, vl y), (8, vl (Int.tmod x y)), (0, vl a), (2, vl b)]) hC (by decide +kernel) (by decide) rfl ?_
            refine a_goto (pc := 50) (off := -22) hC 28 (by decide +kernel) (by decide) ?_
            refine a_sub (lv' := [(6, vl ((Int.tmod x y))), (4, vl y), (0, vl a), (2, vl b)]) [0, 1, 3, 4] rfl ?_
            exact ih28 y (Int.tmod x y) (by omega) hy ⟨htm.1, by have := hy.2; unfold inL at *; omega⟩ (by rw [gcZ_s hx.1 hy.1]; exact hg)
      refine a_sub (lv' := [(6, vl ((absZ b))), (4, vl ((absZ a))), (0, vl a), (2, vl b)]) [0, 1, 2, 3] (by rw [← hxa, ← hyb]; rfl) ?_
      exact L28 _ (absZ a) (absZ b) (Nat.lt_succ_self _) ⟨ha0, ha.2⟩ ⟨hb0, hb.2⟩ (gcZ_abs a b)

set_option maxRecDepth 100000 in
set_option maxHeartbeats 4000000 in
theorem ct_M_answer (l : Launch) (D : va_G) (K : K5) (G : GT) (x y : Int) (hx : inL x ∧ inL (absZ x)) (hy : 1 ≤ y ∧ inL y) : Ct l D K y_M_answer c_M_answer 7 (some .int) 1 29 [.ref 50, vl x, vl y] G (some (vi 1)) (mansG G x y) := by
  refine Ct.intro (by decide +kernel) (Nat.le_of_ble_eq_true rfl) ?_
  intro X hro hty hC hE
  have hg := gcZ_in (a := x) hy.1
  have hgi : inL (gcZ x y) := by have := hy.2; unfold inL at *; omega
  refine a_lload_n (pc := 0) (q := 1) (i := 1) (x := x) hC (by decide +kernel) rfl 1 rfl ?_
  refine a_lload_n (pc := 1) (q := 3) (i := 3) (x := y) hC (by decide +kernel) rfl 2 rfl ?_
  refine g_callS (pc := 2) (idx := 65) (av := [vl x, vl y]) (rest := []) (g := G) (v := vl (gcZ x y)) hC hro hty (by decide +kernel) k_M_divisor (by decide +kernel) (by decide +kernel) (ct_M_divisor X.la X.dd K G x y hx ⟨hy.2, by unfold absZ; rw [if_neg (by omega)]; exact hy.2⟩) rfl rfl (by decide) (by first | decide | simp [Value.category]) ?_
  refine a_lstore (pc := 5) (q := 0) (i := 5) (lv' := [(5, vl (gcZ x y)), (0, .ref 50), (1, vl x), (3, vl y)]) hC (by decide +kernel) (by decide) rfl ?_
  refine a_aload_n (pc := 7) (q := 0) (i := 0) (x := 50) hC (by decide +kernel) rfl 1 rfl ?_
  refine a_lload_n (pc := 8) (q := 1) (i := 1) (x := x) hC (by decide +kernel) rfl 2 rfl ?_
  refine a_lload (pc := 9) (i := 5) (x := gcZ x y) hC (by decide +kernel) 0 rfl ?_
  refine a_ldiv (pc := 11) hC (by decide +kernel) hx.1 hgi (by omega) ?_
  refine g_put (pc := 12) (idx := 69) (ci := 6) (x := Int.tdiv x (gcZ x y)) hC 50 9 (by decide +kernel) rfl rfl (congrArg (fun z => vl z) (up_s _ _ _)) rfl wrM (by decide) rfl (by decide +kernel) rfl (ok_long _) ?_
  refine a_aload_n (pc := 15) (q := 0) (i := 0) (x := 50) hC (by decide +kernel) rfl 1 rfl ?_
  refine a_lload_n (pc := 16) (q := 3) (i := 3) (x := y) hC (by decide +kernel) rfl 3 rfl ?_
  refine a_lload (pc := 17) (i := 5) (x := gcZ x y) hC (by decide +kernel) 0 rfl ?_
  refine a_ldiv (pc := 19) hC (by decide +kernel) hy.2 hgi (by omega) ?_
  refine g_put (pc := 20) (idx := 33) (ci := 6) (x := Int.tdiv y (gcZ x y)) hC 50 10 (by decide +kernel) rfl rfl (congrArg (fun z => vl z) (up_s _ _ _)) rfl wrM (by decide) rfl (by decide +kernel) rfl (ok_long _) ?_
  refine a_iconst (pc := 23) (c := 1) hC (by decide +kernel) ?_
  exact g_iret (pc := 24) hC hE (by decide +kernel) rfl (by rw [uG_s, uG_uG]; rfl)

set_option maxRecDepth 100000 in
set_option maxHeartbeats 4000000 in
theorem ct_M_isState (l : Launch) (D : va_G) (K : K5) (G : GT) (N : Nat) (s : Int) (hs : inI s) (hmm : MM G N) : Ct l D K y_M_isState c_M_isState 2 (some .boolean) 1 25 [.ref 50, vi s] G (some (vi (mS G s))) G := by
  refine Ct.intro (by decide +kernel) (Nat.le_of_ble_eq_true rfl) ?_
  intro X hro hty hC hE
  obtain ⟨hn, hN5, hsh, hac, hpa, hwe, hth, hch⟩ := id hmm
  unfold inI at hs
  refine a_iload_n (pc := 0) (q := 1) (i := 1) (x := s) hC (by decide +kernel) rfl 1 rfl ?_
  refine a_i2l (pc := 1) hC (by decide +kernel) (by unfold inI; omega) ?_
  refine a_lconst (pc := 2) (c := 0) (z := 0) hC (by decide +kernel) rfl ?_
  refine a_aload_n (pc := 3) (q := 0) (i := 0) (x := 50) hC (by decide +kernel) rfl 0 rfl ?_
  refine g_get (pc := 4) (idx := 72) (ci := 6) (v := vi (G 50 1)) hC 50 1 (by decide +kernel) rfl rfl rfl rfl wrM (by decide) rfl (by decide +kernel) ?_
  refine a_iconst (pc := 7) (c := 1) hC (by decide +kernel) ?_
  refine a_isub (pc := 8) hC (by decide +kernel) ?_
  refine a_i2l (pc := 9) hC (by decide +kernel) (by unfold inI; omega) ?_
  refine g_callS (pc := 10) (idx := 75) (av := [vl s, vl 0, vl ((G 50 1) - 1)]) (rest := []) (g := G) (v := vi (inZ s 0 ((G 50 1) - 1))) hC hro hty (by decide +kernel) k_M_in (by decide +kernel) (by decide +kernel) (ct_M_in X.la X.dd K G s 0 ((G 50 1) - 1) (by unfold inL; omega) (by unfold inL; omega) (by unfold inL; omega)) rfl rfl (by decide) (by first | decide | simp [Value.category]) ?_
  exact g_zret (pc := 13) hC hE (by decide +kernel) (inZ_01 _ _ _) rfl rfl

set_option maxRecDepth 100000 in
set_option maxHeartbeats 4000000 in
theorem ct_M_isAct (l : Launch) (D : va_G) (K : K5) (G : GT) (N : Nat) (s a : Int) (hs : inI s) (ha : inI a) (hmm : MM G N) : Ct l D K y_M_isAct c_M_isAct 3 (some .boolean) 2 46 [.ref 50, vi s, vi a] G (some (vi (mA G s a))) G := by
  refine Ct.intro (by decide +kernel) (Nat.le_of_ble_eq_true rfl) ?_
  intro X hro hty hC hE
  obtain ⟨hn, hN5, hsh, hac, hpa, hwe, hth, hch⟩ := id hmm
  unfold inI at hs ha
  have h01 := inZ_01 s 0 (G 50 1 - 1)
  refine a_aload_n (pc := 0) (q := 0) (i := 0) (x := 50) hC (by decide +kernel) rfl 0 rfl ?_
  refine a_iload_n (pc := 1) (q := 1) (i := 1) (x := s) hC (by decide +kernel) rfl 1 rfl ?_
  refine g_callV (pc := 2) (idx := 79) (i := 50) (av := [vi s]) (rest := []) (g := G) (v := vi (mS G s)) hC hro hty (by decide +kernel) rfl rfl k_M_isState (by decide +kernel) (by decide +kernel) (by decide +kernel) (ct_M_isState X.la X.dd K G N s hs hmm) rfl rfl (by decide) (by first | decide | simp [Value.category]) ?_
  refine a_if_eq (pc := 5) (off := 25) hC 30 (by decide +kernel) (by decide) (by unfold inI mS; omega) (fun c5 => ?_) (fun c5 => ?_)
  · skip
    have hx5 : ¬ mS G s = 1 := by omega
    refine a_iconst (pc := 30) (c := 0) hC (by decide +kernel) ?_
    exact g_zret (pc := 31) hC hE (by decide +kernel) (by omega) (by unfold mA; first | rw [if_neg (fun z => hx5 z.1)] | (rw [if_pos ⟨hx5, by rw [hq2]; omega⟩]) | (rw [if_neg (fun z => by rw [hq2] at z; omega)])) rfl
  · skip
    have hx5 : mS G s = 1 := by unfold mS at *; omega
    have hs2 : 0 ≤ s ∧ s < N := by unfold mS inZ at hx5; split at hx5 <;> omega
    obtain ⟨q, hq⟩ : ∃ q : Nat, s = (q : Int) := ⟨s.toNat, by omega⟩
    have hq2 : s.toNat = q := by omega
    have h3 := hac q (by omega)
    have h02 := inZ_01 a 0 (G 52 q - 1)
    refine a_iload_n (pc := 8) (q := 2) (i := 2) (x := a) hC (by decide +kernel) rfl 2 rfl ?_
    refine a_i2l (pc := 9) hC (by decide +kernel) (by unfold inI; omega) ?_
    refine a_lconst (pc := 10) (c := 0) (z := 0) hC (by decide +kernel) rfl ?_
    refine a_aload_n (pc := 11) (q := 0) (i := 0) (x := 50) hC (by decide +kernel) rfl 0 rfl ?_
    refine g_get (pc := 12) (idx := 13) (ci := 6) (v := .ref 52) hC 50 3 (by decide +kernel) rfl rfl rfl rfl wrM (by decide) rfl (by decide +kernel) ?_
    refine a_iload_n (pc := 15) (q := 1) (i := 1) (x := s) hC (by decide +kernel) rfl 1 rfl ?_
    refine g_top (y := ((q : Nat) : Int)) (by omega) ?_
    refine g_iald (pc := 16) (a := 52) (j := q) hC hty (by decide +kernel) rfl (by omega) (by first | decide | omega) ?_
    refine a_iconst (pc := 17) (c := 1) hC (by decide +kernel) ?_
    refine a_isub (pc := 18) hC (by decide +kernel) ?_
    refine a_i2l (pc := 19) hC (by decide +kernel) (by unfold inI; omega) ?_
    refine g_callS (pc := 20) (idx := 75) (av := [vl a, vl 0, vl ((G 52 q) - 1)]) (rest := []) (g := G) (v := vi (inZ a 0 ((G 52 q) - 1))) hC hro hty (by decide +kernel) k_M_in (by decide +kernel) (by decide +kernel) (ct_M_in X.la X.dd K G a 0 ((G 52 q) - 1) (by unfold inL; omega) (by unfold inL; omega) (by unfold inL; omega)) rfl rfl (by decide) (by first | decide | simp [Value.category]) ?_
    refine a_if_eq (pc := 23) (off := 7) hC 30 (by decide +kernel) (by decide) (by unfold inI; omega) (fun c23 => ?_) (fun c23 => ?_)
    · skip
      refine a_iconst (pc := 30) (c := 0) hC (by decide +kernel) ?_
      exact g_zret (pc := 31) hC hE (by decide +kernel) (by omega) (by unfold mA; first | rw [if_neg (fun z => hx5 z.1)] | (rw [if_pos ⟨hx5, by rw [hq2]; omega⟩]) | (rw [if_neg (fun z => by rw [hq2] at z; omega)])) rfl
    · skip
      refine a_iconst (pc := 26) (c := 1) hC (by decide +kernel) ?_
      refine a_goto (pc := 27) (off := 4) hC 31 (by decide +kernel) (by decide) ?_
      exact g_zret (pc := 31) hC hE (by decide +kernel) (by omega) (by unfold mA; first | rw [if_neg (fun z => hx5 z.1)] | (rw [if_pos ⟨hx5, by rw [hq2]; omega⟩]) | (rw [if_neg (fun z => by rw [hq2] at z; omega)])) rfl

set_option maxRecDepth 100000 in
set_option maxHeartbeats 4000000 in
theorem ct_M_weightOf (l : Launch) (D : va_G) (K : K5) (G : GT) (s a t : Nat) (hs : s < 5) (ha : a < 3) (ht : t < 5) : Ct l D K y_M_weightOf c_M_weightOf 4 (some .int) 0 0 [.ref 50, vi ((s : Int)), vi ((a : Int)), vi ((t : Int))] G (some (vi (G 54 (wIx s a t)))) G := by
  refine Ct.intro (by decide +kernel) (Nat.le_of_ble_eq_true rfl) ?_
  intro X hro hty hC hE
  refine a_aload_n (pc := 0) (q := 0) (i := 0) (x := 50) hC (by decide +kernel) rfl 0 rfl ?_
  refine g_get (pc := 1) (idx := 20) (ci := 6) (v := .ref 54) hC 50 5 (by decide +kernel) rfl rfl rfl rfl wrM (by decide) rfl (by decide +kernel) ?_
  refine a_bipush (pc := 4) (c := 15) hC (by decide +kernel) (by decide +kernel) ?_
  refine a_iload_n (pc := 6) (q := 1) (i := 1) (x := (s : Int)) hC (by decide +kernel) rfl 1 rfl ?_
  refine a_imul (pc := 7) hC (by decide +kernel) ?_
  refine a_iconst (pc := 8) (c := 5) hC (by decide +kernel) ?_
  refine a_iload_n (pc := 9) (q := 2) (i := 2) (x := (a : Int)) hC (by decide +kernel) rfl 2 rfl ?_
  refine a_imul (pc := 10) hC (by decide +kernel) ?_
  refine a_iadd (pc := 11) hC (by decide +kernel) ?_
  refine a_iload_n (pc := 12) (q := 3) (i := 3) (x := (t : Int)) hC (by decide +kernel) rfl 3 rfl ?_
  refine a_iadd (pc := 13) hC (by decide +kernel) ?_
  refine g_top (y := ((wIx s a t : Nat) : Int)) (by unfold wIx; omega) ?_
  refine g_iald (pc := 14) (a := 54) (j := wIx s a t) hC hty (by decide +kernel) rfl (by unfold wIx; omega) (by first | decide | omega) ?_
  exact g_iret (pc := 15) hC hE (by decide +kernel) rfl rfl

set_option maxRecDepth 100000 in
set_option maxHeartbeats 4000000 in
theorem ct_M_total (l : Launch) (D : va_G) (K : K5) (G : GT) (s a : Nat) (hs : s < 5) (ha : a < 3) : Ct l D K y_M_total c_M_total 5 (some .int) 1 23 [.ref 50, vi ((s : Int)), vi ((a : Int))] G (some (vi (totZ G s a 5))) G := by
  refine Ct.intro (by decide +kernel) (Nat.le_of_ble_eq_true rfl) ?_
  intro X hro hty hC hE
  refine a_iconst (pc := 0) (c := 0) hC (by decide +kernel) ?_
  refine a_istore_n (pc := 1) (q := 3) (i := 3) (lv' := [(3, vi 0), (0, .ref 50), (1, vi ((s : Int))), (2, vi ((a : Int)))]) hC (by decide +kernel) rfl (by decide) rfl ?_
  refine a_iconst (pc := 2) (c := 0) hC (by decide +kernel) ?_
  refine a_istore (pc := 3) (q := 0) (i := 4) (lv' := [(4, vi 0), (3, vi 0), (0, .ref 50), (1, vi ((s : Int))), (2, vi ((a : Int)))]) hC (by decide +kernel) (by decide) rfl ?_
  have L5 : ∀ (fuel : Nat) (t : Nat), 5 - t < fuel → t ≤ 5 → AW X 5 0 0 5 [(4, vi ((t : Int))), (3, vi (totZ G s a t)), (0, .ref 50), (1, vi ((s : Int))), (2, vi ((a : Int)))] [] (hp K G) := by
    intro fuel
    induction fuel with
    | zero => intro t h; exact absurd h (Nat.not_lt_zero _)
    | succ fuel ih5 =>
      intro t hm ht
      refine a_iload (pc := 5) (i := 4) (x := (t : Int)) hC (by decide +kernel) 0 rfl ?_
      refine a_iconst (pc := 7) (c := 5) hC (by decide +kernel) ?_
      refine a_icmp_ge (pc := 8) (off := 20) hC 28 (by decide +kernel) (by decide) (by unfold inI; omega) (by unfold inI; omega) (fun c8 => ?_) (fun c8 => ?_)
      · skip
        refine a_iload_n (pc := 28) (q := 3) (i := 3) (x := totZ G s a t) hC (by decide +kernel) rfl 1 rfl ?_
        exact g_iret (pc := 29) hC hE (by decide +kernel) (by rw [show t = 5 by omega]) rfl
      · skip
        refine a_iload_n (pc := 11) (q := 3) (i := 3) (x := totZ G s a t) hC (by decide +kernel) rfl 1 rfl ?_
        refine a_aload_n (pc := 12) (q := 0) (i := 0) (x := 50) hC (by decide +kernel) rfl 2 rfl ?_
        refine a_iload_n (pc := 13) (q := 1) (i := 1) (x := (s : Int)) hC (by decide +kernel) rfl 3 rfl ?_
        refine a_iload_n (pc := 14) (q := 2) (i := 2) (x := (a : Int)) hC (by decide +kernel) rfl 4 rfl ?_
        refine a_iload (pc := 15) (i := 4) (x := (t : Int)) hC (by decide +kernel) 0 rfl ?_
        refine g_callV (pc := 17) (idx := 83) (i := 50) (av := [vi ((s : Int)), vi ((a : Int)), vi ((t : Int))]) (rest := [vi (totZ G s a t)]) (g := G) (v := vi (G 54 (wIx s a t))) hC hro hty (by decide +kernel) rfl rfl k_M_weightOf (by decide +kernel) (by decide +kernel) (by decide +kernel) (ct_M_weightOf X.la X.dd K G s a t (by omega) (by omega) (by omega)) rfl rfl (by decide) (by first | decide | simp [Value.category]) ?_
        refine a_iadd (pc := 20) hC (by decide +kernel) ?_
        refine a_istore_n (pc := 21) (q := 3) (i := 3) (lv' := [(3, vi ((totZ G s a t) + (G 54 (wIx s a t)))), (4, vi ((t : Int))), (0, .ref 50), (1, vi ((s : Int))), (2, vi ((a : Int)))]) hC (by decide +kernel) rfl (by decide) rfl ?_
        refine a_iinc (pc := 22) (i := 4) (c := 1) (x := (t : Int)) (lv' := [(4, vi (((t : Int)) + 1)), (3, vi ((totZ G s a t) + (G 54 (wIx s a t)))), (0, .ref 50), (1, vi ((s : Int))), (2, vi ((a : Int)))]) hC (by decide +kernel) 1 rfl (by decide) rfl ?_
        refine a_goto (pc := 25) (off := -20) hC 5 (by decide +kernel) (by decide) ?_
        refine a_sub (lv' := [(4, vi (((t + 1) : Int))), (3, vi (totZ G s a (t + 1))), (0, .ref 50), (1, vi ((s : Int))), (2, vi ((a : Int)))]) [0, 1, 2, 3, 4] rfl ?_
        exact ih5 (t + 1) (by omega) (by omega)
  refine a_sub (lv' := [(4, vi ((0 : Int))), (3, vi (totZ G s a 0)), (0, .ref 50), (1, vi ((s : Int))), (2, vi ((a : Int)))]) [0, 1, 2, 3, 4] rfl ?_
  exact L5 _ 0 (Nat.lt_succ_self _) (by omega)

def mclr (G : GT) : GT := uG G 50 (up (up (up (up (up (up (G 50) 0 0) 1 0) 7 1) 8 2) 9 0) 10 1)
set_option maxRecDepth 100000 in
set_option maxHeartbeats 4000000 in
theorem ct_M_clear (l : Launch) (D : va_G) (K : K5) (G : GT)  : Ct l D K y_M_clear c_M_clear 1 none 0 0 [.ref 50] G none (mclr G) := by
  refine Ct.intro (by decide +kernel) (Nat.le_of_ble_eq_true rfl) ?_
  intro X hro hty hC hE
  refine a_aload_n (pc := 0) (q := 0) (i := 0) (x := 50) hC (by decide +kernel) rfl 0 rfl ?_
  refine a_iconst (pc := 1) (c := 0) hC (by decide +kernel) ?_
  refine g_put (pc := 2) (idx := 62) (ci := 6) (x := 0) hC 50 0 (by decide +kernel) rfl rfl (congrArg (fun z => vi z) (up_s _ _ _)) rfl wrM (by decide) rfl (by decide +kernel) rfl (ok_int _) ?_
  refine a_aload_n (pc := 5) (q := 0) (i := 0) (x := 50) hC (by decide +kernel) rfl 0 rfl ?_
  refine a_iconst (pc := 6) (c := 0) hC (by decide +kernel) ?_
  refine g_put (pc := 7) (idx := 72) (ci := 6) (x := 0) hC 50 1 (by decide +kernel) rfl rfl (congrArg (fun z => vi z) (up_s _ _ _)) rfl wrM (by decide) rfl (by decide +kernel) rfl (ok_int _) ?_
  refine a_aload_n (pc := 10) (q := 0) (i := 0) (x := 50) hC (by decide +kernel) rfl 0 rfl ?_
  refine a_iconst (pc := 11) (c := 1) hC (by decide +kernel) ?_
  refine g_put (pc := 12) (idx := 26) (ci := 6) (x := 1) hC 50 7 (by decide +kernel) rfl rfl (congrArg (fun z => vi z) (up_s _ _ _)) rfl wrM (by decide) rfl (by decide +kernel) rfl (ok_int _) ?_
  refine a_aload_n (pc := 15) (q := 0) (i := 0) (x := 50) hC (by decide +kernel) rfl 0 rfl ?_
  refine a_iconst (pc := 16) (c := 2) hC (by decide +kernel) ?_
  refine g_put (pc := 17) (idx := 30) (ci := 6) (x := 2) hC 50 8 (by decide +kernel) rfl rfl (congrArg (fun z => vi z) (up_s _ _ _)) rfl wrM (by decide) rfl (by decide +kernel) rfl (ok_int _) ?_
  refine a_aload_n (pc := 20) (q := 0) (i := 0) (x := 50) hC (by decide +kernel) rfl 0 rfl ?_
  refine a_lconst (pc := 21) (c := 0) (z := 0) hC (by decide +kernel) rfl ?_
  refine g_put (pc := 22) (idx := 69) (ci := 6) (x := 0) hC 50 9 (by decide +kernel) rfl rfl (congrArg (fun z => vl z) (up_s _ _ _)) rfl wrM (by decide) rfl (by decide +kernel) rfl (ok_long _) ?_
  refine a_aload_n (pc := 25) (q := 0) (i := 0) (x := 50) hC (by decide +kernel) rfl 0 rfl ?_
  refine a_lconst (pc := 26) (c := 1) (z := 1) hC (by decide +kernel) rfl ?_
  refine g_put (pc := 27) (idx := 33) (ci := 6) (x := 1) hC 50 10 (by decide +kernel) rfl rfl (congrArg (fun z => vl z) (up_s _ _ _)) rfl wrM (by decide) rfl (by decide +kernel) rfl (ok_long _) ?_
  exact g_vret (pc := 30) hC hE (by decide +kernel) (by simp only [uG_s, uG_uG]; rfl)

set_option maxRecDepth 100000 in
set_option maxHeartbeats 4000000 in
theorem ct_M_many (l : Launch) (D : va_G) (K : K5) (G : GT) (m : Nat) (h64 : m < 64) : Ct l D K y_M_many c_M_many 3 (some .int) 0 0 [vi ((m : Int))] G (some (vi (mnS m 5))) G := by
  refine Ct.intro (by decide +kernel) (Nat.le_of_ble_eq_true rfl) ?_
  intro X hro hty hC hE
  refine a_iconst (pc := 0) (c := 0) hC (by decide +kernel) ?_
  refine a_istore_n (pc := 1) (q := 1) (i := 1) (lv' := [(1, vi 0), (0, vi ((m : Int)))]) hC (by decide +kernel) rfl (by decide) rfl ?_
  refine a_iconst (pc := 2) (c := 0) hC (by decide +kernel) ?_
  refine a_istore_n (pc := 3) (q := 2) (i := 2) (lv' := [(2, vi 0), (1, vi 0), (0, vi ((m : Int)))]) hC (by decide +kernel) rfl (by decide) rfl ?_
  have L4 : ∀ (fuel : Nat) (k : Nat), 5 - k < fuel → k ≤ 5 → AW X 3 0 0 4 [(2, vi ((k : Int))), (1, vi (mnS m k)), (0, vi ((m : Int)))] [] (hp K G) := by
    intro fuel
    induction fuel with
    | zero => intro k h; exact absurd h (Nat.not_lt_zero _)
    | succ fuel ih4 =>
      intro k hm hk
      refine a_iload_n (pc := 4) (q := 2) (i := 2) (x := (k : Int)) hC (by decide +kernel) rfl 0 rfl ?_
      refine a_iconst (pc := 5) (c := 5) hC (by decide +kernel) ?_
      refine a_icmp_ge (pc := 6) (off := 17) hC 23 (by decide +kernel) (by decide) (by unfold inI; omega) (by unfold inI; omega) (fun c6 => ?_) (fun c6 => ?_)
      · skip
        refine a_iload_n (pc := 23) (q := 1) (i := 1) (x := mnS m k) hC (by decide +kernel) rfl 1 rfl ?_
        exact g_iret (pc := 24) hC hE (by decide +kernel) (by rw [show k = 5 by omega]) rfl
      · skip
        have hsl := sr_lt (k := k) h64
        have hb2 := bt2_in m k
        refine a_iload_n (pc := 9) (q := 1) (i := 1) (x := mnS m k) hC (by decide +kernel) rfl 1 rfl ?_
        refine a_iload_n (pc := 10) (q := 0) (i := 0) (x := (m : Int)) hC (by decide +kernel) rfl 2 rfl ?_
        refine a_iload_n (pc := 11) (q := 2) (i := 2) (x := (k : Int)) hC (by decide +kernel) rfl 0 rfl ?_
        refine a_ishr (pc := 12) (z := ((sr m k : Nat) : Int)) hC (by decide +kernel) (shr5 m h64 k (by omega)) ?_
        refine a_iconst (pc := 13) (c := 1) hC (by decide +kernel) ?_
        refine a_iand (pc := 14) (z := ((bt2 m k : Nat) : Int)) hC (by decide +kernel) (and1 _ hsl) ?_
        refine a_iadd (pc := 15) hC (by decide +kernel) ?_
        refine a_istore_n (pc := 16) (q := 1) (i := 1) (lv' := [(1, vi ((mnS m k) + (((bt2 m k : Nat) : Int)))), (2, vi ((k : Int))), (0, vi ((m : Int)))]) hC (by decide +kernel) rfl (by decide) rfl ?_
        refine a_iinc (pc := 17) (i := 2) (c := 1) (x := (k : Int)) (lv' := [(2, vi (((k : Int)) + 1)), (1, vi ((mnS m k) + (((bt2 m k : Nat) : Int)))), (0, vi ((m : Int)))]) hC (by decide +kernel) 1 rfl (by decide) rfl ?_
        refine a_goto (pc := 20) (off := -16) hC 4 (by decide +kernel) (by decide) ?_
        refine a_sub (lv' := [(2, vi (((k + 1) : Int))), (1, vi (mnS m (k + 1))), (0, vi ((m : Int)))]) [0, 1, 2] rfl ?_
        exact ih4 (k + 1) (by omega) (by omega)
  refine a_sub (lv' := [(2, vi ((0 : Int))), (1, vi (mnS m 0)), (0, vi ((m : Int)))]) [0, 1, 2] rfl ?_
  exact L4 _ 0 (Nat.lt_succ_self _) (by omega)

set_option maxRecDepth 100000 in
set_option maxHeartbeats 4000000 in
theorem ct_M_state_full (l : Launch) (D : va_G) (K : K5) (G : GT) (N : Nat) (t : Int) (hmm : MM G N) (hfull : N = 5) : Ct l D K y_M_state c_M_state 2 (some .int) 0 0 [.ref 50, vi t] G (some (vi (-4))) (m0 G) := by
  refine Ct.intro (by decide +kernel) (Nat.le_of_ble_eq_true rfl) ?_
  intro X hro hty hC hE
  obtain ⟨hn, hN5, hsh, hac, hpa, hwe, hth, hch⟩ := id hmm
  refine a_aload_n (pc := 0) (q := 0) (i := 0) (x := 50) hC (by decide +kernel) rfl 0 rfl ?_
  refine a_iconst (pc := 1) (c := 0) hC (by decide +kernel) ?_
  refine g_put (pc := 2) (idx := 62) (ci := 6) (x := 0) hC 50 0 (by decide +kernel) rfl rfl (congrArg (fun z => vi z) (up_s _ _ _)) rfl wrM (by decide) rfl (by decide +kernel) rfl (ok_int _) ?_
  refine g_G (G' := m0 G) rfl ?_
  refine a_aload_n (pc := 5) (q := 0) (i := 0) (x := 50) hC (by decide +kernel) rfl 0 rfl ?_
  refine g_get (pc := 6) (idx := 72) (ci := 6) (v := vi ((m0 G) 50 1)) hC 50 1 (by decide +kernel) rfl rfl rfl rfl wrM (by decide) rfl (by decide +kernel) ?_
  refine g_top (y := (N : Int)) (by rw [m0_k (by decide)]; exact hn) ?_
  refine a_iconst (pc := 9) (c := 5) hC (by decide +kernel) ?_
  refine a_icmp_ne (pc := 10) (off := 6) hC 16 (by decide +kernel) (by decide) (by unfold inI; omega) (by unfold inI; omega) (fun c10 => ?_) (fun c10 => ?_)
  · skip
    exact absurd (by omega) c10
  · skip
    refine a_bipush (pc := 13) (c := -4) hC (by decide +kernel) (by decide +kernel) ?_
    exact g_iret (pc := 15) hC hE (by decide +kernel) rfl rfl

def mstG (G : GT) (N : Nat) (t : Int) : GT := uG (uG (uG (uG (m0 G) 51 (up (G 51) N t)) 52 (up (G 52) N 0)) 55 (up (G 55) N 0)) 50 (up ((m0 G) 50) 1 ((N : Int) + 1))
set_option maxRecDepth 100000 in
set_option maxHeartbeats 4000000 in
theorem ct_M_state (l : Launch) (D : va_G) (K : K5) (G : GT) (N : Nat) (t : Int) (ht : t = 0 ∨ t = 1) (hmm : MM G N) (hfull : N < 5) : Ct l D K y_M_state c_M_state 2 (some .int) 0 0 [.ref 50, vi t] G (some (vi ((N : Int)))) (mstG G N t) := by
  refine Ct.intro (by decide +kernel) (Nat.le_of_ble_eq_true rfl) ?_
  intro X hro hty hC hE
  obtain ⟨hn, hN5, hsh, hac, hpa, hwe, hth, hch⟩ := id hmm
  refine a_aload_n (pc := 0) (q := 0) (i := 0) (x := 50) hC (by decide +kernel) rfl 0 rfl ?_
  refine a_iconst (pc := 1) (c := 0) hC (by decide +kernel) ?_
  refine g_put (pc := 2) (idx := 62) (ci := 6) (x := 0) hC 50 0 (by decide +kernel) rfl rfl (congrArg (fun z => vi z) (up_s _ _ _)) rfl wrM (by decide) rfl (by decide +kernel) rfl (ok_int _) ?_
  refine g_G (G' := m0 G) rfl ?_
  refine a_aload_n (pc := 5) (q := 0) (i := 0) (x := 50) hC (by decide +kernel) rfl 0 rfl ?_
  refine g_get (pc := 6) (idx := 72) (ci := 6) (v := vi ((m0 G) 50 1)) hC 50 1 (by decide +kernel) rfl rfl rfl rfl wrM (by decide) rfl (by decide +kernel) ?_
  refine g_top (y := (N : Int)) (by first | (rw [m0_k (by decide)]; exact hn) | (rw [uG_n _ _ (by decide), m0_k (by decide)]; exact hn) | (rw [uG_n _ _ (by decide), uG_n _ _ (by decide), m0_k (by decide)]; exact hn) | (rw [uG_n _ _ (by decide), uG_n _ _ (by decide), uG_n _ _ (by decide), m0_k (by decide)]; exact hn)) ?_
  refine a_iconst (pc := 9) (c := 5) hC (by decide +kernel) ?_
  refine a_icmp_ne (pc := 10) (off := 6) hC 16 (by decide +kernel) (by decide) (by unfold inI; omega) (by unfold inI; omega) (fun c10 => ?_) (fun c10 => ?_)
  · skip
    refine a_aload_n (pc := 16) (q := 0) (i := 0) (x := 50) hC (by decide +kernel) rfl 0 rfl ?_
    refine g_get (pc := 17) (idx := 7) (ci := 6) (v := .ref 51) hC 50 2 (by decide +kernel) rfl rfl rfl rfl wrM (by decide) rfl (by decide +kernel) ?_
    refine a_aload_n (pc := 20) (q := 0) (i := 0) (x := 50) hC (by decide +kernel) rfl 0 rfl ?_
    refine g_get (pc := 21) (idx := 72) (ci := 6) (v := vi ((m0 G) 50 1)) hC 50 1 (by decide +kernel) rfl rfl rfl rfl wrM (by decide) rfl (by decide +kernel) ?_
    refine g_top (y := (N : Int)) (by first | (rw [m0_k (by decide)]; exact hn) | (rw [uG_n _ _ (by decide), m0_k (by decide)]; exact hn) | (rw [uG_n _ _ (by decide), uG_n _ _ (by decide), m0_k (by decide)]; exact hn) | (rw [uG_n _ _ (by decide), uG_n _ _ (by decide), uG_n _ _ (by decide), m0_k (by decide)]; exact hn)) ?_
    refine a_iload_n (pc := 24) (q := 1) (i := 1) (x := t) hC (by decide +kernel) rfl 1 rfl ?_
    refine g_zast (pc := 25) (a := 51) (j := N) (x := t) hC hty ht (by decide +kernel) rfl (by omega) (by first | decide | omega) ?_
    refine a_aload_n (pc := 26) (q := 0) (i := 0) (x := 50) hC (by decide +kernel) rfl 0 rfl ?_
    refine g_get (pc := 27) (idx := 13) (ci := 6) (v := .ref 52) hC 50 3 (by decide +kernel) rfl rfl rfl rfl wrM (by decide) rfl (by decide +kernel) ?_
    refine a_aload_n (pc := 30) (q := 0) (i := 0) (x := 50) hC (by decide +kernel) rfl 0 rfl ?_
    refine g_get (pc := 31) (idx := 72) (ci := 6) (v := vi ((uG (m0 G) 51 (up ((m0 G) 51) N t)) 50 1)) hC 50 1 (by decide +kernel) rfl rfl rfl rfl wrM (by decide) rfl (by decide +kernel) ?_
    refine g_top (y := (N : Int)) (by first | (rw [m0_k (by decide)]; exact hn) | (rw [uG_n _ _ (by decide), m0_k (by decide)]; exact hn) | (rw [uG_n _ _ (by decide), uG_n _ _ (by decide), m0_k (by decide)]; exact hn) | (rw [uG_n _ _ (by decide), uG_n _ _ (by decide), uG_n _ _ (by decide), m0_k (by decide)]; exact hn)) ?_
    refine a_iconst (pc := 34) (c := 0) hC (by decide +kernel) ?_
    refine g_iast (pc := 35) (a := 52) (j := N) (x := 0) hC hty (by decide +kernel) rfl (by omega) (by first | decide | omega) ?_
    refine a_aload_n (pc := 36) (q := 0) (i := 0) (x := 50) hC (by decide +kernel) rfl 0 rfl ?_
    refine g_get (pc := 37) (idx := 23) (ci := 6) (v := .ref 55) hC 50 6 (by decide +kernel) rfl rfl rfl rfl wrM (by decide) rfl (by decide +kernel) ?_
    refine a_aload_n (pc := 40) (q := 0) (i := 0) (x := 50) hC (by decide +kernel) rfl 0 rfl ?_
    refine g_get (pc := 41) (idx := 72) (ci := 6) (v := vi ((uG (uG (m0 G) 51 (up ((m0 G) 51) N t)) 52 (up ((uG (m0 G) 51 (up ((m0 G) 51) N t)) 52) N 0)) 50 1)) hC 50 1 (by decide +kernel) rfl rfl rfl rfl wrM (by decide) rfl (by decide +kernel) ?_
    refine g_top (y := (N : Int)) (by first | (rw [m0_k (by decide)]; exact hn) | (rw [uG_n _ _ (by decide), m0_k (by decide)]; exact hn) | (rw [uG_n _ _ (by decide), uG_n _ _ (by decide), m0_k (by decide)]; exact hn) | (rw [uG_n _ _ (by decide), uG_n _ _ (by decide), uG_n _ _ (by decide), m0_k (by decide)]; exact hn)) ?_
    refine a_iconst (pc := 44) (c := 0) hC (by decide +kernel) ?_
    refine g_iast (pc := 45) (a := 55) (j := N) (x := 0) hC hty (by decide +kernel) rfl (by omega) (by first | decide | omega) ?_
    refine a_aload_n (pc := 46) (q := 0) (i := 0) (x := 50) hC (by decide +kernel) rfl 0 rfl ?_
    refine a_dup (pc := 47) hC (by decide +kernel) rfl ?_
    refine g_get (pc := 48) (idx := 72) (ci := 6) (v := vi ((uG (uG (uG (m0 G) 51 (up ((m0 G) 51) N t)) 52 (up ((uG (m0 G) 51 (up ((m0 G) 51) N t)) 52) N 0)) 55 (up ((uG (uG (m0 G) 51 (up ((m0 G) 51) N t)) 52 (up ((uG (m0 G) 51 (up ((m0 G) 51) N t)) 52) N 0)) 55) N 0)) 50 1)) hC 50 1 (by decide +kernel) rfl rfl rfl rfl wrM (by decide) rfl (by decide +kernel) ?_
    refine g_top (y := (N : Int)) (by first | (rw [m0_k (by decide)]; exact hn) | (rw [uG_n _ _ (by decide), m0_k (by decide)]; exact hn) | (rw [uG_n _ _ (by decide), uG_n _ _ (by decide), m0_k (by decide)]; exact hn) | (rw [uG_n _ _ (by decide), uG_n _ _ (by decide), uG_n _ _ (by decide), m0_k (by decide)]; exact hn)) ?_
    refine a_iconst (pc := 51) (c := 1) hC (by decide +kernel) ?_
    refine a_iadd (pc := 52) hC (by decide +kernel) ?_
    refine g_put (pc := 53) (idx := 72) (ci := 6) (x := ((N : Int)) + 1) hC 50 1 (by decide +kernel) rfl rfl (congrArg (fun z => vi z) (up_s _ _ _)) rfl wrM (by decide) rfl (by decide +kernel) rfl (ok_int _) ?_
    refine a_aload_n (pc := 56) (q := 0) (i := 0) (x := 50) hC (by decide +kernel) rfl 0 rfl ?_
    refine g_get (pc := 57) (idx := 72) (ci := 6) (v := vi ((uG (uG (uG (uG (m0 G) 51 (up ((m0 G) 51) N t)) 52 (up ((uG (m0 G) 51 (up ((m0 G) 51) N t)) 52) N 0)) 55 (up ((uG (uG (m0 G) 51 (up ((m0 G) 51) N t)) 52 (up ((uG (m0 G) 51 (up ((m0 G) 51) N t)) 52) N 0)) 55) N 0)) 50 (up ((uG (uG (uG (m0 G) 51 (up ((m0 G) 51) N t)) 52 (up ((uG (m0 G) 51 (up ((m0 G) 51) N t)) 52) N 0)) 55 (up ((uG (uG (m0 G) 51 (up ((m0 G) 51) N t)) 52 (up ((uG (m0 G) 51 (up ((m0 G) 51) N t)) 52) N 0)) 55) N 0)) 50) 1 (((N : Int)) + 1))) 50 1)) hC 50 1 (by decide +kernel) rfl rfl rfl rfl wrM (by decide) rfl (by decide +kernel) ?_
    refine g_top (y := (N : Int) + 1) (by rw [uG_s, up_s]) ?_
    refine a_iconst (pc := 60) (c := 1) hC (by decide +kernel) ?_
    refine a_isub (pc := 61) hC (by decide +kernel) ?_
    exact g_iret (pc := 62) hC hE (by decide +kernel) (by omega) rfl
  · skip
    exact absurd c10 (by omega)
