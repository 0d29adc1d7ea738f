/-! the reference's numbers of plans -/
def ac (G : GT) (s : Nat) : Nat := (G 52 s).toNat
def pn (G : GT) : Nat → Nat
  | 0 => 1
  | s + 1 => if ac G s = 0 then pn G s else pn G s * ac G s
theorem pn_pos (G : GT) : ∀ t, 0 < pn G t
  | 0 => by show 0 < 1; decide
  | t + 1 => by
    have := pn_pos G t
    unfold pn
    split
    · exact this
    · exact Nat.mul_pos this (by omega)
theorem ac_in {G : GT} {N : Nat} (h : MM G N) {s : Nat} (hs : s < 5) : ((ac G s : Nat) : Int) = G 52 s ∧ ac G s ≤ 3 := by
  have := h.2.2.2.1 s hs
  unfold ac; omega
theorem plS_pn {G : GT} {N : Nat} (h : MM G N) : ∀ t, t ≤ 5 → plS G t = (pn G t : Int)
  | 0, _ => rfl
  | t + 1, ht => by
    have h1 := ac_in h (show t < 5 by omega)
    have ih := plS_pn h t (by omega)
    unfold plS pn
    by_cases e : ac G t = 0
    · rw [if_pos e, if_pos (by omega), ih]
    · rw [if_neg e, if_neg (by omega), ih, ← h1.1, Int.natCast_mul]
theorem nPl_pn {G : GT} {N : Nat} (h : MM G N) : nPl G N = pn G N := by
  unfold nPl; rw [plS_pn h N h.2.1, Int.toNat_natCast]
theorem aiS_pn {G : GT} {N p : Nat} (h : MM G N) : ∀ t, t ≤ 5 → aiS G p t = ((p / pn G t : Nat) : Int)
  | 0, _ => by unfold aiS pn; rw [Nat.div_one]
  | t + 1, ht => by
    have h1 := ac_in h (show t < 5 by omega)
    have ih := aiS_pn (p := p) h t (by omega)
    unfold aiS pn
    by_cases e : ac G t = 0
    · rw [if_pos e, if_pos (by omega), ih]
    · rw [if_neg e, if_neg (by omega), ih, ← h1.1, show Int.tdiv ((p / pn G t : Nat) : Int) (ac G t : Int) = ((p / pn G t / ac G t : Nat) : Int) from rfl, Nat.div_div_eq_div_mul]
theorem fP_pn {G : GT} {N p s : Nat} (h : MM G N) (hs : s < 5) : (ac G s = 0 → actZ G p s = -1 ∧ fP G p s = 0) ∧ (ac G s ≠ 0 → actZ G p s = ((p / pn G s % ac G s : Nat) : Int) ∧ fP G p s = p / pn G s % ac G s) := by
  have h1 := ac_in h hs
  unfold fP actZ
  refine ⟨fun e => ?_, fun e => ?_⟩
  · rw [if_pos (by omega)]; exact ⟨rfl, rfl⟩
  · rw [if_neg (by omega), aiS_pn h s (by omega), ← h1.1, show Int.tmod ((p / pn G s : Nat) : Int) (ac G s : Int) = ((p / pn G s % ac G s : Nat) : Int) from rfl]
    exact ⟨rfl, Int.toNat_natCast _⟩
/-- the number of the plan g -/
def cdF (G : GT) (g : Nat → Nat) : Nat → Nat
  | 0 => 0
  | t + 1 => if ac G t = 0 then cdF G g t else cdF G g t + pn G t * g t
theorem cdF_lt {G : GT} {g : Nat → Nat} : ∀ t, (∀ s, s < t → ac G s ≠ 0 → g s < ac G s) → cdF G g t < pn G t
  | 0, _ => by show 0 < 1; decide
  | t + 1, h => by
    have ih := cdF_lt t (fun s hs => h s (by omega))
    show (if ac G t = 0 then cdF G g t else cdF G g t + pn G t * g t) < (if ac G t = 0 then pn G t else pn G t * ac G t)
    by_cases e : ac G t = 0
    · rw [if_pos e, if_pos e]; exact ih
    · rw [if_neg e, if_neg e]
      have h1 := h t (by omega) e
      have h2 : pn G t * (g t + 1) ≤ pn G t * ac G t := Nat.mul_le_mul_left _ h1
      rw [Nat.mul_add, Nat.mul_one] at h2
      omega
theorem pn_dvd {G : GT} {s : Nat} : ∀ t, s + 1 ≤ t → ac G s ≠ 0 → ∃ m, pn G t = pn G s * (ac G s * m)
  | 0, h, _ => by omega
  | t + 1, h, h0 => by
    by_cases e : s = t
    · subst e
      refine ⟨1, ?_⟩
      show (if ac G s = 0 then pn G s else pn G s * ac G s) = _
      rw [if_neg h0, Nat.mul_one]
    · obtain ⟨m, hm⟩ := pn_dvd t (by omega) h0
      show ∃ m, (if ac G t = 0 then pn G t else pn G t * ac G t) = _
      by_cases e2 : ac G t = 0
      · rw [if_pos e2]; exact ⟨m, hm⟩
      · rw [if_neg e2, hm]; exact ⟨m * ac G t, by rw [Nat.mul_assoc, Nat.mul_assoc]⟩
theorem dig_add {P a m c x : Nat} (hP : 0 < P) : (c + P * (a * m) * x) / P % a = c / P % a := by
  rw [show c + P * (a * m) * x = c + P * (a * (m * x)) by rw [Nat.mul_assoc, Nat.mul_assoc], Nat.add_mul_div_left _ _ hP, Nat.add_mul_mod_self_left]
theorem cdF_dig {G : GT} {g : Nat → Nat} {s : Nat} (h0 : ac G s ≠ 0) : ∀ t, (∀ s, s < t → ac G s ≠ 0 → g s < ac G s) → s < t → cdF G g t / pn G s % ac G s = g s
  | 0, _, h => by omega
  | t + 1, hg, h => by
    have hlt := cdF_lt (G := G) (g := g) t (fun s hs => hg s (by omega))
    unfold cdF
    by_cases e : s = t
    · subst e
      rw [if_neg h0, Nat.add_mul_div_left _ _ (pn_pos G s), Nat.div_eq_of_lt hlt, Nat.zero_add, Nat.mod_eq_of_lt (hg s (by omega) h0)]
    · have ih := cdF_dig h0 t (fun s hs => hg s (by omega)) (by omega)
      by_cases e2 : ac G t = 0
      · rw [if_pos e2]; exact ih
      · rw [if_neg e2]
        obtain ⟨m, hm⟩ := pn_dvd (G := G) (s := s) t (by omega) h0
        rw [hm, dig_add (pn_pos G s)]; exact ih
theorem Rel.vdP {G : GT} {N p s : Nat} (h : Rel G N) (hs : s < N) : vd G s (fP G p s) := by
  rcases h.act p hs with h1 | h1
  · exact Or.inr ⟨h1.2.2, h1.1⟩
  · exact Or.inl h1.2.2
theorem Rel.acP {G : GT} {N s : Nat} (h : Rel G N) (hs : s < N) : ((ac G s : Nat) : Int) = G 3 s := by
  rw [(ac_in h.2.1 (show s < 5 by have := h.1.2.1; omega)).1, (h.2.2.2.1 s hs).1]
/-- each choice of acts has its number -/
theorem Rel.code {G : GT} {N : Nat} {g : Nat → Nat} (h : Rel G N) (hg : ∀ s, s < N → vd G s (g s)) : cdF G g N < nPl G N ∧ ∀ s, s < N → fP G (cdF G g N) s = g s := by
  have hN := h.1.2.1
  have hv : ∀ s, s < N → ac G s ≠ 0 → g s < ac G s := fun s hs h0 => by
    have h1 := h.acP hs
    have h2 := hg s hs
    unfold vd at h2; omega
  refine ⟨by rw [nPl_pn h.2.1]; exact cdF_lt N hv, fun s hs => ?_⟩
  have h1 := fP_pn (p := cdF G g N) h.2.1 (show s < 5 by omega)
  by_cases e : ac G s = 0
  · rw [(h1.1 e).2]
    have h2 := h.acP hs
    have h3 := hg s hs
    unfold vd at h3; omega
  · rw [(h1.2 e).2]; exact cdF_dig e N hv hs
/-- the told plan's number, one act changed -/
theorem tpS_cd {G : GT} {N : Nat} (h : MM G N) {s a : Int} {g : Nat → Nat} (hg : ∀ t : Nat, t < N → ac G t ≠ 0 → (if (t : Int) = s then a else G 55 t) = (g t : Int)) : ∀ t, t ≤ N → tpS G s a t = ((cdF G g t : Int), (pn G t : Int))
  | 0, _ => rfl
  | t + 1, ht => by
    have hN := h.2.1
    have h1 := ac_in h (show t < 5 by omega)
    have ih := tpS_cd h hg t (by omega)
    show (if 0 < G 52 t then ((tpS G s a t).1 + (tpS G s a t).2 * (if (t : Int) = s then a else G 55 t), (tpS G s a t).2 * G 52 t) else tpS G s a t) = (((if ac G t = 0 then cdF G g t else cdF G g t + pn G t * g t : Nat) : Int), ((if ac G t = 0 then pn G t else pn G t * ac G t : Nat) : Int))
    rw [ih]
    by_cases e : ac G t = 0
    · rw [if_pos e, if_pos e, if_neg (by omega)]
    · rw [if_neg e, if_neg e, if_pos (by omega)]
      show ((cdF G g t : Int) + (pn G t : Int) * _, (pn G t : Int) * G 52 t) = _
      rw [hg t (by omega) e, ← h1.1, Int.natCast_add, Int.natCast_mul, Int.natCast_mul]
theorem tpN_cd {G : GT} {N : Nat} (h : MM G N) {s a : Int} {g : Nat → Nat} (hg : ∀ t : Nat, t < N → ac G t ≠ 0 → (if (t : Int) = s then a else G 55 t) = (g t : Int)) : tpN G N s a = cdF G g N := by
  unfold tpN; rw [tpS_cd h hg N (Nat.le_refl _)]; exact Int.toNat_natCast _
/-! counting -/
def cB (q : Nat → Bool) : Nat → Nat
  | 0 => 0
  | n + 1 => cB q n + (if q n = true then 1 else 0)
theorem cB_congr {q r : Nat → Bool} : ∀ {n : Nat}, (∀ c, c < n → q c = r c) → cB q n = cB r n
  | 0, _ => rfl
  | n + 1, h => by unfold cB; rw [cB_congr (fun c hc => h c (by omega)), h n (by omega)]
theorem cB_add (q : Nat → Bool) (m : Nat) : ∀ n, cB q (m + n) = cB q m + cB (fun i => q (m + i)) n
  | 0 => rfl
  | n + 1 => by
    show cB q (m + n) + _ = _ + (cB _ n + _)
    rw [cB_add q m n, Nat.add_assoc]; rfl
theorem cB_false : ∀ n, cB (fun _ => false) n = 0
  | 0 => rfl
  | n + 1 => by show cB _ n + 0 = 0; rw [cB_false n]
theorem cB_mul {q : Nat → Bool} {n c : Nat} {r : Nat → Bool} : ∀ a, (∀ x, x < a → cB (fun i => q (n * x + i)) n = if r x = true then c else 0) → cB q (n * a) = c * cB r a
  | 0, _ => rfl
  | a + 1, h => by
    rw [Nat.mul_add, Nat.mul_one, cB_add, cB_mul a (fun x hx => h x (by omega)), h a (by omega)]
    show _ = c * (cB r a + _)
    rw [Nat.mul_add]
    by_cases e : r a = true
    · rw [if_pos e, if_pos e, Nat.mul_one]
    · rw [if_neg e, if_neg e, Nat.mul_zero]
/-- all digits of p are among the marked ones -/
def okB (G : GT) (B : Nat → Nat → Bool) (p : Nat) : Nat → Bool
  | 0 => true
  | s + 1 => okB G B p s && (decide (ac G s = 0) || B s (p / pn G s % ac G s))
def prB (G : GT) (B : Nat → Nat → Bool) : Nat → Nat
  | 0 => 1
  | s + 1 => if ac G s = 0 then prB G B s else prB G B s * cB (B s) (ac G s)
theorem okB_hi {G : GT} {B : Nat → Nat → Bool} {n p x : Nat} : ∀ t, t ≤ n → okB G B (pn G n * x + p) t = okB G B p t
  | 0, _ => rfl
  | t + 1, h => by
    unfold okB
    rw [okB_hi t (by omega)]
    by_cases e : ac G t = 0
    · rw [decide_eq_true e]; simp
    · obtain ⟨m, hm⟩ := pn_dvd (G := G) (s := t) n h e
      rw [Nat.add_comm, hm, dig_add (pn_pos G t)]
theorem cnt_pr {G : GT} {B : Nat → Nat → Bool} : ∀ t, cB (fun p => okB G B p t) (pn G t) = prB G B t
  | 0 => rfl
  | t + 1 => by
    have ih := cnt_pr (G := G) (B := B) t
    unfold pn prB
    by_cases e : ac G t = 0
    · rw [if_pos e, if_pos e, ← ih]
      refine cB_congr (fun c _ => ?_)
      show (okB G B c t && (decide (ac G t = 0) || _)) = _
      rw [decide_eq_true e]; simp
    · rw [if_neg e, if_neg e]
      refine cB_mul (ac G t) (fun x hx => ?_)
      have e2 : ∀ i, i < pn G t → okB G B (pn G t * x + i) (t + 1) = (okB G B i t && B t x) := fun i hi => by
        show (okB G B (pn G t * x + i) t && (decide (ac G t = 0) || B t ((pn G t * x + i) / pn G t % ac G t))) = _
        rw [okB_hi t (Nat.le_refl _), decide_eq_false e, Bool.false_or, Nat.add_comm, Nat.add_mul_div_left _ _ (pn_pos G t), Nat.div_eq_of_lt hi, Nat.zero_add, Nat.mod_eq_of_lt hx]
      rw [cB_congr e2]
      by_cases e3 : B t x = true
      · rw [if_pos e3, ← ih]
        exact cB_congr (fun c _ => by rw [e3, Bool.and_true])
      · rw [if_neg e3, ← cB_false (pn G t)]
        exact cB_congr (fun c _ => by rw [Bool.eq_false_iff.2 e3, Bool.and_false])
