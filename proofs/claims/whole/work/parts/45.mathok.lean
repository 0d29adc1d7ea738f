/-! a plan's equations: nothing outgrows a long -/
theorem sumZ_le_one {f : Nat → Int} {s : Nat} : ∀ {n : Nat}, s < n → (∀ t, t < n → f t ≤ 0) → sumZ f n ≤ f s
  | n, hs, h => by
    rw [sumZ_pick hs]
    have h1 : sumZ (fun t => if t = s then 0 else f t) n ≤ sumZ (fun _ => 0) n := sumZ_le (fun t ht => by
      show (if t = s then 0 else f t) ≤ 0
      split
      · exact Int.le_refl _
      · exact h t ht)
    rw [sumZ_0 (f := fun _ => 0) (fun _ _ => rfl)] at h1
    omega
theorem sumZ_abs {f : Nat → Int} {M : Int} : ∀ {n : Nat}, (∀ t, t < n → -M ≤ f t ∧ f t ≤ M) → -((n : Int) * M) ≤ sumZ f n ∧ sumZ f n ≤ (n : Int) * M
  | 0, _ => by show -((0 : Int) * M) ≤ 0 ∧ 0 ≤ (0 : Int) * M; omega
  | n + 1, h => by
    have h1 := sumZ_abs (fun t (ht : t < n) => h t (by omega))
    have h2 := h n (by omega)
    have h3 : ((n + 1 : Nat) : Int) * M = (n : Int) * M + M := by rw [Int.natCast_add]; show ((n : Int) + 1) * M = _; rw [Int.add_mul, Int.one_mul]
    show -(((n + 1 : Nat) : Int) * M) ≤ sumZ f n + f n ∧ sumZ f n + f n ≤ ((n + 1 : Nat) : Int) * M
    rw [h3]; omega
theorem PM.rest {A : Nat → Nat → Int} {N r : Nat} (h : PM A N) (hr : r < N) : -35 ≤ sumZ (fun t => if t = r then 0 else A t r) N ∧ sumZ (fun t => if t = r then 0 else A t r) N ≤ 0 ∧ sumZ (fun t => A t r) N = A r r + sumZ (fun t => if t = r then 0 else A t r) N := by
  have h1 := h r hr
  have h2 : sumZ (fun t => A t r) N = A r r + sumZ (fun t => if t = r then 0 else A t r) N := sumZ_pick (f := fun t => A t r) hr
  have h3 : sumZ (fun t => if t = r then 0 else A t r) N ≤ sumZ (fun _ => 0) N := sumZ_le (fun t ht => by
    show (if t = r then 0 else A t r) ≤ 0
    by_cases e : t = r
    · rw [if_pos e]; exact Int.le_refl _
    · rw [if_neg e]; exact h1.1 t ht e)
  rw [sumZ_0 (f := fun _ => 0) (fun _ _ => rfl)] at h3
  exact ⟨by have := h1.2.1; have := h1.2.2.1; omega, h3, h2⟩
theorem PM.off {A : Nat → Nat → Int} {N r t : Nat} (h : PM A N) (hr : r < N) (ht : t < N) (hne : t ≠ r) : -35 ≤ A t r := by
  have h1 := h.rest hr
  have h2 : sumZ (fun t => if t = r then 0 else A t r) N ≤ (if t = r then 0 else A t r) := sumZ_le_one (f := fun t => if t = r then 0 else A t r) ht (fun t ht => by
    show (if t = r then 0 else A t r) ≤ 0
    by_cases e : t = r
    · rw [if_pos e]; exact Int.le_refl _
    · rw [if_neg e]; exact (h r hr).1 t ht e)
  rw [if_neg hne] at h2
  omega
theorem PM.low {A : Nat → Nat → Int} {N p r : Nat} (h : PM A N) (hr : r < N) (hp : p ≤ r) : -35 ≤ sumZ (fun t => A t r) p ∧ sumZ (fun t => A t r) p ≤ 0 := by
  have h1 := h.rest hr
  have h2 := sum_lead (r := r) (f := fun t => if t = r then 0 else A t r) (k := p) (n := N) (by omega) (fun t _ ht => by
    show (if t = r then 0 else A t r) ≤ 0
    by_cases e : t = r
    · rw [if_pos e]; exact Int.le_refl _
    · rw [if_neg e]; exact (h r hr).1 t ht e)
  rw [sumZ_congr (f := fun t => if t = r then 0 else A t r) (g := fun t => A t r) (n := p) (fun t ht => if_neg (by omega))] at h2
  have h3 : sumZ (fun t => A t r) p ≤ sumZ (fun _ => 0) p := sumZ_le (fun t ht => (h r hr).1 t (by omega) (by omega))
  rw [sumZ_0 (f := fun _ => 0) (fun _ _ => rfl)] at h3
  omega
theorem PM.col {A : Nat → Nat → Int} {N r c : Nat} (h : PM A N) (hz : ∀ c r, N ≤ c → c < 5 → r < N → A c r = 0) (hr : r < N) (hc : c ≤ 5) : -10800 ≤ A c r ∧ A c r ≤ 10800 := by
  have h1 := h.rest hr
  have h2 := h r hr
  by_cases e5 : c = 5
  · subst e5; omega
  by_cases eN : c < N
  · by_cases er : c = r
    · subst er; omega
    · have := h.off hr eN er
      have := h2.1 c eN er
      omega
  · rw [hz c r (by omega) (by omega) hr]; omega
theorem PM.col2 {A : Nat → Nat → Int} {N p r c : Nat} (h : PM A N) (hz : ∀ c r, N ≤ c → c < 5 → r < N → A c r = 0) (hp : p ≤ N) (hr : r < p) (hc : p ≤ c) (h5 : c ≤ 5) : -(300 * sumZ (fun t => A t r) p) ≤ A c r ∧ A c r ≤ 300 * sumZ (fun t => A t r) p := by
  have h2 := h r (by omega)
  have h3 := h.lead hp hr
  by_cases e5 : c = 5
  · subst e5; omega
  by_cases eN : c < N
  · have := h.off (show r < N by omega) eN (by omega)
    have := h2.1 c eN (by omega)
    omega
  · rw [hz c r (by omega) (by omega) (by omega)]; omega
theorem pow36 {p : Nat} (h : p ≤ 4) : (36 : Int) ^ p ≤ 1679616 := by
  rcases (by omega : p = 0 ∨ p = 1 ∨ p = 2 ∨ p = 3 ∨ p = 4) with rfl | rfl | rfl | rfl | rfl <;> decide
theorem pow36' {p : Nat} (h : p ≤ 5) : (36 : Int) ^ p ≤ 60466176 := by
  rcases (by omega : p = 0 ∨ p = 1 ∨ p = 2 ∨ p = 3 ∨ p = 4 ∨ p = 5) with rfl | rfl | rfl | rfl | rfl | rfl <;> decide
theorem PM.ent {A : Nat → Nat → Int} {N p r c : Nat} (h : PM A N) (hN : N ≤ 5) (hz : ∀ c r, N ≤ c → c < 5 → r < N → A c r = 0) (hp : p ≤ N) (hr : r < N) (hc : p ≤ c) (h5 : c ≤ 5) : -35775820800 ≤ entE A p r c ∧ entE A p r c ≤ 35775820800 := by
  have hP := det_pos0 (h.pos hN p hp)
  have hU := h.up hN p hp
  have hY := fun t (ht : t < p) => h.bnd hN hp (b := A c) (M := 300) (fun r hr => h.col2 hz hp hr hc h5) ht
  by_cases l : r < p
  · rw [entE_lo l]
    have h1 := hY r l
    have h2 := pow36' (show p ≤ 5 by omega)
    omega
  · rw [entE_hi (by omega)]
    have h2 := pow36 (show p ≤ 4 by omega)
    have h3 := h.low hr (show p ≤ r by omega)
    have h4 := h.col hz hr h5
    have s1 : (300 * det p A) * sumZ (fun t => A t r) p ≤ sumZ (fun t => A t r * det p (ud A t (A c))) p := by
      rw [← sumZ_mul]
      refine sumZ_le (fun t ht => ?_)
      have a1 := (h r hr).1 t (by omega) (by omega)
      have a2 : A t r * (300 * det p A) ≤ A t r * det p (ud A t (A c)) := Int.mul_le_mul_of_nonpos_left a1 (hY t ht).2
      rw [Int.mul_comm]; exact a2
    have s2 : sumZ (fun t => A t r * det p (ud A t (A c))) p ≤ (-(300 * det p A)) * sumZ (fun t => A t r) p := by
      rw [← sumZ_mul]
      refine sumZ_le (fun t ht => ?_)
      have a1 := (h r hr).1 t (by omega) (by omega)
      have a2 : A t r * det p (ud A t (A c)) ≤ A t r * -(300 * det p A) := Int.mul_le_mul_of_nonpos_left a1 (hY t ht).1
      rw [Int.mul_comm (-(300 * det p A))]; exact a2
    have s3 : (300 * det p A) * (-35) ≤ (300 * det p A) * sumZ (fun t => A t r) p := Int.mul_le_mul_of_nonneg_left h3.1 (by omega)
    have s4 : (-(300 * det p A)) * sumZ (fun t => A t r) p ≤ (-(300 * det p A)) * (-35) := Int.mul_le_mul_of_nonpos_left (by omega) h3.1
    have s5 : det p A * (-10800) ≤ det p A * A c r := Int.mul_le_mul_of_nonneg_left h4.1 (by omega)
    have s6 : det p A * A c r ≤ det p A * 10800 := Int.mul_le_mul_of_nonneg_left h4.2 (by omega)
    omega
theorem PM.sol {G : GT} {eo N : Nat} (h : PM (colA G eo) N) (hN : N ≤ 5) (hz : ∀ c r, N ≤ c → c < 5 → r < N → colA G eo c r = 0) : SolOk G eo N :=
  sol_ok (K1 := 60466176) (K2 := 35775820800) hN (h.pos hN N (Nat.le_refl _)) (fun p hp => by have := h.up hN p hp; have := pow36' (show p ≤ 5 by omega); omega) (fun p r c hp hr hc h5 => h.ent hN hz hp hr hc h5) (by decide) (by decide)
/-- the equations of the plan f: column c, row r; the right column is 5 -/
def plA (G : GT) (f : Nat → Nat) (c r : Nat) : Int := if c = 5 then scaleZ G (r * 3 + f r) * G 4 (r * 3 + f r) else (if c = r then scaleZ G (r * 3 + f r) else 0) - G 1 1 * G (7 + (r * 3 + f r)) c
def plN (G : GT) (pl : Nat) : Nat → Nat := fun s => (G pl s).toNat
theorem fol_row {G : GT} {pl N c r : Nat} (hw : WW G N) (hp : PlOk G pl N) (hr : r < N) (hc : c ≤ 5) : colA (folG G pl N N) 23 c r = plA G (plN G pl) c r := by
  have hN := hw.2.1
  have hq : slotN G pl r = r * 3 + plN G pl r := rfl
  have h2 := hp.2 r hr
  have hq15 : r * 3 + plN G pl r < 15 := by unfold plN; omega
  show folG G pl N N (25 + r) c = _
  unfold folG
  rw [if_pos (by omega), show 25 + r - 25 = r by omega, hq]
  unfold plA rowF
  by_cases e5 : c = 5
  · subst e5; rw [up_s, if_pos rfl]
  · rw [up_n _ _ e5, if_neg e5]
    have e1 : rowW G (r * 3 + plN G pl r) N (clrG G 25 5 6 (25 + r)) c = -(G 1 1 * G (7 + (r * 3 + plN G pl r)) c) := by
      unfold rowW
      by_cases l : c < N
      · rw [if_pos l, Int.neg_mul]
      · rw [if_neg l, (hw.2.2.1.2.2.2 _ hq15).2 c (by omega) (by omega)]
        unfold clrG
        rw [if_pos (by omega)]
        show (if c < 6 then 0 else G (25 + r) c) = _
        rw [if_pos (by omega)]; omega
    by_cases er : c = r
    · subst er; rw [up_s, e1, if_pos rfl]; omega
    · rw [up_n _ _ er, e1, if_neg er]; omega
theorem plA_sum {G : GT} {f : Nat → Nat} {N r : Nat} (hw : WW G N) (hr : r < N) (hf : f r ≤ 2) : sumZ (fun t => plA G f t r) N = scaleZ G (r * 3 + f r) - G 1 1 * G 5 (r * 3 + f r) := by
  have hN := hw.2.1
  rw [sumZ_congr (g := fun t => (if t = r then scaleZ G (r * 3 + f r) else 0) - G 1 1 * G (7 + (r * 3 + f r)) t) (fun t ht => by show plA G f t r = _; unfold plA; rw [if_neg (by omega)]), sumZ_sub, sumZ_mul, (hw.2.2.1.2.2.2 (r * 3 + f r) (by omega)).1, sumZ_one hr (fun t _ hne => if_neg hne), if_pos rfl]
theorem scale_in {u d T y w : Int} (hu : 0 ≤ u) (hd : u < d) (h6 : d ≤ 6) (hT : 0 ≤ T) (hT6 : T ≤ 6) (hy : -50 ≤ y) (hy2 : y ≤ 50) (hw : 0 ≤ w) : 1 ≤ d * maxZ 1 T - u * T ∧ d * maxZ 1 T - u * w ≤ 36 ∧ -(300 * (d * maxZ 1 T - u * T)) ≤ d * maxZ 1 T * y ∧ d * maxZ 1 T * y ≤ 300 * (d * maxZ 1 T - u * T) := by
  have h0 : 0 ≤ u * w := Int.mul_nonneg hu hw
  rcases (by omega : T = 0 ∨ T = 1 ∨ T = 2 ∨ T = 3 ∨ T = 4 ∨ T = 5 ∨ T = 6) with rfl | rfl | rfl | rfl | rfl | rfl | rfl <;> rcases (by omega : d = 1 ∨ d = 2 ∨ d = 3 ∨ d = 4 ∨ d = 5 ∨ d = 6) with rfl | rfl | rfl | rfl | rfl | rfl <;> simp only [maxZ] <;> simp <;> omega
theorem plA_PM {G : GT} {f : Nat → Nat} {N : Nat} (hw : WW G N) (hf : ∀ r, r < N → f r ≤ 2) : PM (plA G f) N := by
  intro r hr
  have hN := hw.2.1
  have hfr := hf r hr
  have hq : r * 3 + f r < 15 := by omega
  have h3 := hw.2.2.1
  have h5 := hw.2.2.2.2.1 _ hq
  have h6 := fun t (ht : t < 5) => hw.2.2.2.2.2.1 _ t hq ht
  rw [plA_sum hw hr hfr]
  have hs := scale_in h3.1 h3.2.1 h3.2.2.1 h5.2.2.1 h5.2.2.2 h5.1 h5.2.1 (h6 r (by omega)).1
  refine ⟨fun t ht hne => ?_, hs.1, ?_, ?_⟩
  · unfold plA
    rw [if_neg (by omega), if_neg hne]
    have := Int.mul_nonneg h3.1 (h6 t (by omega)).1
    omega
  · unfold plA
    rw [if_neg (by omega), if_pos rfl]
    exact hs.2.1
  · unfold plA
    rw [if_pos rfl]
    exact hs.2.2
theorem plA_z {G : GT} {f : Nat → Nat} {N c r : Nat} (hw : WW G N) (hf : ∀ r, r < N → f r ≤ 2) (hc : N ≤ c) (h5 : c < 5) (hr : r < N) : plA G f c r = 0 := by
  have hfr := hf r hr
  unfold plA
  rw [if_neg (by omega), if_neg (by omega), (hw.2.2.1.2.2.2 (r * 3 + f r) (by omega)).2 c hc h5]
  omega
theorem PM.congr {A B : Nat → Nat → Int} {N : Nat} (hN : N ≤ 5) (h : PM A N) (e : ∀ c r, c ≤ 5 → r < N → B c r = A c r) : PM B N := by
  intro r hr
  have h1 := h r hr
  rw [sumZ_congr (f := fun t => B t r) (g := fun t => A t r) (fun t ht => e t r (by omega) hr), e r r (by omega) hr, e 5 r (by omega) hr]
  exact ⟨fun t ht hne => by rw [e t r (by omega) hr]; exact h1.1 t ht hne, h1.2⟩
theorem det_cols {A B : Nat → Nat → Int} {n : Nat} (hn : n ≤ 5) (e : ∀ c r, c ≤ 5 → r < n → B c r = A c r) : det n B = det n A ∧ ∀ s, s < n → det n (ud B s (B 5)) = det n (ud A s (A 5)) :=
  ⟨det_congr hn (fun t ht r hr => e t r (by omega) hr), fun s _ => det_congr hn (fun t ht r hr => by
    unfold ud
    split
    · exact e 5 r (by omega) hr
    · exact e t r (by omega) hr)⟩
/-- the worths by the plan f: upper numbers and the lower one -/
def wU (G : GT) (N : Nat) (f : Nat → Nat) (s : Nat) : Int := det N (ud (plA G f) s (plA G f 5))
def wL (G : GT) (N : Nat) (f : Nat → Nat) : Int := det N (plA G f)
theorem PlOk.f {G : GT} {pl N : Nat} (h : PlOk G pl N) : ∀ r, r < N → plN G pl r ≤ 2 := fun r hr => by have := h.2 r hr; unfold plN; omega
theorem fol_num {G : GT} {pl N : Nat} (hw : WW G N) (hp : PlOk G pl N) : folR G pl N 30 1 = wL G N (plN G pl) ∧ ∀ s, s < N → folR G pl N 31 s = wU G N (plN G pl) s := by
  have hN := hw.2.1
  have hM : PM (colA (folG G pl N N) 23) N := PM.congr hN (plA_PM hw hp.f) (fun c r hc hr => fol_row hw hp hr hc)
  have h1 := sol_up (u := 30) hN (hM.pos hN N (Nat.le_refl _))
  have h2 := det_cols hN (fun c r hc hr => fol_row (c := c) hw hp hr hc)
  exact ⟨h1.1.trans h2.1, fun s hs => (h1.2 s hs).trans (h2.2 s hs)⟩
theorem w_in {G : GT} {N : Nat} {f : Nat → Nat} (hw : WW G N) (hf : ∀ r, r < N → f r ≤ 2) : 1 ≤ wL G N f ∧ wL G N f ≤ 60466176 ∧ ∀ s, s < N → -(300 * wL G N f) ≤ wU G N f s ∧ wU G N f s ≤ 300 * wL G N f := by
  have hN := hw.2.1
  have hM := plA_PM hw hf
  have h1 := det_pos0 (hM.pos hN N (Nat.le_refl _))
  have h2 := hM.up hN N (Nat.le_refl _)
  have h3 := pow36' hN
  refine ⟨by unfold wL; omega, by unfold wL; omega, fun s hs => ?_⟩
  exact hM.bnd hN (Nat.le_refl _) (fun r hr => ⟨(hM r hr).2.2.2.1, (hM r hr).2.2.2.2⟩) hs
theorem td60_inA {e : Int} (h1 : 0 ≤ e) (h2 : e ≤ 6) : 0 ≤ Int.tdiv 60 e ∧ Int.tdiv 60 e ≤ 60 := by
  rcases (by omega : e = 0 ∨ e = 1 ∨ e = 2 ∨ e = 3 ∨ e = 4 ∨ e = 5 ∨ e = 6) with rfl | rfl | rfl | rfl | rfl | rfl | rfl <;> exact ⟨by decide, by decide⟩
theorem mul_inA {x y a b : Int} (ha : 0 ≤ a) (hx : -a ≤ x) (hx2 : x ≤ a) (hy : -b ≤ y) (hy2 : y ≤ b) : -(a * b) ≤ x * y ∧ x * y ≤ a * b := by
  have hb : 0 ≤ b := by omega
  rcases Int.le_total 0 x with l | l
  · have a1 : x * y ≤ x * b := Int.mul_le_mul_of_nonneg_left hy2 l
    have a2 : x * b ≤ a * b := Int.mul_le_mul_of_nonneg_right hx2 hb
    have a3 : x * (-b) ≤ x * y := Int.mul_le_mul_of_nonneg_left hy l
    rw [Int.mul_neg] at a3
    omega
  · have a1 : x * y ≤ x * (-b) := Int.mul_le_mul_of_nonpos_left l hy
    have a2 : (-x) * b ≤ a * b := Int.mul_le_mul_of_nonneg_right (by omega) hb
    have a3 : x * b ≤ x * y := Int.mul_le_mul_of_nonpos_left l hy2
    rw [Int.mul_neg] at a1
    rw [Int.neg_mul] at a2
    omega
theorem com_in {G : GT} {N q u : Nat} (hw : WW G N) (hq : q < 15) (h1 : 0 ≤ G u 1 ∧ G u 1 ≤ 60466176) (h2 : ∀ s, s < N → -18139852800 ≤ G (u + 1) s ∧ G (u + 1) s ≤ 18139852800) : -1000000000000000 ≤ comesZ G N q u ∧ comesZ G N q u ≤ 1000000000000000 := by
  have hN := hw.2.1
  have h3 := hw.2.2.1
  have h5 := hw.2.2.2.2.1 _ hq
  have h6 := fun t (ht : t < 5) => hw.2.2.2.2.2.1 _ t hq ht
  have a1 := mul_inA (x := G 4 q) (y := stepZ G) (a := 50) (b := 360) (by decide) h5.1 h5.2.1 (by unfold stepZ; omega) (by unfold stepZ; omega)
  have a2 := mul_inA (x := G 4 q * stepZ G) (y := G u 1) (a := 18000) (b := 60466176) (by decide) (by omega) (by omega) (by omega) (by omega)
  have a3 := sumZ_abs (f := fun z => G (7 + q) z * G (u + 1) z) (M := 6 * 18139852800) (n := N) (fun t ht => mul_inA (by decide) (by have := h6 t (by omega); omega) (by have := h6 t (by omega); omega) (h2 t ht).1 (h2 t ht).2)
  have a4 : (N : Int) * (6 * 18139852800) ≤ 5 * (6 * 18139852800) := by omega
  have a5 := td60_inA h5.2.2.1 h5.2.2.2
  have a6 := mul_inA (x := G 1 1) (y := Int.tdiv 60 (G 5 q)) (a := 6) (b := 60) (by decide) (by omega) (by omega) (by omega) (by omega)
  have a7 := mul_inA (x := G 1 1 * Int.tdiv 60 (G 5 q)) (y := sumZ (fun z => G (7 + q) z * G (u + 1) z) N) (a := 360) (b := 5 * (6 * 18139852800)) (by decide) (by omega) (by omega) (by omega) (by omega)
  unfold comesZ
  split <;> omega
theorem mathOk : MathOk := by
  intro G pl N hw hp
  have hN := hw.2.1
  have hM : PM (colA (folG G pl N N) 23) N := PM.congr hN (plA_PM hw hp.f) (fun c r hc hr => fol_row hw hp hr hc)
  have hn := fol_num hw hp
  have hi := w_in hw hp.f
  have hno : NumOk (folR G pl N) N := by
    refine ⟨by rw [hn.1]; omega, by rw [hn.1]; omega, fun s hs => ?_⟩
    rw [hn.2 s hs]
    have := hi.2.2 s hs
    omega
  refine ⟨hM.sol hN (fun c r h1 h2 h3 => by rw [fol_row hw hp h3 (by omega)]; exact plA_z hw hp.f h1 h2 h3), fun q hq => ?_, hno⟩
  have h := com_in (u := 30) hw.folR hq ⟨by have := hno.1; omega, hno.2.1⟩ hno.2.2
  exact ⟨by omega, by omega⟩
