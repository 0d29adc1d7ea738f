/-! dominated equations in general; columns changed; bounds -/
theorem Dom.down {a : Nat → Nat → Int} {B : Nat → Bool} {n k : Nat} (h : Dom a B n) (hk : k ≤ n) : Dom a B k := by
  refine ⟨fun r t hr ht hb hb2 hne => h.1 r t (by omega) (by omega) hb hb2 hne, fun r hr hb => ?_, fun S hS hne => ?_⟩
  · have h1 := h.2.1 r (by omega) hb
    have h2 := sum_lead (r := r) (f := fun t => if B t = true then a r t else 0) (k := k) (n := n) hk (fun t h3 h4 => by
      show (if B t = true then a r t else 0) ≤ 0
      by_cases hb2 : B t = true
      · rw [if_pos hb2]; exact h.1 r t (by omega) h4 hb hb2 (by omega)
      · rw [if_neg hb2]; exact Int.le_refl _)
    unfold bsum at *
    omega
  · obtain ⟨r, hr, hp⟩ := h.2.2 S (fun r hr => ⟨by have := (hS r hr).1; omega, (hS r hr).2⟩) hne
    refine ⟨r, hr, ?_⟩
    unfold bsum at *
    rw [sumZ_grow hk (fun t h1 h2 => if_neg (fun q => by have := (hS t q).1; omega))] at hp
    exact hp
theorem Dom.dets {A : Nat → Nat → Int} {n : Nat} (hn : n ≤ 5) (h : Dom (fun r t => A t r) (fun _ => true) n) : ∀ k, k ≤ n → ∀ j, 1 ≤ j → j ≤ k → 0 < det j A
  | 0, _, j, a, b => by omega
  | k + 1, hk, j, a, b => by
    by_cases e : j = k + 1
    · subst e
      exact det_pos_step (by omega) (h.dets hn k (by omega)) (B := fun _ => true) rfl (h.down hk) (fun r t _ _ _ hb => by cases hb)
    · exact h.dets hn k (by omega) j a (by omega)
theorem Dom.nn {A : Nat → Nat → Int} {k : Nat} (h : Dom (fun r t => A t r) (fun _ => true) k) {z : Nat → Int} (hz : ∀ r, r < k → 0 ≤ sumZ (fun t => A t r * z t) k) : ∀ r, r < k → 0 ≤ z r :=
  fun r hr => Dom.pos h (fun r hr _ => by rw [bsum_all]; exact hz r hr) r hr rfl
def prodZ (f : Nat → Int) : Nat → Int
  | 0 => 1
  | n + 1 => prodZ f n * f n
theorem prodZ_nn {f : Nat → Int} : ∀ {n : Nat}, (∀ t, t < n → 0 ≤ f t) → 0 ≤ prodZ f n
  | 0, _ => by show (0 : Int) ≤ 1; decide
  | n + 1, h => Int.mul_nonneg (prodZ_nn (fun t ht => h t (by omega))) (h n (by omega))
theorem prodZ_le {f g : Nat → Int} : ∀ {n : Nat}, (∀ t, t < n → 0 ≤ f t ∧ f t ≤ g t) → prodZ f n ≤ prodZ g n
  | 0, _ => Int.le_refl _
  | n + 1, h => by
    have h1 := prodZ_le (fun t (ht : t < n) => h t (by omega))
    have h2 := h n (by omega)
    have h3 : 0 ≤ prodZ g n := prodZ_nn (fun t ht => by have := h t (by omega); omega)
    exact Int.mul_le_mul h1 h2.2 h2.1 h3
theorem prodZ_ud {m : Nat → Int} {x : Int} {t : Nat} : ∀ {n : Nat}, t < n → prodZ (fun z => if z = t then x else m z) n * m t = prodZ m n * x
  | 0, h => by omega
  | n + 1, h => by
    show prodZ (fun z => if z = t then x else m z) n * (if n = t then x else m n) * m t = prodZ m n * m n * x
    by_cases e : n = t
    · subst e
      have h1 : ∀ k, k ≤ n → prodZ (fun z => if z = n then x else m z) k = prodZ m k := by
        intro k
        induction k with
        | zero => intro _; rfl
        | succ k ih => intro hk; show prodZ _ k * (if k = n then x else m k) = prodZ m k * m k; rw [ih (by omega), if_neg (by omega)]
      rw [if_pos rfl, h1 n (Nat.le_refl _), Int.mul_assoc, Int.mul_comm x, ← Int.mul_assoc]
    · have ih := prodZ_ud (m := m) (x := x) (t := t) (n := n) (by omega)
      rw [if_neg e, Int.mul_assoc, Int.mul_comm (m n), ← Int.mul_assoc, ih]
      grind
theorem Dom.upP {A : Nat → Nat → Int} {n : Nat} (hn : n ≤ 5) (h : Dom (fun r t => A t r) (fun _ => true) n) : ∀ k, k ≤ n → det k A ≤ prodZ (fun r => A r r) k
  | 0, _ => Int.le_refl _
  | k + 1, hk => by
    have ih := h.upP hn k (by omega)
    have hpos := h.dets hn k (by omega)
    have hP := det_pos0 hpos
    rw [det_lapE (by omega)]
    have h1 : 0 ≤ sumZ (fun t => A t k * det k (ud A t (A k))) k := by
      refine sumZ_nonneg (fun t ht => ?_)
      have h2 := Dom.nn (h.down (k := k) (by omega)) (z := fun t => -det k (ud A t (A k))) (fun r hr => by
        show 0 ≤ sumZ (fun t => A t r * -det k (ud A t (A k))) k
        rw [sumZ_congr (g := fun t => -(A t r * det k (ud A t (A k)))) (fun t _ => Int.mul_neg _ _), sumZ_neg, adjP (by omega) hpos (A k) hr, ← Int.mul_neg]
        exact Int.mul_nonneg (by omega) (by have : A k r ≤ 0 := h.1 r k (by omega) (by omega) rfl rfl (by omega); omega)) t ht
      have h3 : 0 ≤ -det k (ud A t (A k)) := h2
      have h4 : A t k ≤ 0 := h.1 k t (by omega) (by omega) rfl rfl (by omega)
      exact Int.mul_nonneg_of_nonpos_of_nonpos h4 (by omega)
    have h5 : 0 ≤ A k k := by
      have h6 := h.2.1 k (by omega) rfl
      rw [bsum_all] at h6
      have h7 : sumZ (fun t => A t k) n = A k k + sumZ (fun t => if t = k then 0 else A t k) n := sumZ_pick (f := fun t => A t k) (by omega)
      have h8 : sumZ (fun t => if t = k then 0 else A t k) n ≤ sumZ (fun _ => 0) n := sumZ_le (fun t ht => by
        show (if t = k then 0 else A t k) ≤ 0
        by_cases e : t = k
        · rw [if_pos e]; exact Int.le_refl _
        · rw [if_neg e]; exact h.1 k t (by omega) ht rfl rfl (fun q => e q.symm))
      rw [sumZ_0 (f := fun _ => 0) (fun _ _ => rfl)] at h8
      have h9 : 0 ≤ sumZ (fun t => A t k) n := h6
      omega
    have h6 : det k A * A k k ≤ prodZ (fun r => A r r) k * A k k := Int.mul_le_mul_of_nonneg_right ih h5
    show _ ≤ prodZ (fun r => A r r) k * A k k
    omega
/-! columns -/
theorem ud_comm (c : Nat → Nat → Int) {j t : Nat} (a b : Nat → Int) (h : j ≠ t) : ud (ud c j a) t b = ud (ud c t b) j a := by
  funext z; unfold ud
  by_cases e1 : z = t
  · rw [if_pos e1, if_neg (fun q => h (q.symm.trans e1)), if_pos e1]
  · rw [if_neg e1]
    by_cases e2 : z = j
    · rw [if_pos e2, if_pos e2]
    · rw [if_neg e2, if_neg e2, if_neg e1]
theorem ud_ud (c : Nat → Nat → Int) (j : Nat) (a b : Nat → Int) : ud (ud c j a) j b = ud c j b := by
  funext z; unfold ud; split <;> rfl
theorem det_two {n j t : Nat} (hn : n ≤ 5) (hj : j < n) (ht : t < n) (h : j ≠ t) (c : Nat → Nat → Int) (a b : Nat → Int) : det n (ud (ud c j a) t b) = -det n (ud (ud c j b) t a) := by
  have z : ∀ x : Nat → Int, det n (ud (ud c j x) t x) = 0 := fun x => det_eq hn hj ht h (by rw [ud_s, ud_n _ _ h, ud_s])
  have h1 := z (fun r => 1 * a r + 1 * b r)
  rw [det_lin hn ht (ud c j (fun r => 1 * a r + 1 * b r)) 1 1 a b, ud_comm c _ a h, ud_comm c _ b h, det_lin hn hj (ud c t a) 1 1 a b, det_lin hn hj (ud c t b) 1 1 a b, ← ud_comm c a a h, ← ud_comm c b a h, ← ud_comm c a b h, ← ud_comm c b b h, z a, z b] at h1
  omega
/-- where some columns sum to nothing, it is all one which of them is replaced -/
theorem cof_eq {n j t : Nat} (hn : n ≤ 5) (hj : j < n) (ht : t < n) (L : Nat → Nat → Int) (M : Nat → Bool) (hMj : M j = true) (hMt : M t = true) (hs : ∀ r, r < n → sumZ (fun z => if M z = true then L z r else 0) n = 0) (e : Nat → Int) : det n (ud L j e) = det n (ud L t e) := by
  by_cases h : j = t
  · rw [h]
  have h1 := det_colsum hn ht (ud L j e) L (fun z => if M z = true ∧ z ≠ j then 1 else 0) n
  rw [sumZ_one ht (fun z hz hne => ?_)] at h1
  · have c1 : M t = true ∧ t ≠ j := ⟨hMt, fun q => h q.symm⟩
    rw [if_pos c1, Int.one_mul] at h1
    have e1 : ud (ud L j e) t (L t) = ud L j e := by
      have := ud_self (ud L j e) t
      rw [ud_n L e (fun q => h q.symm)] at this; exact this
    rw [e1] at h1
    rw [← h1]
    have h2 : det n (ud (ud L j e) t (fun r => sumZ (fun z => L z r * (if M z = true ∧ z ≠ j then 1 else 0)) n)) = (-1) * det n (ud (ud L j e) t (L j)) := by
      refine det_sc hn ht _ (-1) (L j) _ (fun r hr => ?_)
      have h3 := hs r hr
      rw [sumZ_pick hj, if_pos hMj] at h3
      rw [sumZ_congr (g := fun z => if z = j then 0 else if M z = true then L z r else 0) (fun z _ => ?_)]
      · omega
      · by_cases e3 : z = j
        · rw [if_neg (fun q => q.2 e3), if_pos e3, Int.mul_zero]
        · rw [if_neg e3]
          by_cases e4 : M z = true
          · rw [if_pos ⟨e4, e3⟩, if_pos e4, Int.mul_one]
          · rw [if_neg (fun q => e4 q.1), if_neg e4, Int.mul_zero]
    rw [h2, det_two hn hj ht h, ud_self]
    omega
  · by_cases c1 : M z = true ∧ z ≠ j
    · rw [if_pos c1, Int.one_mul]
      exact det_eq hn ht hz (fun q => hne q.symm) (by rw [ud_s, ud_n _ _ hne, ud_n L e c1.2])
    · rw [if_neg c1, Int.zero_mul]
/-- one column being e, its multiples may be taken from the others -/
theorem det_clear {n t : Nat} (hn : n ≤ 5) (ht : t < n) (c : Nat → Nat → Int) (e : Nat → Int) (k : Nat → Int) : ∀ i, i ≤ n → det n (ud (fun z r => if z < i then c z r - k z * e r else c z r) t e) = det n (ud c t e)
  | 0, _ => det_congr hn (fun z hz r hr => by
    unfold ud
    split
    · rfl
    · exact if_neg (by omega))
  | i + 1, hi => by
    rw [← det_clear hn ht c e k i (by omega)]
    by_cases e1 : i = t
    · refine det_congr hn (fun z hz r hr => ?_)
      unfold ud
      by_cases e2 : z = t
      · rw [if_pos e2, if_pos e2]
      · rw [if_neg e2, if_neg e2]
        show (if z < i + 1 then c z r - k z * e r else c z r) = (if z < i then c z r - k z * e r else c z r)
        by_cases l : z < i
        · rw [if_pos l, if_pos (by omega)]
        · rw [if_neg l, if_neg (by omega)]
    · have h1 := det_lin hn (show i < n by omega) (ud (fun z r => if z < i then c z r - k z * e r else c z r) t e) 1 (-k i) (c i) e
      have z0 : det n (ud (ud (fun z r => if z < i then c z r - k z * e r else c z r) t e) i e) = 0 := det_eq hn (show i < n by omega) ht e1 (by rw [ud_s, ud_n _ _ (fun q => e1 q.symm), ud_s])
      have s0 : ud (ud (fun z r => if z < i then c z r - k z * e r else c z r) t e) i (c i) = ud (fun z r => if z < i then c z r - k z * e r else c z r) t e := by
        funext z
        by_cases e2 : z = i
        · rw [e2, ud_s, ud_n _ _ e1]
          funext r; rw [if_neg (Nat.lt_irrefl _)]
        · rw [ud_n _ _ e2]
      rw [z0, s0, Int.mul_zero, Int.add_zero, Int.one_mul] at h1
      rw [← h1]
      refine det_congr hn (fun z hz r hr => ?_)
      by_cases e2 : z = i
      · rw [e2, ud_s, ud_n _ _ e1, if_pos (by omega)]
        show c i r - k i * e r = 1 * c i r + -k i * e r
        rw [Int.neg_mul]; omega
      · rw [ud_n _ _ e2]
        unfold ud
        by_cases e3 : z = t
        · rw [if_pos e3, if_pos e3]
        · rw [if_neg e3, if_neg e3]
          show (if z < i + 1 then c z r - k z * e r else c z r) = (if z < i then c z r - k z * e r else c z r)
          by_cases l : z < i
          · rw [if_pos l, if_pos (by omega)]
          · rw [if_neg l, if_neg (by omega)]
def eC (t : Nat) : Nat → Int := fun r => if r = t then 1 else 0
/-- with the t-th unit in column t the row t counts for nothing -/
theorem det_row {n t : Nat} (hn : n ≤ 5) (ht : t < n) {c c2 : Nat → Nat → Int} (h : ∀ z, z < n → z ≠ t → ∀ r, r < n → r ≠ t → c z r = c2 z r) : det n (ud c t (eC t)) = det n (ud c2 t (eC t)) := by
  rw [← det_clear hn ht c (eC t) (fun z => c z t) n (Nat.le_refl _), ← det_clear hn ht c2 (eC t) (fun z => c2 z t) n (Nat.le_refl _)]
  refine det_congr hn (fun z hz r hr => ?_)
  unfold ud
  by_cases e : z = t
  · rw [if_pos e, if_pos e]
  · rw [if_neg e, if_neg e]
    show (if z < n then c z r - c z t * eC t r else c z r) = (if z < n then c2 z r - c2 z t * eC t r else c2 z r)
    rw [if_pos hz, if_pos hz]
    unfold eC
    by_cases e2 : r = t
    · rw [if_pos e2, e2]; omega
    · rw [if_neg e2, h z hz e r hr e2, Int.mul_zero, Int.mul_zero]
/-! a bound for all -/
def fac : Nat → Int
  | 0 => 1
  | n + 1 => fac n * ((n : Int) + 1)
theorem fac_pos : ∀ n, 0 < fac n
  | 0 => by decide
  | n + 1 => Int.mul_pos (fac_pos n) (by omega)
theorem det_bnd : ∀ {n : Nat}, n ≤ 5 → ∀ {c : Nat → Nat → Int} {m : Nat → Int}, (∀ t, t < n → 0 ≤ m t) → (∀ t, t < n → ∀ r, r < n → -m t ≤ c t r ∧ c t r ≤ m t) → -(fac n * prodZ m n) ≤ det n c ∧ det n c ≤ fac n * prodZ m n
  | 0, _, c, m, _, _ => by show -((1 : Int) * 1) ≤ 1 ∧ (1 : Int) ≤ 1 * 1; decide
  | n + 1, hn, c, m, hm, h => by
    rw [det_lap (by omega)]
    have i1 := det_bnd (n := n) (by omega) (c := c) (m := m) (fun t ht => hm t (by omega)) (fun t ht r hr => h t (by omega) r (by omega))
    have hpn : 0 ≤ prodZ m n := prodZ_nn (fun t ht => hm t (by omega))
    have hf := fac_pos n
    have a1 := mul_inA (x := det n c) (y := c n n) (Int.mul_nonneg (by omega) hpn) i1.1 i1.2 (h n (by omega) n (by omega)).1 (h n (by omega) n (by omega)).2
    have a2 := sumZ_abs (f := fun t => det n (ud c t (c n)) * c t n) (M := fac n * prodZ m n * m n) (n := n) (fun t ht => by
      have i2 := det_bnd (n := n) (by omega) (c := ud c t (c n)) (m := fun z => if z = t then m n else m z) (fun z hz => by
        show 0 ≤ (if z = t then m n else m z)
        by_cases e : z = t
        · rw [if_pos e]; exact hm n (by omega)
        · rw [if_neg e]; exact hm z (by omega)) (fun z hz r hr => by
        unfold ud
        show -(if z = t then m n else m z) ≤ (if z = t then c n else c z) r ∧ (if z = t then c n else c z) r ≤ (if z = t then m n else m z)
        by_cases e : z = t
        · rw [if_pos e, if_pos e]; exact h n (by omega) r (by omega)
        · rw [if_neg e, if_neg e]; exact h z (by omega) r (by omega))
      have hp2 : 0 ≤ prodZ (fun z => if z = t then m n else m z) n := prodZ_nn (fun z hz => by
        show 0 ≤ (if z = t then m n else m z)
        by_cases e : z = t
        · rw [if_pos e]; exact hm n (by omega)
        · rw [if_neg e]; exact hm z (by omega))
      have a3 := mul_inA (x := det n (ud c t (c n))) (y := c t n) (Int.mul_nonneg (by omega) hp2) i2.1 i2.2 (h t (by omega) n (by omega)).1 (h t (by omega) n (by omega)).2
      have a4 := prodZ_ud (m := m) (x := m n) (t := t) (n := n) ht
      have a5 : fac n * prodZ (fun z => if z = t then m n else m z) n * m t = fac n * prodZ m n * m n := by rw [Int.mul_assoc, a4, Int.mul_assoc]
      rw [a5] at a3; exact a3)
    have e1 : fac (n + 1) * prodZ m (n + 1) = fac n * prodZ m n * m n + (n : Int) * (fac n * prodZ m n * m n) := by
      show fac n * ((n : Int) + 1) * (prodZ m n * m n) = _
      grind
    rw [e1]
    omega
