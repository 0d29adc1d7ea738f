/-! the JDK's small methods; Walks -/
def sumZ (f : Nat → Int) : Nat → Int
  | 0 => 0
  | n + 1 => sumZ f n + f n
theorem sh_we {j : Nat} (h : j < 15) : shape[7 + j]? = some (shI 5) := by
  rcases (by omega : j = 0 ∨ j = 1 ∨ j = 2 ∨ j = 3 ∨ j = 4 ∨ j = 5 ∨ j = 6 ∨ j = 7 ∨ j = 8 ∨ j = 9 ∨ j = 10 ∨ j = 11 ∨ j = 12 ∨ j = 13 ∨ j = 14) with rfl | rfl | rfl | rfl | rfl | rfl | rfl | rfl | rfl | rfl | rfl | rfl | rfl | rfl | rfl <;> rfl
theorem sh_e1 {j : Nat} (h : j < 5) : shape[25 + j]? = some (shL 6) := by
  rcases (by omega : j = 0 ∨ j = 1 ∨ j = 2 ∨ j = 3 ∨ j = 4) with rfl | rfl | rfl | rfl | rfl <;> rfl
theorem sh_e2 {j : Nat} (h : j < 5) : shape[35 + j]? = some (shL 6) := by
  rcases (by omega : j = 0 ∨ j = 1 ∨ j = 2 ∨ j = 3 ∨ j = 4) with rfl | rfl | rfl | rfl | rfl <;> rfl
/-- each total is the sum of its weights; nothing leads to a state that is not there -/
def SumOk (G : GT) (N : Nat) : Prop := ∀ q, q < 15 → sumZ (G (7 + q)) N = G 5 q ∧ ∀ t, N ≤ t → t < 5 → G (7 + q) t = 0
/-- what the Walks hold: N states; share, acts, pays, totals, weights within their ranges -/
def WW (G : GT) (N : Nat) : Prop := G 1 0 = (N : Int) ∧ N ≤ 5 ∧ (0 ≤ G 1 1 ∧ G 1 1 < G 1 2 ∧ G 1 2 ≤ 6 ∧ SumOk G N) ∧ (∀ s, s < 5 → 0 ≤ G 3 s ∧ G 3 s ≤ 3) ∧ (∀ q, q < 15 → -50 ≤ G 4 q ∧ G 4 q ≤ 50 ∧ 0 ≤ G 5 q ∧ G 5 q ≤ 6) ∧ (∀ q t, q < 15 → t < 5 → 0 ≤ G (7 + q) t ∧ G (7 + q) t ≤ 6) ∧ ∀ s, s < 5 → G 2 s = 0 ∨ G 2 s = 1
theorem WW.keep {G G' : GT} {N : Nat} (h : WW G N) (e : ∀ a, a ≤ 21 → G' a = G a) : WW G' N := by
  obtain ⟨h1, h2, h3, h4, h5, h6, h7⟩ := h
  refine ⟨by rw [e 1 (by omega)]; exact h1, h2, ⟨by rw [e 1 (by omega)]; exact h3.1, by rw [e 1 (by omega)]; exact h3.2.1, by rw [e 1 (by omega)]; exact h3.2.2.1, fun q hq => by rw [e (7 + q) (by omega), e 5 (by omega)]; exact h3.2.2.2 q hq⟩, fun s hs => by rw [e 3 (by omega)]; exact h4 s hs, fun q hq => by rw [e 4 (by omega), e 5 (by omega)]; exact h5 q hq, fun q t hq ht => by rw [e (7 + q) (by omega)]; exact h6 q t hq ht, fun s hs => by rw [e 2 (by omega)]; exact h7 s hs⟩
def maxZ (x y : Int) : Int := if x ≤ y then y else x
def absZ (x : Int) : Int := if x < 0 then -x else x
def hasS (G : GT) (s : Int) : Int := if 0 ≤ s ∧ s < G 1 0 then 1 else 0
def hasA (G : GT) (s a : Int) : Int := if 0 ≤ s ∧ s < G 1 0 ∧ 0 ≤ a ∧ a < G 3 s.toNat then 1 else 0
def stepZ (G : GT) : Int := 60 * G 1 2
/-- what an ACT comes to by the numbers of cell u -/
def comesZ (G : GT) (N slot u : Nat) : Int := if G 5 slot = 0 then G 4 slot * stepZ G * G u 1 else G 4 slot * stepZ G * G u 1 + G 1 1 * Int.tdiv 60 (G 5 slot) * sumZ (fun z => G (7 + slot) z * G (u + 1) z) N
def clrG (G : GT) (b0 n len : Nat) : GT := fun b => if b0 ≤ b ∧ b < b0 + n then (fun j => if j < len then 0 else G b j) else G b
def fillF (f : Nat → Int) (n : Nat) (x : Int) : Nat → Int := fun j => if j < n then x else f j
theorem uG_uG (G : GT) (a : Nat) (f g : Nat → Int) : uG (uG G a f) a g = uG G a g := by
  funext b; unfold uG; split <;> rfl
theorem uG_self (G : GT) (a : Nat) : uG G a (G a) = G := by
  funext b; unfold uG; split
  · next h => rw [h]
  · rfl
theorem fillF_0 (f : Nat → Int) (x : Int) : fillF f 0 x = f := by funext j; unfold fillF; rw [if_neg (by omega)]
theorem fillF_s (f : Nat → Int) (i : Nat) (x : Int) : up (fillF f i x) i x = fillF f (i + 1) x := by
  funext j; unfold up fillF
  by_cases h : j = i
  · rw [if_pos h, if_pos (by omega)]
  · rw [if_neg h]
    by_cases h2 : j < i
    · rw [if_pos h2, if_pos (by omega)]
    · rw [if_neg h2, if_neg (by omega)]
theorem clrG_0 (G : GT) (b len : Nat) : clrG G b 0 len = G := by funext c; unfold clrG; rw [if_neg (by omega)]
theorem clrG_s (G : GT) (b n len : Nat) : uG (clrG G b n len) (b + n) (fillF (clrG G b n len (b + n)) len 0) = clrG G b (n + 1) len := by
  funext c; unfold uG
  by_cases h : c = b + n
  · subst h
    rw [if_pos rfl]
    unfold clrG
    rw [if_neg (by omega), if_pos (by omega)]
    rfl
  · rw [if_neg h]
    unfold clrG
    by_cases h2 : b ≤ c ∧ c < b + n
    · rw [if_pos h2, if_pos (by omega)]
    · rw [if_neg h2, if_neg (by omega)]
theorem td60 {e : Int} (h1 : 1 ≤ e) (h2 : e ≤ 6) : inI (Int.tdiv 60 e) := by
  rcases (by omega : e = 1 ∨ e = 2 ∨ e = 3 ∨ e = 4 ∨ e = 5 ∨ e = 6) with rfl | rfl | rfl | rfl | rfl | rfl <;> exact ⟨by decide, by decide⟩
theorem g_alenI {X : Xt} {cc : ByteArray} {nL k n pc : Nat} {own : String} {ret : Option FieldType} {lv : List (Nat × Value)} {st : List Value} {K : K5} {G : GT} (hC : Cx X cc nL own ret) (hty : X.ty = tyK K) {a N : Nat} (hd : decode cc pc = .ok (.arraylength, 1)) (hs : shape[a]? = some (shI N)) (kk : AW X nL k n (pc + 1) lv (vi (N : Int) :: st) (hp K G)) : AW X nL k n pc lv (.ref a :: st) (hp K G) := a_alenI hC hd (by rw [hty]; exact tyK_I K) (hp_at K G hs) kk
theorem g_alenL {X : Xt} {cc : ByteArray} {nL k n pc : Nat} {own : String} {ret : Option FieldType} {lv : List (Nat × Value)} {st : List Value} {K : K5} {G : GT} (hC : Cx X cc nL own ret) (hty : X.ty = tyK K) {a N : Nat} (hd : decode cc pc = .ok (.arraylength, 1)) (hs : shape[a]? = some (shL N)) (kk : AW X nL k n (pc + 1) lv (vi (N : Int) :: st) (hp K G)) : AW X nL k n pc lv (.ref a :: st) (hp K G) := a_alenL hC hd (by rw [hty]; exact tyK_L K) (hp_at K G hs) kk
def likesZ (G : GT) (s : Nat) (x y : Int) : Int := if G 2 s = 0 then (if y < x then 1 else 0) else (if x < y then 1 else 0)
/-- the liked act so far, and what it comes to -/
def likS (G : GT) (N s held u : Nat) : Nat → Int × Int
  | 0 => ((held : Int), comesZ G N (s * 3 + held) u)
  | a + 1 => if likesZ G s (comesZ G N (s * 3 + a) u) (likS G N s held u a).2 = 1 then ((a : Int), comesZ G N (s * 3 + a) u) else likS G N s held u a

set_option maxRecDepth 100000 in
set_option maxHeartbeats 4000000 in
theorem ct_JM_max_II (l : Launch) (D : va_G) (K : K5) (G : GT) (x y : Int) (hx : inI x) (hy : inI y) : Ct l D K y_JM_max_II c_JM_max_II 2 (some .int) 0 0 [vi x, vi y] G (some (vi (maxZ x y))) G := by
  refine Ct.intro (by decide +kernel) (Nat.le_of_ble_eq_true rfl) ?_
  intro X hro hty hC hE
  unfold inI at hx hy
  refine a_iload_n (pc := 0) (q := 0) (i := 0) (x := x) hC (by decide +kernel) rfl 0 rfl ?_
  refine a_iload_n (pc := 1) (q := 1) (i := 1) (x := y) hC (by decide +kernel) rfl 1 rfl ?_
  refine a_icmp_lt (pc := 2) (off := 7) hC 9 (by decide +kernel) (by decide) (by unfold inI; omega) (by unfold inI; omega) (fun c2 => ?_) (fun c2 => ?_)
  · skip
    refine a_iload_n (pc := 9) (q := 1) (i := 1) (x := y) hC (by decide +kernel) rfl 1 rfl ?_
    exact g_iret (pc := 10) hC hE (by decide +kernel) (by unfold maxZ; split <;> omega) rfl
  · skip
    refine a_iload_n (pc := 5) (q := 0) (i := 0) (x := x) hC (by decide +kernel) rfl 0 rfl ?_
    refine a_goto (pc := 6) (off := 4) hC 10 (by decide +kernel) (by decide) ?_
    exact g_iret (pc := 10) hC hE (by decide +kernel) (by unfold maxZ; split <;> omega) rfl

set_option maxRecDepth 100000 in
set_option maxHeartbeats 4000000 in
theorem ct_JM_max_JJ (l : Launch) (D : va_G) (K : K5) (G : GT) (x y : Int) (hx : inL x) (hy : inL y) : Ct l D K y_JM_max_JJ c_JM_max_JJ 4 (some .long) 0 0 [vl x, vl y] G (some (vl (maxZ x y))) G := by
  refine Ct.intro (by decide +kernel) (Nat.le_of_ble_eq_true rfl) ?_
  intro X hro hty hC hE
  unfold inL at hx hy
  refine a_lload_n (pc := 0) (q := 0) (i := 0) (x := x) hC (by decide +kernel) rfl 0 rfl ?_
  refine a_lload_n (pc := 1) (q := 2) (i := 2) (x := y) hC (by decide +kernel) rfl 1 rfl ?_
  refine a_lcmp (pc := 2) hC (by decide +kernel) (by unfold inL; omega) (by unfold inL; omega) ?_
  refine a_if_lt (pc := 3) (off := 7) hC 10 (by decide +kernel) (by decide) (cmpZ_in _ _) (fun c3 => ?_) (fun c3 => ?_)
  · skip
    rw [cmpZ_lt] at c3
    refine a_lload_n (pc := 10) (q := 2) (i := 2) (x := y) hC (by decide +kernel) rfl 1 rfl ?_
    exact g_lret (pc := 11) hC hE (by decide +kernel) (by unfold maxZ; split <;> omega) rfl
  · skip
    rw [cmpZ_lt] at c3
    refine a_lload_n (pc := 6) (q := 0) (i := 0) (x := x) hC (by decide +kernel) rfl 0 rfl ?_
    refine a_goto (pc := 7) (off := 4) hC 11 (by decide +kernel) (by decide) ?_
    exact g_lret (pc := 11) hC hE (by decide +kernel) (by unfold maxZ; split <;> omega) rfl

set_option maxRecDepth 100000 in
set_option maxHeartbeats 4000000 in
theorem ct_JM_abs (l : Launch) (D : va_G) (K : K5) (G : GT) (x : Int) (hx : inL x) : Ct l D K y_JM_abs c_JM_abs 2 (some .long) 0 0 [vl x] G (some (vl (absZ x))) G := by
  refine Ct.intro (by decide +kernel) (Nat.le_of_ble_eq_true rfl) ?_
  intro X hro hty hC hE
  unfold inL at hx
  refine a_lload_n (pc := 0) (q := 0) (i := 0) (x := x) hC (by decide +kernel) rfl 0 rfl ?_
  refine a_lconst (pc := 1) (c := 0) (z := 0) hC (by decide +kernel) rfl ?_
  refine a_lcmp (pc := 2) hC (by decide +kernel) (by unfold inL; omega) (by unfold inL; omega) ?_
  refine a_if_ge (pc := 3) (off := 8) hC 11 (by decide +kernel) (by decide) (cmpZ_in _ _) (fun c3 => ?_) (fun c3 => ?_)
  · skip
    rw [cmpZ_ge] at c3
    refine a_lload_n (pc := 11) (q := 0) (i := 0) (x := x) hC (by decide +kernel) rfl 0 rfl ?_
    exact g_lret (pc := 12) hC hE (by decide +kernel) (by unfold absZ; split <;> omega) rfl
  · skip
    rw [cmpZ_ge] at c3
    refine a_lload_n (pc := 6) (q := 0) (i := 0) (x := x) hC (by decide +kernel) rfl 0 rfl ?_
    refine a_lneg (pc := 7) hC (by decide +kernel) ?_
    refine a_goto (pc := 8) (off := 4) hC 12 (by decide +kernel) (by decide) ?_
    exact g_lret (pc := 12) hC hE (by decide +kernel) (by unfold absZ; split <;> omega) rfl

set_option maxRecDepth 100000 in
set_option maxHeartbeats 4000000 in
theorem ct_W_slotOf (l : Launch) (D : va_G) (K : K5) (G : GT) (s a : Int) : Ct l D K y_W_slotOf c_W_slotOf 2 (some .int) 0 0 [vi s, vi a] G (some (vi (s * 3 + a))) G := by
  refine Ct.intro (by decide +kernel) (Nat.le_of_ble_eq_true rfl) ?_
  intro X hro hty hC hE
  refine a_iload_n (pc := 0) (q := 0) (i := 0) (x := s) hC (by decide +kernel) rfl 0 rfl ?_
  refine a_iconst (pc := 1) (c := 3) hC (by decide +kernel) ?_
  refine a_imul (pc := 2) hC (by decide +kernel) ?_
  refine a_iload_n (pc := 3) (q := 1) (i := 1) (x := a) hC (by decide +kernel) rfl 1 rfl ?_
  refine a_iadd (pc := 4) hC (by decide +kernel) ?_
  exact g_iret (pc := 5) hC hE (by decide +kernel) rfl rfl

set_option maxRecDepth 100000 in
set_option maxHeartbeats 4000000 in
theorem ct_W_hasState (l : Launch) (D : va_G) (K : K5) (G : GT) (N : Nat) (s : Int) (hs : inI s) (hw : WW G N) : Ct l D K y_W_hasState c_W_hasState 2 (some .boolean) 0 0 [.ref 1, vi s] G (some (vi (hasS G s))) G := by
  refine Ct.intro (by decide +kernel) (Nat.le_of_ble_eq_true rfl) ?_
  intro X hro hty hC hE
  unfold inI at hs
  obtain ⟨hn, hN5, hsh, hac, hpa, hwe, hth⟩ := id hw
  refine a_iload_n (pc := 0) (q := 1) (i := 1) (x := s) hC (by decide +kernel) rfl 1 rfl ?_
  refine a_if_lt (pc := 1) (off := 15) hC 16 (by decide +kernel) (by decide) (by unfold inI; omega) (fun c1 => ?_) (fun c1 => ?_)
  · skip
    refine a_iconst (pc := 16) (c := 0) hC (by decide +kernel) ?_
    exact g_zret (pc := 17) hC hE (by decide +kernel) (by omega) (by unfold hasS; split <;> omega) rfl
  · skip
    refine a_iload_n (pc := 4) (q := 1) (i := 1) (x := s) hC (by decide +kernel) rfl 1 rfl ?_
    refine a_aload_n (pc := 5) (q := 0) (i := 0) (x := 1) hC (by decide +kernel) rfl 0 rfl ?_
    refine g_get (pc := 6) (idx := 9) (ci := 4) (v := vi (G 1 0)) hC 1 0 (by decide +kernel) rfl rfl rfl rfl wrW (by decide) rfl (by decide +kernel) ?_
    refine a_icmp_ge (pc := 9) (off := 7) hC 16 (by decide +kernel) (by decide) (by unfold inI; omega) (by unfold inI; omega) (fun c9 => ?_) (fun c9 => ?_)
    · skip
      refine a_iconst (pc := 16) (c := 0) hC (by decide +kernel) ?_
      exact g_zret (pc := 17) hC hE (by decide +kernel) (by omega) (by unfold hasS; split <;> omega) rfl
    · skip
      refine a_iconst (pc := 12) (c := 1) hC (by decide +kernel) ?_
      refine a_goto (pc := 13) (off := 4) hC 17 (by decide +kernel) (by decide) ?_
      exact g_zret (pc := 17) hC hE (by decide +kernel) (by omega) (by unfold hasS; split <;> omega) rfl

set_option maxRecDepth 100000 in
set_option maxHeartbeats 4000000 in
theorem ct_W_hasAct (l : Launch) (D : va_G) (K : K5) (G : GT) (N : Nat) (s a : Int) (hs : inI s) (ha : inI a) (hw : WW G N) : Ct l D K y_W_hasAct c_W_hasAct 3 (some .boolean) 1 21 [.ref 1, vi s, vi a] G (some (vi (hasA G s a))) G := by
  refine Ct.intro (by decide +kernel) (Nat.le_of_ble_eq_true rfl) ?_
  intro X hro hty hC hE
  unfold inI at hs ha
  obtain ⟨hn, hN5, hsh, hac, hpa, hwe, hth⟩ := id hw
  refine a_aload_n (pc := 0) (q := 0) (i := 0) (x := 1) hC (by decide +kernel) rfl 0 rfl ?_
  refine a_iload_n (pc := 1) (q := 1) (i := 1) (x := s) hC (by decide +kernel) rfl 1 rfl ?_
  refine g_callV (pc := 2) (idx := 46) (i := 1) (av := [vi s]) (rest := []) (g := G) (v := vi (hasS G s)) hC hro hty (by decide +kernel) rfl rfl k_W_hasState (by decide +kernel) (by decide +kernel) (by decide +kernel) (ct_W_hasState X.la X.dd K G N s (by unfold inI; omega) hw) rfl rfl (by decide) (by first | decide | simp [Value.category]) ?_
  refine a_if_eq (pc := 5) (off := 21) hC 26 (by decide +kernel) (by decide) (by unfold inI hasS; split <;> omega) (fun c5 => ?_) (fun c5 => ?_)
  · skip
    refine a_iconst (pc := 26) (c := 0) hC (by decide +kernel) ?_
    exact g_zret (pc := 27) hC hE (by decide +kernel) (by omega) (by unfold hasA hasS at *; split <;> (try split at *) <;> (try simp only [hq2] at *) <;> omega) rfl
  · skip
    have hs2 : 0 ≤ s ∧ s < N := by
      unfold hasS at c5
      split at c5 <;> omega
    obtain ⟨q, hq⟩ : ∃ q : Nat, s = (q : Int) := ⟨s.toNat, by omega⟩
    have hq2 : s.toNat = q := by omega
    have h3 := hac q (by omega)
    refine a_iload_n (pc := 8) (q := 2) (i := 2) (x := a) hC (by decide +kernel) rfl 2 rfl ?_
    refine a_if_lt (pc := 9) (off := 17) hC 26 (by decide +kernel) (by decide) (by unfold inI; omega) (fun c9 => ?_) (fun c9 => ?_)
    · skip
      refine a_iconst (pc := 26) (c := 0) hC (by decide +kernel) ?_
      exact g_zret (pc := 27) hC hE (by decide +kernel) (by omega) (by unfold hasA hasS at *; split <;> (try split at *) <;> (try simp only [hq2] at *) <;> omega) rfl
    · skip
      refine a_iload_n (pc := 12) (q := 2) (i := 2) (x := a) hC (by decide +kernel) rfl 2 rfl ?_
      refine a_aload_n (pc := 13) (q := 0) (i := 0) (x := 1) hC (by decide +kernel) rfl 0 rfl ?_
      refine g_get (pc := 14) (idx := 25) (ci := 4) (v := .ref 3) hC 1 4 (by decide +kernel) rfl rfl rfl rfl wrW (by decide) rfl (by decide +kernel) ?_
      refine a_iload_n (pc := 17) (q := 1) (i := 1) (x := s) hC (by decide +kernel) rfl 1 rfl ?_
      refine g_top (y := ((q : Nat) : Int)) (by omega) ?_
      refine g_iald (pc := 18) (a := 3) (j := q) hC hty (by decide +kernel) rfl (by omega) (by first | decide | omega) ?_
      refine a_icmp_ge (pc := 19) (off := 7) hC 26 (by decide +kernel) (by decide) (by unfold inI; omega) (by unfold inI; omega) (fun c19 => ?_) (fun c19 => ?_)
      · skip
        refine a_iconst (pc := 26) (c := 0) hC (by decide +kernel) ?_
        exact g_zret (pc := 27) hC hE (by decide +kernel) (by omega) (by unfold hasA hasS at *; split <;> (try split at *) <;> (try simp only [hq2] at *) <;> omega) rfl
      · skip
        refine a_iconst (pc := 22) (c := 1) hC (by decide +kernel) ?_
        refine a_goto (pc := 23) (off := 4) hC 27 (by decide +kernel) (by decide) ?_
        exact g_zret (pc := 27) hC hE (by decide +kernel) (by omega) (by unfold hasA hasS at *; split <;> (try split at *) <;> (try simp only [hq2] at *) <;> omega) rfl

set_option maxRecDepth 100000 in
set_option maxHeartbeats 4000000 in
theorem ct_W_stepScale (l : Launch) (D : va_G) (K : K5) (G : GT) (N : Nat) (hw : WW G N) : Ct l D K y_W_stepScale c_W_stepScale 1 (some .long) 0 0 [.ref 1] G (some (vl (stepZ G))) G := by
  refine Ct.intro (by decide +kernel) (Nat.le_of_ble_eq_true rfl) ?_
  intro X hro hty hC hE
  obtain ⟨hn, hN5, hsh, hac, hpa, hwe, hth⟩ := id hw
  refine a_ldc2 (pc := 0) (idx := 54) (z := 60) (v := 60) hC (by decide +kernel) (by decide +kernel) rfl ?_
  refine a_aload_n (pc := 3) (q := 0) (i := 0) (x := 1) hC (by decide +kernel) rfl 0 rfl ?_
  refine g_get (pc := 4) (idx := 18) (ci := 4) (v := vi (G 1 2)) hC 1 2 (by decide +kernel) rfl rfl rfl rfl wrW (by decide) rfl (by decide +kernel) ?_
  refine a_i2l (pc := 7) hC (by decide +kernel) (by unfold inI; omega) ?_
  refine a_lmul (pc := 8) hC (by decide +kernel) ?_
  exact g_lret (pc := 9) hC hE (by decide +kernel) rfl rfl

set_option maxRecDepth 100000 in
set_option maxHeartbeats 4000000 in
theorem ct_W_comesTo (l : Launch) (D : va_G) (K : K5) (G : GT) (N slot u : Nat) (hsl : slot < 15) (su : shape[u]? = some (.inr (2, [fR (u + 1), fL]))) (su1 : shape[u + 1]? = some (shL 5)) (hw : WW G N) : Ct l D K y_W_comesTo c_W_comesTo 9 (some .long) 1 20 [.ref 1, vi ((slot : Int)), .ref u] G (some (vl (comesZ G N slot u))) G := by
  refine Ct.intro (by decide +kernel) (Nat.le_of_ble_eq_true rfl) ?_
  intro X hro hty hC hE
  obtain ⟨hn, hN5, hsh, hac, hpa, hwe, hth⟩ := id hw
  have hps := hpa slot hsl
  refine a_aload_n (pc := 0) (q := 0) (i := 0) (x := 1) hC (by decide +kernel) rfl 0 rfl ?_
  refine g_get (pc := 1) (idx := 29) (ci := 4) (v := .ref 4) hC 1 5 (by decide +kernel) rfl rfl rfl rfl wrW (by decide) rfl (by decide +kernel) ?_
  refine a_iload_n (pc := 4) (q := 1) (i := 1) (x := (slot : Int)) hC (by decide +kernel) rfl 1 rfl ?_
  refine g_iald (pc := 5) (a := 4) (j := slot) hC hty (by decide +kernel) rfl (by omega) (by first | decide | omega) ?_
  refine a_i2l (pc := 6) hC (by decide +kernel) (by unfold inI; omega) ?_
  refine a_aload_n (pc := 7) (q := 0) (i := 0) (x := 1) hC (by decide +kernel) rfl 0 rfl ?_
  refine g_callV (pc := 8) (idx := 56) (i := 1) (av := []) (rest := [vl (G 4 slot)]) (g := G) (v := vl (stepZ G)) hC hro hty (by decide +kernel) rfl rfl k_W_stepScale (by decide +kernel) (by decide +kernel) (by decide +kernel) (ct_W_stepScale X.la X.dd K G N hw) rfl rfl (by decide) (by first | decide | simp [Value.category]) ?_
  refine a_lmul (pc := 11) hC (by decide +kernel) ?_
  refine a_aload_n (pc := 12) (q := 2) (i := 2) (x := u) hC (by decide +kernel) rfl 2 rfl ?_
  refine g_getN (pc := 13) (idx := 60) (ci := 2) (v := vl (G u 1)) (host := "PlanValues") hC u 1 (by decide +kernel) su rfl rfl rfl wrU (by decide) rfl (by decide +kernel) ?_
  refine a_lmul (pc := 16) hC (by decide +kernel) ?_
  refine a_lstore_n (pc := 17) (q := 3) (i := 3) (lv' := [(3, vl (((G 4 slot) * (stepZ G)) * (G u 1))), (0, .ref 1), (1, vi ((slot : Int))), (2, .ref u)]) hC (by decide +kernel) rfl (by decide) rfl ?_
  refine a_aload_n (pc := 18) (q := 0) (i := 0) (x := 1) hC (by decide +kernel) rfl 1 rfl ?_
  refine g_get (pc := 19) (idx := 32) (ci := 4) (v := .ref 5) hC 1 6 (by decide +kernel) rfl rfl rfl rfl wrW (by decide) rfl (by decide +kernel) ?_
  refine a_iload_n (pc := 22) (q := 1) (i := 1) (x := (slot : Int)) hC (by decide +kernel) rfl 2 rfl ?_
  refine g_iald (pc := 23) (a := 5) (j := slot) hC hty (by decide +kernel) rfl (by omega) (by first | decide | omega) ?_
  refine a_istore (pc := 24) (q := 0) (i := 5) (lv' := [(5, vi (G 5 slot)), (3, vl (((G 4 slot) * (stepZ G)) * (G u 1))), (0, .ref 1), (1, vi ((slot : Int))), (2, .ref u)]) hC (by decide +kernel) (by decide) rfl ?_
  refine a_iload (pc := 26) (i := 5) (x := G 5 slot) hC (by decide +kernel) 0 rfl ?_
  refine a_if_ne (pc := 28) (off := 5) hC 33 (by decide +kernel) (by decide) (by unfold inI; omega) (fun c28 => ?_) (fun c28 => ?_)
  · skip
    refine a_lconst (pc := 33) (c := 0) (z := 0) hC (by decide +kernel) rfl ?_
    refine a_lstore (pc := 34) (q := 0) (i := 6) (lv' := [(6, vl 0), (5, vi (G 5 slot)), (3, vl (((G 4 slot) * (stepZ G)) * (G u 1))), (0, .ref 1), (1, vi ((slot : Int))), (2, .ref u)]) hC (by decide +kernel) (by decide) rfl ?_
    refine a_iconst (pc := 36) (c := 0) hC (by decide +kernel) ?_
    refine a_istore (pc := 37) (q := 0) (i := 8) (lv' := [(8, vi 0), (6, vl 0), (5, vi (G 5 slot)), (3, vl (((G 4 slot) * (stepZ G)) * (G u 1))), (0, .ref 1), (1, vi ((slot : Int))), (2, .ref u)]) hC (by decide +kernel) (by decide) rfl ?_
    have L39 : ∀ (fuel : Nat) (t : Nat), N - t < fuel → t ≤ N → AW X 9 0 0 39 [(8, vi ((t : Int))), (6, vl (sumZ (fun z => G (7 + slot) z * G (u + 1) z) t)), (5, vi (G 5 slot)), (3, vl ((G 4 slot * stepZ G) * G u 1)), (0, .ref 1), (1, vi ((slot : Int))), (2, .ref u)] [] (hp K G) := by
      intro fuel
      induction fuel with
      | zero => intro t h; exact absurd h (Nat.not_lt_zero _)
      | succ fuel ih39 =>
        intro t hm ht
        refine a_iload (pc := 39) (i := 8) (x := (t : Int)) hC (by decide +kernel) 0 rfl ?_
        refine a_aload_n (pc := 41) (q := 0) (i := 0) (x := 1) hC (by decide +kernel) rfl 4 rfl ?_
        refine g_get (pc := 42) (idx := 9) (ci := 4) (v := vi (G 1 0)) hC 1 0 (by decide +kernel) rfl rfl rfl rfl wrW (by decide) rfl (by decide +kernel) ?_
        refine a_icmp_ge (pc := 45) (off := 32) hC 77 (by decide +kernel) (by decide) (by unfold inI; omega) (by unfold inI; omega) (fun c45 => ?_) (fun c45 => ?_)
        · skip
          refine a_lload_n (pc := 77) (q := 3) (i := 3) (x := (G 4 slot * stepZ G) * G u 1) hC (by decide +kernel) rfl 3 rfl ?_
          refine a_aload_n (pc := 78) (q := 0) (i := 0) (x := 1) hC (by decide +kernel) rfl 4 rfl ?_
          refine g_get (pc := 79) (idx := 15) (ci := 4) (v := vi (G 1 1)) hC 1 1 (by decide +kernel) rfl rfl rfl rfl wrW (by decide) rfl (by decide +kernel) ?_
          refine a_i2l (pc := 82) hC (by decide +kernel) (by unfold inI; omega) ?_
          refine a_bipush (pc := 83) (c := 60) hC (by decide +kernel) (by decide +kernel) ?_
          refine a_iload (pc := 85) (i := 5) (x := G 5 slot) hC (by decide +kernel) 2 rfl ?_
          refine a_idiv (pc := 87) hC (by decide +kernel) (by unfold inI; omega) (by unfold inI; omega) (by omega) ?_
          refine a_i2l (pc := 88) hC (by decide +kernel) (td60 (by omega) (by omega)) ?_
          refine a_lmul (pc := 89) hC (by decide +kernel) ?_
          refine a_lload (pc := 90) (i := 6) (x := sumZ (fun z => G (7 + slot) z * G (u + 1) z) t) hC (by decide +kernel) 1 rfl ?_
          refine a_lmul (pc := 92) hC (by decide +kernel) ?_
          refine a_ladd (pc := 93) hC (by decide +kernel) ?_
          exact g_lret (pc := 94) hC hE (by decide +kernel) (by unfold comesZ; rw [if_neg c28]; rw [show t = N by omega]) rfl
        · skip
          have hwt := hwe slot t hsl (by omega)
          refine a_lload (pc := 48) (i := 6) (x := sumZ (fun z => G (7 + slot) z * G (u + 1) z) t) hC (by decide +kernel) 1 rfl ?_
          refine a_aload_n (pc := 50) (q := 0) (i := 0) (x := 1) hC (by decide +kernel) rfl 4 rfl ?_
          refine g_get (pc := 51) (idx := 37) (ci := 4) (v := .ref 6) hC 1 7 (by decide +kernel) rfl rfl rfl rfl wrW (by decide) rfl (by decide +kernel) ?_
          refine a_iload_n (pc := 54) (q := 1) (i := 1) (x := (slot : Int)) hC (by decide +kernel) rfl 5 rfl ?_
          refine g_aaldI (pc := 55) (a := 6) (j := slot) hC hty (by decide +kernel) rfl (by omega) (by first | decide | omega) ?_
          refine a_iload (pc := 56) (i := 8) (x := (t : Int)) hC (by decide +kernel) 0 rfl ?_
          refine g_iald (pc := 58) (a := 7 + slot) (j := t) hC hty (by decide +kernel) (sh_we (by omega : slot < 15)) (by omega) (by first | decide | omega) ?_
          refine a_i2l (pc := 59) hC (by decide +kernel) (by unfold inI; omega) ?_
          refine a_aload_n (pc := 60) (q := 2) (i := 2) (x := u) hC (by decide +kernel) rfl 6 rfl ?_
          refine g_getN (pc := 61) (idx := 66) (ci := 2) (v := .ref (u + 1)) (host := "PlanValues") hC u 0 (by decide +kernel) su rfl rfl rfl wrU (by decide) rfl (by decide +kernel) ?_
          refine a_iload (pc := 64) (i := 8) (x := (t : Int)) hC (by decide +kernel) 0 rfl ?_
          refine g_lald (pc := 66) (a := u + 1) (j := t) hC hty (by decide +kernel) su1 (by omega) (by first | decide | omega) ?_
          refine a_lmul (pc := 67) hC (by decide +kernel) ?_
          refine a_ladd (pc := 68) hC (by decide +kernel) ?_
          refine a_lstore (pc := 69) (q := 0) (i := 6) (lv' := [(6, vl ((sumZ (fun z => G (7 + slot) z * G (u + 1) z) t) + ((G (7 + slot) t) * (G (u + 1) t)))), (8, vi ((t : Int))), (5, vi (G 5 slot)), (3, vl ((G 4 slot * stepZ G) * G u 1)), (0, .ref 1), (1, vi ((slot : Int))), (2, .ref u)]) hC (by decide +kernel) (by decide) rfl ?_
          refine a_iinc (pc := 71) (i := 8) (c := 1) (x := (t : Int)) (lv' := [(8, vi (((t : Int)) + 1)), (6, vl ((sumZ (fun z => G (7 + slot) z * G (u + 1) z) t) + ((G (7 + slot) t) * (G (u + 1) t)))), (5, vi (G 5 slot)), (3, vl ((G 4 slot * stepZ G) * G u 1)), (0, .ref 1), (1, vi ((slot : Int))), (2, .ref u)]) hC (by decide +kernel) 1 rfl (by decide) rfl ?_
          refine a_goto (pc := 74) (off := -35) hC 39 (by decide +kernel) (by decide) ?_
          refine a_sub (lv' := [(8, vi (((t + 1) : Int))), (6, vl (sumZ (fun z => G (7 + slot) z * G (u + 1) z) (t + 1))), (5, vi (G 5 slot)), (3, vl ((G 4 slot * stepZ G) * G u 1)), (0, .ref 1), (1, vi ((slot : Int))), (2, .ref u)]) [0, 1, 2, 3, 4, 5, 6] rfl ?_
          exact ih39 (t + 1) (by omega) (by omega)
    refine a_sub (lv' := [(8, vi ((0 : Int))), (6, vl (sumZ (fun z => G (7 + slot) z * G (u + 1) z) 0)), (5, vi (G 5 slot)), (3, vl ((G 4 slot * stepZ G) * G u 1)), (0, .ref 1), (1, vi ((slot : Int))), (2, .ref u)]) [0, 1, 2, 3, 4, 5, 6] rfl ?_
    exact L39 _ 0 (Nat.lt_succ_self _) (by omega)
  · skip
    refine a_lload_n (pc := 31) (q := 3) (i := 3) (x := ((G 4 slot) * (stepZ G)) * (G u 1)) hC (by decide +kernel) rfl 1 rfl ?_
    exact g_lret (pc := 32) hC hE (by decide +kernel) (by unfold comesZ; rw [if_pos (by omega)]) rfl

set_option maxRecDepth 100000 in
set_option maxHeartbeats 4000000 in
theorem ct_W_likes (l : Launch) (D : va_G) (K : K5) (G : GT) (s N : Nat) (x y : Int) (hs : s < 5) (hw : WW G N) (hx : inL x) (hy : inL y) : Ct l D K y_W_likes c_W_likes 6 (some .boolean) 0 0 [.ref 1, vi ((s : Int)), vl x, vl y] G (some (vi (likesZ G s x y))) G := by
  refine Ct.intro (by decide +kernel) (Nat.le_of_ble_eq_true rfl) ?_
  intro X hro hty hC hE
  obtain ⟨hn, hN5, hsh, hac, hpa, hwe, hth⟩ := id hw
  have h2 := hth s hs
  refine a_aload_n (pc := 0) (q := 0) (i := 0) (x := 1) hC (by decide +kernel) rfl 0 rfl ?_
  refine g_get (pc := 1) (idx := 21) (ci := 4) (v := .ref 2) hC 1 3 (by decide +kernel) rfl rfl rfl rfl wrW (by decide) rfl (by decide +kernel) ?_
  refine a_iload_n (pc := 4) (q := 1) (i := 1) (x := (s : Int)) hC (by decide +kernel) rfl 1 rfl ?_
  refine g_zald (pc := 5) (a := 2) (j := s) hC hty (by decide +kernel) rfl (by omega) (by first | decide | omega) ?_
  refine a_if_eq (pc := 6) (off := 18) hC 24 (by decide +kernel) (by decide) (by unfold inI; omega) (fun c6 => ?_) (fun c6 => ?_)
  · skip
    refine a_lload_n (pc := 24) (q := 2) (i := 2) (x := x) hC (by decide +kernel) rfl 2 rfl ?_
    refine a_lload (pc := 25) (i := 4) (x := y) hC (by decide +kernel) 3 rfl ?_
    refine a_lcmp (pc := 27) hC (by decide +kernel) hx hy ?_
    refine a_if_le (pc := 28) (off := 7) hC 35 (by decide +kernel) (by decide) (cmpZ_in _ _) (fun c28 => ?_) (fun c28 => ?_)
    · skip
      rw [cmpZ_le] at c28
      refine a_iconst (pc := 35) (c := 0) hC (by decide +kernel) ?_
      exact g_zret (pc := 36) hC hE (by decide +kernel) (by omega) (by unfold likesZ; split <;> (try split) <;> omega) rfl
    · skip
      rw [cmpZ_le] at c28
      refine a_iconst (pc := 31) (c := 1) hC (by decide +kernel) ?_
      refine a_goto (pc := 32) (off := 4) hC 36 (by decide +kernel) (by decide) ?_
      exact g_zret (pc := 36) hC hE (by decide +kernel) (by omega) (by unfold likesZ; split <;> (try split) <;> omega) rfl
  · skip
    refine a_lload_n (pc := 9) (q := 2) (i := 2) (x := x) hC (by decide +kernel) rfl 2 rfl ?_
    refine a_lload (pc := 10) (i := 4) (x := y) hC (by decide +kernel) 3 rfl ?_
    refine a_lcmp (pc := 12) hC (by decide +kernel) hx hy ?_
    refine a_if_ge (pc := 13) (off := 7) hC 20 (by decide +kernel) (by decide) (cmpZ_in _ _) (fun c13 => ?_) (fun c13 => ?_)
    · skip
      rw [cmpZ_ge] at c13
      refine a_iconst (pc := 20) (c := 0) hC (by decide +kernel) ?_
      refine a_goto (pc := 21) (off := 15) hC 36 (by decide +kernel) (by decide) ?_
      exact g_zret (pc := 36) hC hE (by decide +kernel) (by omega) (by unfold likesZ; split <;> (try split) <;> omega) rfl
    · skip
      rw [cmpZ_ge] at c13
      refine a_iconst (pc := 16) (c := 1) hC (by decide +kernel) ?_
      refine a_goto (pc := 17) (off := 19) hC 36 (by decide +kernel) (by decide) ?_
      exact g_zret (pc := 36) hC hE (by decide +kernel) (by omega) (by unfold likesZ; split <;> (try split) <;> omega) rfl

theorem likesZ_01 (G : GT) (s : Nat) (x y : Int) : likesZ G s x y = 0 ∨ likesZ G s x y = 1 := by unfold likesZ; split <;> split <;> omega
theorem likS_in {G : GT} {N s held u A : Nat} (hh : held < 3) (hA : A ≤ 3) (hr : ∀ a, a < 3 → inL (comesZ G N (s * 3 + a) u)) : ∀ a, a ≤ A → inL (likS G N s held u a).2 ∧ 0 ≤ (likS G N s held u a).1 ∧ (likS G N s held u a).1 < 3
  | 0, _ => ⟨hr held hh, by show (0 : Int) ≤ (held : Int); omega, by show (held : Int) < 3; omega⟩
  | a + 1, h => by
    have ih := likS_in hh hA hr a (by omega)
    unfold likS
    split
    · exact ⟨hr a (by omega), by show (0 : Int) ≤ (a : Int); omega, by show (a : Int) < 3; omega⟩
    · exact ih

set_option maxRecDepth 100000 in
set_option maxHeartbeats 4000000 in
theorem ct_W_likedAct (l : Launch) (D : va_G) (K : K5) (G : GT) (N s held u A : Nat) (hs : s < 5) (hh : held < 3) (hA : G 3 s = (A : Int)) (su : shape[u]? = some (.inr (2, [fR (u + 1), fL]))) (su1 : shape[u + 1]? = some (shL 5)) (hw : WW G N) (hr : ∀ a, a < 3 → inL (comesZ G N (s * 3 + a) u)) : Ct l D K y_W_likedAct c_W_likedAct 10 (some .int) 2 48 [.ref 1, vi ((s : Int)), vi ((held : Int)), .ref u] G (some (vi ((likS G N s held u A).1))) G := by
  refine Ct.intro (by decide +kernel) (Nat.le_of_ble_eq_true rfl) ?_
  intro X hro hty hC hE
  obtain ⟨hn, hN5, hsh, hac, hpa, hwe, hth⟩ := id hw
  have h3 := hac s hs
  refine a_iload_n (pc := 0) (q := 2) (i := 2) (x := (held : Int)) hC (by decide +kernel) rfl 2 rfl ?_
  refine a_istore (pc := 1) (q := 0) (i := 4) (lv' := [(4, vi ((held : Int))), (0, .ref 1), (1, vi ((s : Int))), (2, vi ((held : Int))), (3, .ref u)]) hC (by decide +kernel) (by decide) rfl ?_
  refine a_aload_n (pc := 3) (q := 0) (i := 0) (x := 1) hC (by decide +kernel) rfl 1 rfl ?_
  refine a_iload_n (pc := 4) (q := 1) (i := 1) (x := (s : Int)) hC (by decide +kernel) rfl 2 rfl ?_
  refine a_iload_n (pc := 5) (q := 2) (i := 2) (x := (held : Int)) hC (by decide +kernel) rfl 3 rfl ?_
  refine g_callS (pc := 6) (idx := 50) (av := [vi ((s : Int)), vi ((held : Int))]) (rest := [.ref 1]) (g := G) (v := vi (((s : Int)) * 3 + ((held : Int)))) hC hro hty (by decide +kernel) k_W_slotOf (by decide +kernel) (by decide +kernel) (ct_W_slotOf X.la X.dd K G ((s : Int)) ((held : Int))) rfl rfl (by decide) (by first | decide | simp [Value.category]) ?_
  refine g_top (y := ((s * 3 + held : Nat) : Int)) (by omega) ?_
  refine a_aload_n (pc := 9) (q := 3) (i := 3) (x := u) hC (by decide +kernel) rfl 4 rfl ?_
  refine g_callV (pc := 10) (idx := 70) (i := 1) (av := [vi (((s * 3 + held : Nat) : Int)), .ref u]) (rest := []) (g := G) (v := vl (comesZ G N (s * 3 + held) u)) hC hro hty (by decide +kernel) rfl rfl k_W_comesTo (by decide +kernel) (by decide +kernel) (by decide +kernel) (ct_W_comesTo X.la X.dd K G N (s * 3 + held) u (by omega) su su1 hw) rfl rfl (by decide) (by first | decide | simp [Value.category]) ?_
  refine a_lstore (pc := 13) (q := 0) (i := 5) (lv' := [(5, vl (comesZ G N (s * 3 + held) u)), (4, vi ((held : Int))), (0, .ref 1), (1, vi ((s : Int))), (2, vi ((held : Int))), (3, .ref u)]) hC (by decide +kernel) (by decide) rfl ?_
  refine a_iconst (pc := 15) (c := 0) hC (by decide +kernel) ?_
  refine a_istore (pc := 16) (q := 0) (i := 7) (lv' := [(7, vi 0), (5, vl (comesZ G N (s * 3 + held) u)), (4, vi ((held : Int))), (0, .ref 1), (1, vi ((s : Int))), (2, vi ((held : Int))), (3, .ref u)]) hC (by decide +kernel) (by decide) rfl ?_
  have L18 : ∀ (fuel : Nat) (a : Nat), A - a < fuel → a ≤ A → AW X 10 0 0 18 [(7, vi ((a : Int))), (5, vl ((likS G N s held u a).2)), (4, vi ((likS G N s held u a).1)), (0, .ref 1), (1, vi ((s : Int))), (2, vi ((held : Int))), (3, .ref u)] [] (hp K G) := by
    intro fuel
    induction fuel with
    | zero => intro a h; exact absurd h (Nat.not_lt_zero _)
    | succ fuel ih18 =>
      intro a hm ha
      have hin := likS_in hh (by omega : A ≤ 3) hr a ha
      refine a_iload (pc := 18) (i := 7) (x := (a : Int)) hC (by decide +kernel) 0 rfl ?_
      refine a_aload_n (pc := 20) (q := 0) (i := 0) (x := 1) hC (by decide +kernel) rfl 3 rfl ?_
      refine g_get (pc := 21) (idx := 25) (ci := 4) (v := .ref 3) hC 1 4 (by decide +kernel) rfl rfl rfl rfl wrW (by decide) rfl (by decide +kernel) ?_
      refine a_iload_n (pc := 24) (q := 1) (i := 1) (x := (s : Int)) hC (by decide +kernel) rfl 4 rfl ?_
      refine g_iald (pc := 25) (a := 3) (j := s) hC hty (by decide +kernel) rfl (by omega) (by first | decide | omega) ?_
      refine a_icmp_ge (pc := 26) (off := 42) hC 68 (by decide +kernel) (by decide) (by unfold inI; omega) (by unfold inI; omega) (fun c26 => ?_) (fun c26 => ?_)
      · skip
        refine a_iload (pc := 68) (i := 4) (x := (likS G N s held u a).1) hC (by decide +kernel) 2 rfl ?_
        exact g_iret (pc := 70) hC hE (by decide +kernel) (by rw [show a = A by omega]) rfl
      · skip
        refine a_aload_n (pc := 29) (q := 0) (i := 0) (x := 1) hC (by decide +kernel) rfl 3 rfl ?_
        refine a_iload_n (pc := 30) (q := 1) (i := 1) (x := (s : Int)) hC (by decide +kernel) rfl 4 rfl ?_
        refine a_iload (pc := 31) (i := 7) (x := (a : Int)) hC (by decide +kernel) 0 rfl ?_
        refine g_callS (pc := 33) (idx := 50) (av := [vi ((s : Int)), vi ((a : Int))]) (rest := [.ref 1]) (g := G) (v := vi (((s : Int)) * 3 + ((a : Int)))) hC hro hty (by decide +kernel) k_W_slotOf (by decide +kernel) (by decide +kernel) (ct_W_slotOf X.la X.dd K G ((s : Int)) ((a : Int))) rfl rfl (by decide) (by first | decide | simp [Value.category]) ?_
        refine g_top (y := ((s * 3 + a : Nat) : Int)) (by omega) ?_
        refine a_aload_n (pc := 36) (q := 3) (i := 3) (x := u) hC (by decide +kernel) rfl 6 rfl ?_
        refine g_callV (pc := 37) (idx := 70) (i := 1) (av := [vi (((s * 3 + a : Nat) : Int)), .ref u]) (rest := []) (g := G) (v := vl (comesZ G N (s * 3 + a) u)) hC hro hty (by decide +kernel) rfl rfl k_W_comesTo (by decide +kernel) (by decide +kernel) (by decide +kernel) (ct_W_comesTo X.la X.dd K G N (s * 3 + a) u (by omega) su su1 hw) rfl rfl (by decide) (by first | decide | simp [Value.category]) ?_
        refine a_lstore (pc := 40) (q := 0) (i := 8) (lv' := [(8, vl (comesZ G N (s * 3 + a) u)), (7, vi ((a : Int))), (5, vl ((likS G N s held u a).2)), (4, vi ((likS G N s held u a).1)), (0, .ref 1), (1, vi ((s : Int))), (2, vi ((held : Int))), (3, .ref u)]) hC (by decide +kernel) (by decide) rfl ?_
        refine a_aload_n (pc := 42) (q := 0) (i := 0) (x := 1) hC (by decide +kernel) rfl 4 rfl ?_
        refine a_iload_n (pc := 43) (q := 1) (i := 1) (x := (s : Int)) hC (by decide +kernel) rfl 5 rfl ?_
        refine a_lload (pc := 44) (i := 8) (x := comesZ G N (s * 3 + a) u) hC (by decide +kernel) 0 rfl ?_
        refine a_lload (pc := 46) (i := 5) (x := (likS G N s held u a).2) hC (by decide +kernel) 2 rfl ?_
        refine g_callV (pc := 48) (idx := 74) (i := 1) (av := [vi ((s : Int)), vl (comesZ G N (s * 3 + a) u), vl ((likS G N s held u a).2)]) (rest := []) (g := G) (v := vi (likesZ G s (comesZ G N (s * 3 + a) u) ((likS G N s held u a).2))) hC hro hty (by decide +kernel) rfl rfl k_W_likes (by decide +kernel) (by decide +kernel) (by decide +kernel) (ct_W_likes X.la X.dd K G s N (comesZ G N (s * 3 + a) u) ((likS G N s held u a).2) (by omega) hw (hr a (by omega)) hin.1) rfl rfl (by decide) (by first | decide | simp [Value.category]) ?_
        refine a_if_eq (pc := 51) (off := 11) hC 62 (by decide +kernel) (by decide) (by unfold inI; have := likesZ_01 G s (comesZ G N (s * 3 + a) u) (likS G N s held u a).2; omega) (fun c51 => ?_) (fun c51 => ?_)
        · skip
          have hl0 : ¬ likesZ G s (comesZ G N (s * 3 + a) u) (likS G N s held u a).2 = 1 := by omega
          have hstep : likS G N s held u (a + 1) = likS G N s held u a := by show (if _ then _ else _) = _; rw [if_neg hl0]
          refine a_iinc (pc := 62) (i := 7) (c := 1) (x := (a : Int)) (lv' := [(7, vi (((a : Int)) + 1)), (8, vl (comesZ G N (s * 3 + a) u)), (5, vl ((likS G N s held u a).2)), (4, vi ((likS G N s held u a).1)), (0, .ref 1), (1, vi ((s : Int))), (2, vi ((held : Int))), (3, .ref u)]) hC (by decide +kernel) 1 rfl (by decide) rfl ?_
          refine a_goto (pc := 65) (off := -47) hC 18 (by decide +kernel) (by decide) ?_
          refine a_sub (lv' := [(7, vi (((a + 1) : Int))), (5, vl ((likS G N s held u (a + 1)).2)), (4, vi ((likS G N s held u (a + 1)).1)), (0, .ref 1), (1, vi ((s : Int))), (2, vi ((held : Int))), (3, .ref u)]) [0, 2, 3, 4, 5, 6, 7] (by rw [hstep]; rfl) ?_
          exact ih18 (a + 1) (by omega) (by omega)
        · skip
          have hl1 : likesZ G s (comesZ G N (s * 3 + a) u) (likS G N s held u a).2 = 1 := by have := likesZ_01 G s (comesZ G N (s * 3 + a) u) (likS G N s held u a).2; omega
          have hstep : likS G N s held u (a + 1) = ((a : Int), comesZ G N (s * 3 + a) u) := by show (if _ then _ else _) = _; rw [if_pos hl1]
          refine a_iload (pc := 54) (i := 7) (x := (a : Int)) hC (by decide +kernel) 1 rfl ?_
          refine a_istore (pc := 56) (q := 0) (i := 4) (lv' := [(4, vi ((a : Int))), (8, vl (comesZ G N (s * 3 + a) u)), (7, vi ((a : Int))), (5, vl ((likS G N s held u a).2)), (0, .ref 1), (1, vi ((s : Int))), (2, vi ((held : Int))), (3, .ref u)]) hC (by decide +kernel) (by decide) rfl ?_
          refine a_lload (pc := 58) (i := 8) (x := comesZ G N (s * 3 + a) u) hC (by decide +kernel) 1 rfl ?_
          refine a_lstore (pc := 60) (q := 0) (i := 5) (lv' := [(5, vl (comesZ G N (s * 3 + a) u)), (4, vi ((a : Int))), (8, vl (comesZ G N (s * 3 + a) u)), (7, vi ((a : Int))), (0, .ref 1), (1, vi ((s : Int))), (2, vi ((held : Int))), (3, .ref u)]) hC (by decide +kernel) (by decide) rfl ?_
          refine a_iinc (pc := 62) (i := 7) (c := 1) (x := (a : Int)) (lv' := [(7, vi (((a : Int)) + 1)), (5, vl (comesZ G N (s * 3 + a) u)), (4, vi ((a : Int))), (8, vl (comesZ G N (s * 3 + a) u)), (0, .ref 1), (1, vi ((s : Int))), (2, vi ((held : Int))), (3, .ref u)]) hC (by decide +kernel) 3 rfl (by decide) rfl ?_
          refine a_goto (pc := 65) (off := -47) hC 18 (by decide +kernel) (by decide) ?_
          refine a_sub (lv' := [(7, vi (((a + 1) : Int))), (5, vl ((likS G N s held u (a + 1)).2)), (4, vi ((likS G N s held u (a + 1)).1)), (0, .ref 1), (1, vi ((s : Int))), (2, vi ((held : Int))), (3, .ref u)]) [0, 1, 2, 4, 5, 6, 7] (by rw [hstep]; rfl) ?_
          exact ih18 (a + 1) (by omega) (by omega)
  refine a_sub (lv' := [(7, vi ((0 : Int))), (5, vl ((likS G N s held u 0).2)), (4, vi ((likS G N s held u 0).1)), (0, .ref 1), (1, vi ((s : Int))), (2, vi ((held : Int))), (3, .ref u)]) [0, 1, 2, 3, 4, 5, 6] rfl ?_
  exact L18 _ 0 (Nat.lt_succ_self _) (by omega)

set_option maxRecDepth 100000 in
set_option maxHeartbeats 4000000 in
theorem ct_W_addState (l : Launch) (D : va_G) (K : K5) (G : GT) (N : Nat) (t : Int) (ht : t = 0 ∨ t = 1) (hw : WW G N) (hlt : N < 5) : Ct l D K y_W_addState c_W_addState 3 (some .int) 0 0 [.ref 1, vi t] G (some (vi ((N : Int)))) (uG (uG G 2 (up (G 2) N t)) 1 (up (G 1) 0 (G 1 0 + 1))) := by
  refine Ct.intro (by decide +kernel) (Nat.le_of_ble_eq_true rfl) ?_
  intro X hro hty hC hE
  obtain ⟨hn, hN5, hsh, hac, hpa, hwe, hth⟩ := id hw
  refine a_aload_n (pc := 0) (q := 0) (i := 0) (x := 1) hC (by decide +kernel) rfl 0 rfl ?_
  refine g_get (pc := 1) (idx := 9) (ci := 4) (v := vi (G 1 0)) hC 1 0 (by decide +kernel) rfl rfl rfl rfl wrW (by decide) rfl (by decide +kernel) ?_
  refine a_istore_n (pc := 4) (q := 2) (i := 2) (lv' := [(2, vi (G 1 0)), (0, .ref 1), (1, vi t)]) hC (by decide +kernel) rfl (by decide) rfl ?_
  refine a_aload_n (pc := 5) (q := 0) (i := 0) (x := 1) hC (by decide +kernel) rfl 1 rfl ?_
  refine g_get (pc := 6) (idx := 21) (ci := 4) (v := .ref 2) hC 1 3 (by decide +kernel) rfl rfl rfl rfl wrW (by decide) rfl (by decide +kernel) ?_
  refine a_iload_n (pc := 9) (q := 2) (i := 2) (x := G 1 0) hC (by decide +kernel) rfl 0 rfl ?_
  refine a_iload_n (pc := 10) (q := 1) (i := 1) (x := t) hC (by decide +kernel) rfl 2 rfl ?_
  refine g_snd (y := ((N : Nat) : Int)) (by omega) ?_
  refine g_zast (pc := 11) (a := 2) (j := N) (x := t) hC hty ht (by decide +kernel) rfl (by omega) (by first | decide | omega) ?_
  refine a_aload_n (pc := 12) (q := 0) (i := 0) (x := 1) hC (by decide +kernel) rfl 1 rfl ?_
  refine a_dup (pc := 13) hC (by decide +kernel) rfl ?_
  refine g_get (pc := 14) (idx := 9) (ci := 4) (v := vi ((uG G 2 (up (G 2) N t)) 1 0)) hC 1 0 (by decide +kernel) rfl rfl rfl rfl wrW (by decide) rfl (by decide +kernel) ?_
  refine a_iconst (pc := 17) (c := 1) hC (by decide +kernel) ?_
  refine a_iadd (pc := 18) hC (by decide +kernel) ?_
  refine g_put (pc := 19) (idx := 9) (ci := 4) (x := ((uG G 2 (up (G 2) N t)) 1 0) + 1) hC 1 0 (by decide +kernel) rfl rfl (congrArg (fun z => vi z) (up_s _ _ _)) rfl wrW (by decide) rfl (by decide +kernel) rfl (ok_int _) ?_
  refine a_iload_n (pc := 22) (q := 2) (i := 2) (x := G 1 0) hC (by decide +kernel) rfl 0 rfl ?_
  exact g_iret (pc := 23) hC hE (by decide +kernel) hn rfl

set_option maxRecDepth 100000 in
set_option maxHeartbeats 4000000 in
theorem ct_W_addAct (l : Launch) (D : va_G) (K : K5) (G : GT) (N s A : Nat) (p : Int) (hs : s < 5) (hA : G 3 s = (A : Int)) (hA3 : A < 3) : Ct l D K y_W_addAct c_W_addAct 4 (some .int) 1 21 [.ref 1, vi ((s : Int)), vi p] G (some (vi ((A : Int)))) (uG (uG G 4 (up (G 4) (s * 3 + A) p)) 3 (up (G 3) s (G 3 s + 1))) := by
  refine Ct.intro (by decide +kernel) (Nat.le_of_ble_eq_true rfl) ?_
  intro X hro hty hC hE
  refine a_aload_n (pc := 0) (q := 0) (i := 0) (x := 1) hC (by decide +kernel) rfl 0 rfl ?_
  refine g_get (pc := 1) (idx := 25) (ci := 4) (v := .ref 3) hC 1 4 (by decide +kernel) rfl rfl rfl rfl wrW (by decide) rfl (by decide +kernel) ?_
  refine a_iload_n (pc := 4) (q := 1) (i := 1) (x := (s : Int)) hC (by decide +kernel) rfl 1 rfl ?_
  refine g_iald (pc := 5) (a := 3) (j := s) hC hty (by decide +kernel) rfl (by omega) (by first | decide | omega) ?_
  refine a_istore_n (pc := 6) (q := 3) (i := 3) (lv' := [(3, vi (G 3 s)), (0, .ref 1), (1, vi ((s : Int))), (2, vi p)]) hC (by decide +kernel) rfl (by decide) rfl ?_
  refine a_aload_n (pc := 7) (q := 0) (i := 0) (x := 1) hC (by decide +kernel) rfl 1 rfl ?_
  refine g_get (pc := 8) (idx := 29) (ci := 4) (v := .ref 4) hC 1 5 (by decide +kernel) rfl rfl rfl rfl wrW (by decide) rfl (by decide +kernel) ?_
  refine a_iload_n (pc := 11) (q := 1) (i := 1) (x := (s : Int)) hC (by decide +kernel) rfl 2 rfl ?_
  refine a_iload_n (pc := 12) (q := 3) (i := 3) (x := G 3 s) hC (by decide +kernel) rfl 0 rfl ?_
  refine g_callS (pc := 13) (idx := 50) (av := [vi ((s : Int)), vi (G 3 s)]) (rest := [.ref 4]) (g := G) (v := vi (((s : Int)) * 3 + (G 3 s))) hC hro hty (by decide +kernel) k_W_slotOf (by decide +kernel) (by decide +kernel) (ct_W_slotOf X.la X.dd K G ((s : Int)) (G 3 s)) rfl rfl (by decide) (by first | decide | simp [Value.category]) ?_
  refine a_iload_n (pc := 16) (q := 2) (i := 2) (x := p) hC (by decide +kernel) rfl 3 rfl ?_
  refine g_snd (y := ((s * 3 + A : Nat) : Int)) (by omega) ?_
  refine g_iast (pc := 17) (a := 4) (j := s * 3 + A) (x := p) hC hty (by decide +kernel) rfl (by omega) (by first | decide | omega) ?_
  refine a_aload_n (pc := 18) (q := 0) (i := 0) (x := 1) hC (by decide +kernel) rfl 1 rfl ?_
  refine g_get (pc := 19) (idx := 25) (ci := 4) (v := .ref 3) hC 1 4 (by decide +kernel) rfl rfl rfl rfl wrW (by decide) rfl (by decide +kernel) ?_
  refine a_iload_n (pc := 22) (q := 1) (i := 1) (x := (s : Int)) hC (by decide +kernel) rfl 2 rfl ?_
  refine a_dup2 (pc := 23) hC (by decide +kernel) rfl rfl ?_
  refine g_iald (pc := 24) (a := 3) (j := s) hC hty (by decide +kernel) rfl (by omega) (by first | decide | omega) ?_
  refine a_iconst (pc := 25) (c := 1) hC (by decide +kernel) ?_
  refine a_iadd (pc := 26) hC (by decide +kernel) ?_
  refine g_iast (pc := 27) (a := 3) (j := s) (x := ((uG G 4 (up (G 4) (s * 3 + A) p)) 3 s) + 1) hC hty (by decide +kernel) rfl (by omega) (by first | decide | omega) ?_
  refine a_iload_n (pc := 28) (q := 3) (i := 3) (x := G 3 s) hC (by decide +kernel) rfl 0 rfl ?_
  exact g_iret (pc := 29) hC hE (by decide +kernel) hA rfl

set_option maxRecDepth 100000 in
set_option maxHeartbeats 4000000 in
theorem ct_JA_fill_AII (l : Launch) (D : va_G) (K : K5) (G : GT) (a M : Nat) (x : Int) (sa : shape[a]? = some (shI M)) (hM : M < 10000) : Ct l D K y_JA_fill_AII c_JA_fill_AII 4 none 0 0 [.ref a, vi x] G none (uG G a (fillF (G a) M x)) := by
  refine Ct.intro (by decide +kernel) (Nat.le_of_ble_eq_true rfl) ?_
  intro X hro hty hC hE
  refine a_iconst (pc := 0) (c := 0) hC (by decide +kernel) ?_
  refine a_istore_n (pc := 1) (q := 2) (i := 2) (lv' := [(2, vi 0), (0, .ref a), (1, vi x)]) hC (by decide +kernel) rfl (by decide) rfl ?_
  refine a_aload_n (pc := 2) (q := 0) (i := 0) (x := a) hC (by decide +kernel) rfl 1 rfl ?_
  refine g_alenI (pc := 3) (a := a) (N := M) hC hty (by decide +kernel) sa ?_
  refine a_istore_n (pc := 4) (q := 3) (i := 3) (lv' := [(3, vi ((M : Int))), (2, vi 0), (0, .ref a), (1, vi x)]) hC (by decide +kernel) rfl (by decide) rfl ?_
  have L5 : ∀ (fuel : Nat) (i : Nat), M - i < fuel → i ≤ M → AW X 4 0 0 5 [(3, vi ((M : Int))), (2, vi ((i : Int))), (0, .ref a), (1, vi x)] [] (hp K (uG G a (fillF (G a) i x))) := by
    intro fuel
    induction fuel with
    | zero => intro i h; exact absurd h (Nat.not_lt_zero _)
    | succ fuel ih5 =>
      intro i hm hi
      refine a_iload_n (pc := 5) (q := 2) (i := 2) (x := (i : Int)) hC (by decide +kernel) rfl 1 rfl ?_
      refine a_iload_n (pc := 6) (q := 3) (i := 3) (x := (M : Int)) hC (by decide +kernel) rfl 0 rfl ?_
      refine a_icmp_ge (pc := 7) (off := 13) hC 20 (by decide +kernel) (by decide) (by unfold inI; omega) (by unfold inI; omega) (fun c7 => ?_) (fun c7 => ?_)
      · skip
        exact g_vret (pc := 20) hC hE (by decide +kernel) (by rw [show i = M by omega])
      · skip
        refine a_aload_n (pc := 10) (q := 0) (i := 0) (x := a) hC (by decide +kernel) rfl 2 rfl ?_
        refine a_iload_n (pc := 11) (q := 2) (i := 2) (x := (i : Int)) hC (by decide +kernel) rfl 1 rfl ?_
        refine a_iload_n (pc := 12) (q := 1) (i := 1) (x := x) hC (by decide +kernel) rfl 3 rfl ?_
        refine g_iast (pc := 13) (a := a) (j := i) (x := x) hC hty (by decide +kernel) sa (by omega) (by first | decide | omega) ?_
        refine a_iinc (pc := 14) (i := 2) (c := 1) (x := (i : Int)) (lv' := [(2, vi (((i : Int)) + 1)), (3, vi ((M : Int))), (0, .ref a), (1, vi x)]) hC (by decide +kernel) 1 rfl (by decide) rfl ?_
        refine a_goto (pc := 17) (off := -12) hC 5 (by decide +kernel) (by decide) ?_
        refine a_sub (lv' := [(3, vi ((M : Int))), (2, vi (((i + 1) : Int))), (0, .ref a), (1, vi x)]) [1, 0, 2, 3] rfl ?_
        refine g_G (G' := uG G a (fillF (G a) (i + 1) x)) (by rw [uG_s, uG_uG, fillF_s]) ?_
        exact ih5 (i + 1) (by omega) (by omega)
  refine a_sub (lv' := [(3, vi ((M : Int))), (2, vi ((0 : Int))), (0, .ref a), (1, vi x)]) [0, 1, 2, 3] rfl ?_
  refine g_G (G' := uG G a (fillF (G a) 0 x)) (by rw [fillF_0, uG_self]) ?_
  exact L5 _ 0 (Nat.lt_succ_self _) (by omega)

set_option maxRecDepth 100000 in
set_option maxHeartbeats 4000000 in
theorem ct_JA_fill_AJJ (l : Launch) (D : va_G) (K : K5) (G : GT) (a M : Nat) (x : Int) (sa : shape[a]? = some (shL M)) (hM : M < 10000) : Ct l D K y_JA_fill_AJJ c_JA_fill_AJJ 5 none 0 0 [.ref a, vl x] G none (uG G a (fillF (G a) M x)) := by
  refine Ct.intro (by decide +kernel) (Nat.le_of_ble_eq_true rfl) ?_
  intro X hro hty hC hE
  refine a_iconst (pc := 0) (c := 0) hC (by decide +kernel) ?_
  refine a_istore_n (pc := 1) (q := 3) (i := 3) (lv' := [(3, vi 0), (0, .ref a), (1, vl x)]) hC (by decide +kernel) rfl (by decide) rfl ?_
  refine a_aload_n (pc := 2) (q := 0) (i := 0) (x := a) hC (by decide +kernel) rfl 1 rfl ?_
  refine g_alenL (pc := 3) (a := a) (N := M) hC hty (by decide +kernel) sa ?_
  refine a_istore (pc := 4) (q := 0) (i := 4) (lv' := [(4, vi ((M : Int))), (3, vi 0), (0, .ref a), (1, vl x)]) hC (by decide +kernel) (by decide) rfl ?_
  have L6 : ∀ (fuel : Nat) (i : Nat), M - i < fuel → i ≤ M → AW X 5 0 0 6 [(4, vi ((M : Int))), (3, vi ((i : Int))), (0, .ref a), (1, vl x)] [] (hp K (uG G a (fillF (G a) i x))) := by
    intro fuel
    induction fuel with
    | zero => intro i h; exact absurd h (Nat.not_lt_zero _)
    | succ fuel ih6 =>
      intro i hm hi
      refine a_iload_n (pc := 6) (q := 3) (i := 3) (x := (i : Int)) hC (by decide +kernel) rfl 1 rfl ?_
      refine a_iload (pc := 7) (i := 4) (x := (M : Int)) hC (by decide +kernel) 0 rfl ?_
      refine a_icmp_ge (pc := 9) (off := 13) hC 22 (by decide +kernel) (by decide) (by unfold inI; omega) (by unfold inI; omega) (fun c9 => ?_) (fun c9 => ?_)
      · skip
        exact g_vret (pc := 22) hC hE (by decide +kernel) (by rw [show i = M by omega])
      · skip
        refine a_aload_n (pc := 12) (q := 0) (i := 0) (x := a) hC (by decide +kernel) rfl 2 rfl ?_
        refine a_iload_n (pc := 13) (q := 3) (i := 3) (x := (i : Int)) hC (by decide +kernel) rfl 1 rfl ?_
        refine a_lload_n (pc := 14) (q := 1) (i := 1) (x := x) hC (by decide +kernel) rfl 3 rfl ?_
        refine g_last (pc := 15) (a := a) (j := i) (x := x) hC hty (by decide +kernel) sa (by omega) (by first | decide | omega) ?_
        refine a_iinc (pc := 16) (i := 3) (c := 1) (x := (i : Int)) (lv' := [(3, vi (((i : Int)) + 1)), (4, vi ((M : Int))), (0, .ref a), (1, vl x)]) hC (by decide +kernel) 1 rfl (by decide) rfl ?_
        refine a_goto (pc := 19) (off := -13) hC 6 (by decide +kernel) (by decide) ?_
        refine a_sub (lv' := [(4, vi ((M : Int))), (3, vi (((i + 1) : Int))), (0, .ref a), (1, vl x)]) [1, 0, 2, 3] rfl ?_
        refine g_G (G' := uG G a (fillF (G a) (i + 1) x)) (by rw [uG_s, uG_uG, fillF_s]) ?_
        exact ih6 (i + 1) (by omega) (by omega)
  refine a_sub (lv' := [(4, vi ((M : Int))), (3, vi ((0 : Int))), (0, .ref a), (1, vl x)]) [0, 1, 2, 3] rfl ?_
  refine g_G (G' := uG G a (fillF (G a) 0 x)) (by rw [fillF_0, uG_self]) ?_
  exact L6 _ 0 (Nat.lt_succ_self _) (by omega)

def forgG (G : GT) : GT := uG (uG (uG (uG (uG (uG G 1 (up (G 1) 0 0)) 1 (up (uG G 1 (up (G 1) 0 0) 1) 1 1)) 1 (up (uG (uG G 1 (up (G 1) 0 0)) 1 (up (uG G 1 (up (G 1) 0 0) 1) 1 1) 1) 2 2)) 3 (fillF (G 3) 5 0)) 4 (fillF (G 4) 15 0)) 5 (fillF (G 5) 15 0)
set_option maxRecDepth 100000 in
set_option maxHeartbeats 4000000 in
theorem ct_W_forget (l : Launch) (D : va_G) (K : K5) (G : GT)  : Ct l D K y_W_forget c_W_forget 2 none 1 23 [.ref 1] G none (clrG (forgG G) 7 15 5) := by
  refine Ct.intro (by decide +kernel) (Nat.le_of_ble_eq_true rfl) ?_
  intro X hro hty hC hE
  refine a_aload_n (pc := 0) (q := 0) (i := 0) (x := 1) hC (by decide +kernel) rfl 0 rfl ?_
  refine a_iconst (pc := 1) (c := 0) hC (by decide +kernel) ?_
  refine g_put (pc := 2) (idx := 9) (ci := 4) (x := 0) hC 1 0 (by decide +kernel) rfl rfl (congrArg (fun z => vi z) (up_s _ _ _)) rfl wrW (by decide) rfl (by decide +kernel) rfl (ok_int _) ?_
  refine a_aload_n (pc := 5) (q := 0) (i := 0) (x := 1) hC (by decide +kernel) rfl 0 rfl ?_
  refine a_iconst (pc := 6) (c := 1) hC (by decide +kernel) ?_
  refine g_put (pc := 7) (idx := 15) (ci := 4) (x := 1) hC 1 1 (by decide +kernel) rfl rfl (congrArg (fun z => vi z) (up_s _ _ _)) rfl wrW (by decide) rfl (by decide +kernel) rfl (ok_int _) ?_
  refine a_aload_n (pc := 10) (q := 0) (i := 0) (x := 1) hC (by decide +kernel) rfl 0 rfl ?_
  refine a_iconst (pc := 11) (c := 2) hC (by decide +kernel) ?_
  refine g_put (pc := 12) (idx := 18) (ci := 4) (x := 2) hC 1 2 (by decide +kernel) rfl rfl (congrArg (fun z => vi z) (up_s _ _ _)) rfl wrW (by decide) rfl (by decide +kernel) rfl (ok_int _) ?_
  refine a_aload_n (pc := 15) (q := 0) (i := 0) (x := 1) hC (by decide +kernel) rfl 0 rfl ?_
  refine g_get (pc := 16) (idx := 25) (ci := 4) (v := .ref 3) hC 1 4 (by decide +kernel) rfl rfl rfl rfl wrW (by decide) rfl (by decide +kernel) ?_
  refine a_iconst (pc := 19) (c := 0) hC (by decide +kernel) ?_
  refine g_callS0 (pc := 20) (idx := 40) (av := [.ref 3, vi 0]) (rest := []) (g := uG (uG (uG (uG G 1 (up (G 1) 0 0)) 1 (up ((uG G 1 (up (G 1) 0 0)) 1) 1 1)) 1 (up ((uG (uG G 1 (up (G 1) 0 0)) 1 (up ((uG G 1 (up (G 1) 0 0)) 1) 1 1)) 1) 2 2)) 3 (fillF ((uG (uG (uG G 1 (up (G 1) 0 0)) 1 (up ((uG G 1 (up (G 1) 0 0)) 1) 1 1)) 1 (up ((uG (uG G 1 (up (G 1) 0 0)) 1 (up ((uG G 1 (up (G 1) 0 0)) 1) 1 1)) 1) 2 2)) 3) 5 0)) hC hro hty (by decide +kernel) k_JA_fill_AII (by decide +kernel) (by decide +kernel) (ct_JA_fill_AII X.la X.dd K (uG (uG (uG G 1 (up (G 1) 0 0)) 1 (up ((uG G 1 (up (G 1) 0 0)) 1) 1 1)) 1 (up ((uG (uG G 1 (up (G 1) 0 0)) 1 (up ((uG G 1 (up (G 1) 0 0)) 1) 1 1)) 1) 2 2)) 3 5 0 rfl (by decide)) rfl rfl (by decide) (by first | decide | simp [Value.category]) ?_
  refine a_aload_n (pc := 23) (q := 0) (i := 0) (x := 1) hC (by decide +kernel) rfl 0 rfl ?_
  refine g_get (pc := 24) (idx := 29) (ci := 4) (v := .ref 4) hC 1 5 (by decide +kernel) rfl rfl rfl rfl wrW (by decide) rfl (by decide +kernel) ?_
  refine a_iconst (pc := 27) (c := 0) hC (by decide +kernel) ?_
  refine g_callS0 (pc := 28) (idx := 40) (av := [.ref 4, vi 0]) (rest := []) (g := uG (uG (uG (uG (uG G 1 (up (G 1) 0 0)) 1 (up ((uG G 1 (up (G 1) 0 0)) 1) 1 1)) 1 (up ((uG (uG G 1 (up (G 1) 0 0)) 1 (up ((uG G 1 (up (G 1) 0 0)) 1) 1 1)) 1) 2 2)) 3 (fillF ((uG (uG (uG G 1 (up (G 1) 0 0)) 1 (up ((uG G 1 (up (G 1) 0 0)) 1) 1 1)) 1 (up ((uG (uG G 1 (up (G 1) 0 0)) 1 (up ((uG G 1 (up (G 1) 0 0)) 1) 1 1)) 1) 2 2)) 3) 5 0)) 4 (fillF ((uG (uG (uG (uG G 1 (up (G 1) 0 0)) 1 (up ((uG G 1 (up (G 1) 0 0)) 1) 1 1)) 1 (up ((uG (uG G 1 (up (G 1) 0 0)) 1 (up ((uG G 1 (up (G 1) 0 0)) 1) 1 1)) 1) 2 2)) 3 (fillF ((uG (uG (uG G 1 (up (G 1) 0 0)) 1 (up ((uG G 1 (up (G 1) 0 0)) 1) 1 1)) 1 (up ((uG (uG G 1 (up (G 1) 0 0)) 1 (up ((uG G 1 (up (G 1) 0 0)) 1) 1 1)) 1) 2 2)) 3) 5 0)) 4) 15 0)) hC hro hty (by decide +kernel) k_JA_fill_AII (by decide +kernel) (by decide +kernel) (ct_JA_fill_AII X.la X.dd K (uG (uG (uG (uG G 1 (up (G 1) 0 0)) 1 (up ((uG G 1 (up (G 1) 0 0)) 1) 1 1)) 1 (up ((uG (uG G 1 (up (G 1) 0 0)) 1 (up ((uG G 1 (up (G 1) 0 0)) 1) 1 1)) 1) 2 2)) 3 (fillF ((uG (uG (uG G 1 (up (G 1) 0 0)) 1 (up ((uG G 1 (up (G 1) 0 0)) 1) 1 1)) 1 (up ((uG (uG G 1 (up (G 1) 0 0)) 1 (up ((uG G 1 (up (G 1) 0 0)) 1) 1 1)) 1) 2 2)) 3) 5 0)) 4 15 0 rfl (by decide)) rfl rfl (by decide) (by first | decide | simp [Value.category]) ?_
  refine a_aload_n (pc := 31) (q := 0) (i := 0) (x := 1) hC (by decide +kernel) rfl 0 rfl ?_
  refine g_get (pc := 32) (idx := 32) (ci := 4) (v := .ref 5) hC 1 6 (by decide +kernel) rfl rfl rfl rfl wrW (by decide) rfl (by decide +kernel) ?_
  refine a_iconst (pc := 35) (c := 0) hC (by decide +kernel) ?_
  refine g_callS0 (pc := 36) (idx := 40) (av := [.ref 5, vi 0]) (rest := []) (g := uG (uG (uG (uG (uG (uG G 1 (up (G 1) 0 0)) 1 (up ((uG G 1 (up (G 1) 0 0)) 1) 1 1)) 1 (up ((uG (uG G 1 (up (G 1) 0 0)) 1 (up ((uG G 1 (up (G 1) 0 0)) 1) 1 1)) 1) 2 2)) 3 (fillF ((uG (uG (uG G 1 (up (G 1) 0 0)) 1 (up ((uG G 1 (up (G 1) 0 0)) 1) 1 1)) 1 (up ((uG (uG G 1 (up (G 1) 0 0)) 1 (up ((uG G 1 (up (G 1) 0 0)) 1) 1 1)) 1) 2 2)) 3) 5 0)) 4 (fillF ((uG (uG (uG (uG G 1 (up (G 1) 0 0)) 1 (up ((uG G 1 (up (G 1) 0 0)) 1) 1 1)) 1 (up ((uG (uG G 1 (up (G 1) 0 0)) 1 (up ((uG G 1 (up (G 1) 0 0)) 1) 1 1)) 1) 2 2)) 3 (fillF ((uG (uG (uG G 1 (up (G 1) 0 0)) 1 (up ((uG G 1 (up (G 1) 0 0)) 1) 1 1)) 1 (up ((uG (uG G 1 (up (G 1) 0 0)) 1 (up ((uG G 1 (up (G 1) 0 0)) 1) 1 1)) 1) 2 2)) 3) 5 0)) 4) 15 0)) 5 (fillF ((uG (uG (uG (uG (uG G 1 (up (G 1) 0 0)) 1 (up ((uG G 1 (up (G 1) 0 0)) 1) 1 1)) 1 (up ((uG (uG G 1 (up (G 1) 0 0)) 1 (up ((uG G 1 (up (G 1) 0 0)) 1) 1 1)) 1) 2 2)) 3 (fillF ((uG (uG (uG G 1 (up (G 1) 0 0)) 1 (up ((uG G 1 (up (G 1) 0 0)) 1) 1 1)) 1 (up ((uG (uG G 1 (up (G 1) 0 0)) 1 (up ((uG G 1 (up (G 1) 0 0)) 1) 1 1)) 1) 2 2)) 3) 5 0)) 4 (fillF ((uG (uG (uG (uG G 1 (up (G 1) 0 0)) 1 (up ((uG G 1 (up (G 1) 0 0)) 1) 1 1)) 1 (up ((uG (uG G 1 (up (G 1) 0 0)) 1 (up ((uG G 1 (up (G 1) 0 0)) 1) 1 1)) 1) 2 2)) 3 (fillF ((uG (uG (uG G 1 (up (G 1) 0 0)) 1 (up ((uG G 1 (up (G 1) 0 0)) 1) 1 1)) 1 (up ((uG (uG G 1 (up (G 1) 0 0)) 1 (up ((uG G 1 (up (G 1) 0 0)) 1) 1 1)) 1) 2 2)) 3) 5 0)) 4) 15 0)) 5) 15 0)) hC hro hty (by decide +kernel) k_JA_fill_AII (by decide +kernel) (by decide +kernel) (ct_JA_fill_AII X.la X.dd K (uG (uG (uG (uG (uG G 1 (up (G 1) 0 0)) 1 (up ((uG G 1 (up (G 1) 0 0)) 1) 1 1)) 1 (up ((uG (uG G 1 (up (G 1) 0 0)) 1 (up ((uG G 1 (up (G 1) 0 0)) 1) 1 1)) 1) 2 2)) 3 (fillF ((uG (uG (uG G 1 (up (G 1) 0 0)) 1 (up ((uG G 1 (up (G 1) 0 0)) 1) 1 1)) 1 (up ((uG (uG G 1 (up (G 1) 0 0)) 1 (up ((uG G 1 (up (G 1) 0 0)) 1) 1 1)) 1) 2 2)) 3) 5 0)) 4 (fillF ((uG (uG (uG (uG G 1 (up (G 1) 0 0)) 1 (up ((uG G 1 (up (G 1) 0 0)) 1) 1 1)) 1 (up ((uG (uG G 1 (up (G 1) 0 0)) 1 (up ((uG G 1 (up (G 1) 0 0)) 1) 1 1)) 1) 2 2)) 3 (fillF ((uG (uG (uG G 1 (up (G 1) 0 0)) 1 (up ((uG G 1 (up (G 1) 0 0)) 1) 1 1)) 1 (up ((uG (uG G 1 (up (G 1) 0 0)) 1 (up ((uG G 1 (up (G 1) 0 0)) 1) 1 1)) 1) 2 2)) 3) 5 0)) 4) 15 0)) 5 15 0 rfl (by decide)) rfl rfl (by decide) (by first | decide | simp [Value.category]) ?_
  refine a_iconst (pc := 39) (c := 0) hC (by decide +kernel) ?_
  refine a_istore_n (pc := 40) (q := 1) (i := 1) (lv' := [(1, vi 0), (0, .ref 1)]) hC (by decide +kernel) rfl (by decide) rfl ?_
  have L41 : ∀ (fuel : Nat) (q : Nat), 15 - q < fuel → q ≤ 15 → AW X 2 0 0 41 [(1, vi ((q : Int))), (0, .ref 1)] [] (hp K (clrG (forgG G) 7 q 5)) := by
    intro fuel
    induction fuel with
    | zero => intro q h; exact absurd h (Nat.not_lt_zero _)
    | succ fuel ih41 =>
      intro q hm hq
      refine a_iload_n (pc := 41) (q := 1) (i := 1) (x := (q : Int)) hC (by decide +kernel) rfl 0 rfl ?_
      refine a_bipush (pc := 42) (c := 15) hC (by decide +kernel) (by decide +kernel) ?_
      refine a_icmp_ge (pc := 44) (off := 19) hC 63 (by decide +kernel) (by decide) (by unfold inI; omega) (by unfold inI; omega) (fun c44 => ?_) (fun c44 => ?_)
      · skip
        exact g_vret (pc := 63) hC hE (by decide +kernel) (by rw [show q = 15 by omega])
      · skip
        refine a_aload_n (pc := 47) (q := 0) (i := 0) (x := 1) hC (by decide +kernel) rfl 1 rfl ?_
        refine g_get (pc := 48) (idx := 37) (ci := 4) (v := .ref 6) hC 1 7 (by decide +kernel) rfl rfl rfl rfl wrW (by decide) rfl (by decide +kernel) ?_
        refine a_iload_n (pc := 51) (q := 1) (i := 1) (x := (q : Int)) hC (by decide +kernel) rfl 0 rfl ?_
        refine g_aaldI (pc := 52) (a := 6) (j := q) hC hty (by decide +kernel) rfl (by omega) (by first | decide | omega) ?_
        refine a_iconst (pc := 53) (c := 0) hC (by decide +kernel) ?_
        refine g_callS0 (pc := 54) (idx := 40) (av := [.ref (7 + q), vi 0]) (rest := []) (g := uG (clrG (forgG G) 7 q 5) (7 + q) (fillF ((clrG (forgG G) 7 q 5) (7 + q)) 5 0)) hC hro hty (by decide +kernel) k_JA_fill_AII (by decide +kernel) (by decide +kernel) (ct_JA_fill_AII X.la X.dd K (clrG (forgG G) 7 q 5) (7 + q) 5 0 (sh_we (by omega : q < 15)) (by decide)) rfl rfl (by decide) (by first | decide | simp [Value.category]) ?_
        refine a_iinc (pc := 57) (i := 1) (c := 1) (x := (q : Int)) (lv' := [(1, vi (((q : Int)) + 1)), (0, .ref 1)]) hC (by decide +kernel) 0 rfl (by decide) rfl ?_
        refine a_goto (pc := 60) (off := -19) hC 41 (by decide +kernel) (by decide) ?_
        refine a_sub (lv' := [(1, vi (((q + 1) : Int))), (0, .ref 1)]) [0, 1] rfl ?_
        refine g_G (G' := clrG (forgG G) 7 (q + 1) 5) (clrG_s _ _ _ _) ?_
        exact ih41 (q + 1) (by omega) (by omega)
  refine a_sub (lv' := [(1, vi ((0 : Int))), (0, .ref 1)]) [0, 1] rfl ?_
  refine g_G (G' := clrG (forgG G) 7 0 5) (by rw [clrG_0]; rfl) ?_
  exact L41 _ 0 (Nat.lt_succ_self _) (by omega)
