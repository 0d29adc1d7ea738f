/-! PlanValues: its public methods that calculate -/
theorem sumZ_in {f : Nat → Int} {A : Int} {n : Nat} (h : ∀ t, t < n → -A ≤ f t ∧ f t ≤ A) : ∀ k, k ≤ n → -(A * (k : Int)) ≤ sumZ f k ∧ sumZ f k ≤ A * (k : Int)
  | 0, _ => by unfold sumZ; simp
  | k + 1, hk => by
    have ih := sumZ_in h k (by omega)
    have h1 := h k (by omega)
    have e : A * ((k + 1 : Nat) : Int) = A * (k : Int) + A := by rw [Int.natCast_add, Int.mul_add]; simp
    unfold sumZ
    rw [e]
    omega
theorem td60_in {e : Int} (h1 : 1 ≤ e) (h2 : e ≤ 6) : 0 ≤ Int.tdiv 60 e ∧ Int.tdiv 60 e ≤ 60 := by
  rcases (by omega : e = 1 ∨ e = 2 ∨ e = 3 ∨ e = 4 ∨ e = 5 ∨ e = 6) with rfl | rfl | rfl | rfl | rfl | rfl <;> decide
theorem comes_b {G : GT} {N : Nat} (hw : WW G N) (hn : NumOk G N) {q : Nat} (hq : q < 15) : -200000000000000 ≤ comesZ G N q 30 ∧ comesZ G N q 30 ≤ 200000000000000 := by
  obtain ⟨h1, hN5, hsh, hac, hpa, hwe, hth⟩ := id hw
  have hp := hpa q hq
  have hs : 0 ≤ stepZ G ∧ stepZ G ≤ 360 := by unfold stepZ; omega
  have a1 := mul_in (x := G 4 q) (y := stepZ G) (A := 50) (B := 360) ⟨hp.1, hp.2.1⟩ hs (by decide)
  have a2 := mul_in (x := G 4 q * stepZ G) (y := G 30 1) (A := 18000) (B := 60466176) (by omega) ⟨by have := hn.1; omega, hn.2.1⟩ (by decide)
  unfold comesZ
  split
  · omega
  · next h0 =>
    have ht := td60_in (e := G 5 q) (by omega) (by omega)
    have b0 : ∀ t, t < N → -(108839116800 : Int) ≤ G (7 + q) t * G (30 + 1) t ∧ G (7 + q) t * G (30 + 1) t ≤ 108839116800 := fun t htN => by
      have c1 := hwe q t hq (by omega)
      have c2 := hn.2.2 t htN
      have := mul_in (x := G 31 t) (y := G (7 + q) t) (A := 18139852800) (B := 6) ⟨c2.1, c2.2⟩ c1 (by decide)
      have e2 : G (7 + q) t * G (30 + 1) t = G 31 t * G (7 + q) t := Int.mul_comm _ _
      rw [e2]
      omega
    have b1 := sumZ_in b0 N (Nat.le_refl _)
    have b2 : (108839116800 : Int) * (N : Int) ≤ 544195584000 := by omega
    have b3 := mul_in (x := sumZ (fun t => G (7 + q) t * G (30 + 1) t) N) (y := Int.tdiv 60 (G 5 q)) (A := 544195584000) (B := 60) ⟨by omega, by omega⟩ ht (by decide)
    have b4 := mul_in (x := sumZ (fun t => G (7 + q) t * G (30 + 1) t) N * Int.tdiv 60 (G 5 q)) (y := G 1 1) (A := 32651735040000) (B := 5) (by omega) (by omega) (by decide)
    have e : G 1 1 * Int.tdiv 60 (G 5 q) * sumZ (fun t => G (7 + q) t * G (30 + 1) t) N = sumZ (fun t => G (7 + q) t * G (30 + 1) t) N * Int.tdiv 60 (G 5 q) * G 1 1 := by
      rw [Int.mul_assoc, Int.mul_comm, Int.mul_comm (Int.tdiv 60 (G 5 q))]
    rw [e]
    omega
theorem repL_off {pl N : Nat} {b : Int} (hN : N ≤ 5) {c : Nat} (h : c < 25 ∨ 32 ≤ c) (hp : c ≠ pl) : ∀ (k : Nat) (G : GT), repL pl N b k G c = G c
  | 0, _ => rfl
  | k + 1, G => by
    unfold repL
    split
    · exact impG_off hp
    · rw [repL_off hN h hp k, folR_off hN h, impG_off hp]
theorem repG_off {G : GT} {pl N : Nat} {b : Int} (hN : N ≤ 5) {c : Nat} (h : c < 25 ∨ 32 ≤ c) (hp : c ≠ pl) : repG G pl N b c = G c := by
  unfold repG; rw [repL_off hN h hp, folR_off hN h]
theorem fvL_off {pl N : Nat} (hN : N ≤ 5) {c : Nat} (h : c < 25 ∨ 32 ≤ c) (hp : c ≠ pl) : ∀ (k : Nat) (G : GT), fvL pl N k G c = G c
  | 0, _ => rfl
  | k + 1, G => by
    unfold fvL
    split
    · exact impG_off hp
    · rw [fvL_off hN h hp k, repG_off hN h hp, impG_off hp]
theorem fvG_off0 {G : GT} {pl N : Nat} (hN : N ≤ 5) {c : Nat} (h : c < 25 ∨ 32 ≤ c) (hp : c ≠ pl) : fvG G pl N c = G c := by
  unfold fvG; rw [fvL_off hN h hp, repG_off hN h hp]
theorem fvG_off {G : GT} {N : Nat} (hN : N ≤ 5) {c : Nat} (h : (c < 25 ∨ 32 ≤ c) ∧ c ≠ 48) : fvG G 48 N c = G c := fvG_off0 hN h.1 h.2

set_option maxRecDepth 100000 in
set_option maxHeartbeats 4000000 in
theorem ct_V_value_no (l : Launch) (D : va_G) (K : K5) (G : GT) (N : Nat) (s : Int)  (hsi : inI s) (hv : VV G N) (hno : hasS G s = 0) : Ct l D K y_V_value c_V_value 2 (some .int) 6 150 [.ref 0, vi s] G (some (vi (-1))) G := by
  refine Ct.intro (by decide +kernel) (Nat.le_of_ble_eq_true rfl) ?_
  intro X hro hty hC hE
  obtain ⟨hw, hp47, hp48⟩ := id hv
  obtain ⟨hn, hN5, hsh, hac, hpa, hwe, hth⟩ := id hw
  refine a_aload_n (pc := 0) (q := 0) (i := 0) (x := 0) hC (by decide +kernel) rfl 0 rfl ?_
  refine g_get (pc := 1) (idx := 10) (ci := 5) (v := .ref 1) hC 0 0 (by decide +kernel) rfl rfl rfl rfl wrV (by decide) rfl (by decide +kernel) ?_
  refine a_iload_n (pc := 4) (q := 1) (i := 1) (x := s) hC (by decide +kernel) rfl 1 rfl ?_
  refine g_callVN (pc := 5) (idx := 75) (i := 1) (av := [vi s]) (rest := []) (g := G) (v := vi (hasS G s)) (host := "PlanValues") hC hro hty (by decide +kernel) rfl rfl k_W_hasState (by decide +kernel) (by decide +kernel) (by decide +kernel) (ct_W_hasState X.la X.dd K G N s hsi hw) rfl rfl (by decide) (by first | decide | simp [Value.category]) ?_
  refine a_if_ne (pc := 8) (off := 5) hC 13 (by decide +kernel) (by decide) (by unfold inI; omega) (fun c8 => ?_) (fun c8 => ?_)
  · skip
    exact absurd hno c8
  · skip
    refine a_iconst (pc := 11) (c := -1) hC (by decide +kernel) ?_
    exact g_iret (pc := 12) hC hE (by decide +kernel) rfl rfl

set_option maxRecDepth 100000 in
set_option maxHeartbeats 4000000 in
theorem ct_V_value (l : Launch) (D : va_G) (K : K5) (G : GT) (N s : Nat) (hs : s < N) (hm0 : MathOk) (hv : VV G N) : Ct l D K y_V_value c_V_value 2 (some .int) 6 150 [.ref 0, vi ((s : Int))] G (some (vi 1)) (ansG (fvG G 48 N) (fvG G 48 N 31 s) (fvG G 48 N 30 1)) := by
  refine Ct.intro (by decide +kernel) (Nat.le_of_ble_eq_true rfl) ?_
  intro X hro hty hC hE
  obtain ⟨hw, hp47, hp48⟩ := id hv
  obtain ⟨hn, hN5, hsh, hac, hpa, hwe, hth⟩ := id hw
  have hf := FolSt.fvG hm0 hw hp48
  have hnu := hf.2.2.2
  have hra := abs_in (hnu.2.2 s hs) (by decide)
  refine a_aload_n (pc := 0) (q := 0) (i := 0) (x := 0) hC (by decide +kernel) rfl 0 rfl ?_
  refine g_get (pc := 1) (idx := 10) (ci := 5) (v := .ref 1) hC 0 0 (by decide +kernel) rfl rfl rfl rfl wrV (by decide) rfl (by decide +kernel) ?_
  refine a_iload_n (pc := 4) (q := 1) (i := 1) (x := (s : Int)) hC (by decide +kernel) rfl 1 rfl ?_
  refine g_callVN (pc := 5) (idx := 75) (i := 1) (av := [vi ((s : Int))]) (rest := []) (g := G) (v := vi (hasS G ((s : Int)))) (host := "PlanValues") hC hro hty (by decide +kernel) rfl rfl k_W_hasState (by decide +kernel) (by decide +kernel) (by decide +kernel) (ct_W_hasState X.la X.dd K G N ((s : Int)) (by unfold inI; omega) hw) rfl rfl (by decide) (by first | decide | simp [Value.category]) ?_
  refine a_if_ne (pc := 8) (off := 5) hC 13 (by decide +kernel) (by decide) (by unfold inI hasS; split <;> omega) (fun c8 => ?_) (fun c8 => ?_)
  · skip
    refine a_aload_n (pc := 13) (q := 0) (i := 0) (x := 0) hC (by decide +kernel) rfl 0 rfl ?_
    refine g_get (pc := 14) (idx := 19) (ci := 5) (v := .ref 22) hC 0 1 (by decide +kernel) rfl rfl rfl rfl wrV (by decide) rfl (by decide +kernel) ?_
    refine a_aload_n (pc := 17) (q := 0) (i := 0) (x := 0) hC (by decide +kernel) rfl 0 rfl ?_
    refine g_get (pc := 18) (idx := 10) (ci := 5) (v := .ref 1) hC 0 0 (by decide +kernel) rfl rfl rfl rfl wrV (by decide) rfl (by decide +kernel) ?_
    refine a_aload_n (pc := 21) (q := 0) (i := 0) (x := 0) hC (by decide +kernel) rfl 0 rfl ?_
    refine g_get (pc := 22) (idx := 45) (ci := 5) (v := .ref 48) hC 0 6 (by decide +kernel) rfl rfl rfl rfl wrV (by decide) rfl (by decide +kernel) ?_
    refine g_callVN0 (pc := 25) (idx := 112) (i := 22) (av := [.ref 1, .ref 48]) (rest := []) (g := fvG G 48 N) (host := "PlanValues") hC hro hty (by decide +kernel) rfl rfl k_P_findValues (by decide +kernel) (by decide +kernel) (by decide +kernel) (ct_P_findValues X.la X.dd K G 48 N hm0 hw hp48) rfl rfl (by decide) (by first | decide | simp [Value.category]) ?_
    refine a_aload_n (pc := 28) (q := 0) (i := 0) (x := 0) hC (by decide +kernel) rfl 0 rfl ?_
    refine a_aload_n (pc := 29) (q := 0) (i := 0) (x := 0) hC (by decide +kernel) rfl 0 rfl ?_
    refine g_get (pc := 30) (idx := 19) (ci := 5) (v := .ref 22) hC 0 1 (by decide +kernel) rfl rfl rfl rfl wrV (by decide) rfl (by decide +kernel) ?_
    refine g_getN (pc := 33) (idx := 116) (ci := 3) (v := .ref 30) (host := "PlanValues") hC 22 1 (by decide +kernel) rfl rfl rfl rfl wrP (by decide) rfl (by decide +kernel) ?_
    refine g_getN (pc := 36) (idx := 119) (ci := 2) (v := .ref 31) (host := "PlanValues") hC 30 0 (by decide +kernel) rfl rfl rfl rfl wrU (by decide) rfl (by decide +kernel) ?_
    refine a_iload_n (pc := 39) (q := 1) (i := 1) (x := (s : Int)) hC (by decide +kernel) rfl 1 rfl ?_
    refine g_lald (pc := 40) (a := 31) (j := s) hC hty (by decide +kernel) rfl (by omega) (by first | decide | omega) ?_
    refine a_aload_n (pc := 41) (q := 0) (i := 0) (x := 0) hC (by decide +kernel) rfl 0 rfl ?_
    refine g_get (pc := 42) (idx := 19) (ci := 5) (v := .ref 22) hC 0 1 (by decide +kernel) rfl rfl rfl rfl wrV (by decide) rfl (by decide +kernel) ?_
    refine g_getN (pc := 45) (idx := 116) (ci := 3) (v := .ref 30) (host := "PlanValues") hC 22 1 (by decide +kernel) rfl rfl rfl rfl wrP (by decide) rfl (by decide +kernel) ?_
    refine g_getN (pc := 48) (idx := 122) (ci := 2) (v := vl ((fvG G 48 N) 30 1)) (host := "PlanValues") hC 30 1 (by decide +kernel) rfl rfl rfl rfl wrU (by decide) rfl (by decide +kernel) ?_
    refine g_callV (pc := 51) (idx := 125) (i := 0) (av := [vl ((fvG G 48 N) 31 s), vl ((fvG G 48 N) 30 1)]) (rest := []) (g := ansG (fvG G 48 N) ((fvG G 48 N) 31 s) ((fvG G 48 N) 30 1)) (v := vi 1) hC hro hty (by decide +kernel) rfl rfl k_V_giveAnswer (by decide +kernel) (by decide +kernel) (by decide +kernel) (ct_V_giveAnswer X.la X.dd K (fvG G 48 N) ((fvG G 48 N) 31 s) ((fvG G 48 N) 30 1) hra.1 hra.2 ⟨by have := hnu.1; omega, by have := hnu.1; have := hnu.2.1; unfold inL; omega⟩) rfl rfl (by decide) (by first | decide | simp [Value.category]) ?_
    exact g_iret (pc := 54) hC hE (by decide +kernel) rfl rfl
  · skip
    exact absurd c8 (by unfold hasS; rw [if_pos (by omega)]; decide)

set_option maxRecDepth 100000 in
set_option maxHeartbeats 4000000 in
theorem ct_V_comes_no (l : Launch) (D : va_G) (K : K5) (G : GT) (N : Nat) (s a : Int)  (hsi : inI s) (hai : inI a) (hv : VV G N) (hno : hasA G s a = 0) : Ct l D K y_V_comes c_V_comes 5 (some .int) 6 150 [.ref 0, vi s, vi a] G (some (vi (-1))) G := by
  refine Ct.intro (by decide +kernel) (Nat.le_of_ble_eq_true rfl) ?_
  intro X hro hty hC hE
  obtain ⟨hw, hp47, hp48⟩ := id hv
  obtain ⟨hn, hN5, hsh, hac, hpa, hwe, hth⟩ := id hw
  refine a_aload_n (pc := 0) (q := 0) (i := 0) (x := 0) hC (by decide +kernel) rfl 0 rfl ?_
  refine g_get (pc := 1) (idx := 10) (ci := 5) (v := .ref 1) hC 0 0 (by decide +kernel) rfl rfl rfl rfl wrV (by decide) rfl (by decide +kernel) ?_
  refine a_iload_n (pc := 4) (q := 1) (i := 1) (x := s) hC (by decide +kernel) rfl 1 rfl ?_
  refine a_iload_n (pc := 5) (q := 2) (i := 2) (x := a) hC (by decide +kernel) rfl 2 rfl ?_
  refine g_callVN (pc := 6) (idx := 89) (i := 1) (av := [vi s, vi a]) (rest := []) (g := G) (v := vi (hasA G s a)) (host := "PlanValues") hC hro hty (by decide +kernel) rfl rfl k_W_hasAct (by decide +kernel) (by decide +kernel) (by decide +kernel) (ct_W_hasAct X.la X.dd K G N s a hsi hai hw) rfl rfl (by decide) (by first | decide | simp [Value.category]) ?_
  refine a_if_ne (pc := 9) (off := 5) hC 14 (by decide +kernel) (by decide) (by unfold inI; omega) (fun c9 => ?_) (fun c9 => ?_)
  · skip
    exact absurd hno c9
  · skip
    refine a_iconst (pc := 12) (c := -1) hC (by decide +kernel) ?_
    exact g_iret (pc := 13) hC hE (by decide +kernel) rfl rfl

set_option maxRecDepth 100000 in
set_option maxHeartbeats 4000000 in
theorem ct_V_comes (l : Launch) (D : va_G) (K : K5) (G : GT) (N s a : Nat) (hs : s < N) (ha : (a : Int) < G 3 s) (hm0 : MathOk) (hv : VV G N) : Ct l D K y_V_comes c_V_comes 5 (some .int) 6 150 [.ref 0, vi ((s : Int)), vi ((a : Int))] G (some (vi 1)) (ansG (fvG G 48 N) (comesZ (fvG G 48 N) N (s * 3 + a) 30) ((fvG G 48 N 30 1) * (stepZ (fvG G 48 N)))) := by
  refine Ct.intro (by decide +kernel) (Nat.le_of_ble_eq_true rfl) ?_
  intro X hro hty hC hE
  obtain ⟨hw, hp47, hp48⟩ := id hv
  obtain ⟨hn, hN5, hsh, hac, hpa, hwe, hth⟩ := id hw
  have ha3 := hac s (by omega)
  have ha2 : a < 3 := by omega
  have hf := FolSt.fvG hm0 hw hp48
  have hnu := hf.2.2.2
  have hra := abs_in (comes_b hf.1 hnu (by omega : s * 3 + a < 15)) (by decide)
  have hst : 0 ≤ stepZ (fvG G 48 N) ∧ stepZ (fvG G 48 N) ≤ 360 := by have := hf.1.2.2.1; unfold stepZ; omega
  have hmu := mul_in (x := fvG G 48 N 30 1) (y := stepZ (fvG G 48 N)) (A := 60466176) (B := 360) ⟨by have := hnu.1; omega, hnu.2.1⟩ hst (by decide)
  have hmp : 0 ≤ fvG G 48 N 30 1 * stepZ (fvG G 48 N) := Int.mul_nonneg (by have := hnu.1; omega) hst.1
  refine a_aload_n (pc := 0) (q := 0) (i := 0) (x := 0) hC (by decide +kernel) rfl 0 rfl ?_
  refine g_get (pc := 1) (idx := 10) (ci := 5) (v := .ref 1) hC 0 0 (by decide +kernel) rfl rfl rfl rfl wrV (by decide) rfl (by decide +kernel) ?_
  refine a_iload_n (pc := 4) (q := 1) (i := 1) (x := (s : Int)) hC (by decide +kernel) rfl 1 rfl ?_
  refine a_iload_n (pc := 5) (q := 2) (i := 2) (x := (a : Int)) hC (by decide +kernel) rfl 2 rfl ?_
  refine g_callVN (pc := 6) (idx := 89) (i := 1) (av := [vi ((s : Int)), vi ((a : Int))]) (rest := []) (g := G) (v := vi (hasA G ((s : Int)) ((a : Int)))) (host := "PlanValues") hC hro hty (by decide +kernel) rfl rfl k_W_hasAct (by decide +kernel) (by decide +kernel) (by decide +kernel) (ct_W_hasAct X.la X.dd K G N ((s : Int)) ((a : Int)) (by unfold inI; omega) (by unfold inI; omega) hw) rfl rfl (by decide) (by first | decide | simp [Value.category]) ?_
  refine a_if_ne (pc := 9) (off := 5) hC 14 (by decide +kernel) (by decide) (by unfold inI hasA; split <;> omega) (fun c9 => ?_) (fun c9 => ?_)
  · skip
    refine a_aload_n (pc := 14) (q := 0) (i := 0) (x := 0) hC (by decide +kernel) rfl 0 rfl ?_
    refine g_get (pc := 15) (idx := 19) (ci := 5) (v := .ref 22) hC 0 1 (by decide +kernel) rfl rfl rfl rfl wrV (by decide) rfl (by decide +kernel) ?_
    refine a_aload_n (pc := 18) (q := 0) (i := 0) (x := 0) hC (by decide +kernel) rfl 0 rfl ?_
    refine g_get (pc := 19) (idx := 10) (ci := 5) (v := .ref 1) hC 0 0 (by decide +kernel) rfl rfl rfl rfl wrV (by decide) rfl (by decide +kernel) ?_
    refine a_aload_n (pc := 22) (q := 0) (i := 0) (x := 0) hC (by decide +kernel) rfl 0 rfl ?_
    refine g_get (pc := 23) (idx := 45) (ci := 5) (v := .ref 48) hC 0 6 (by decide +kernel) rfl rfl rfl rfl wrV (by decide) rfl (by decide +kernel) ?_
    refine g_callVN0 (pc := 26) (idx := 112) (i := 22) (av := [.ref 1, .ref 48]) (rest := []) (g := fvG G 48 N) (host := "PlanValues") hC hro hty (by decide +kernel) rfl rfl k_P_findValues (by decide +kernel) (by decide +kernel) (by decide +kernel) (ct_P_findValues X.la X.dd K G 48 N hm0 hw hp48) rfl rfl (by decide) (by first | decide | simp [Value.category]) ?_
    refine a_aload_n (pc := 29) (q := 0) (i := 0) (x := 0) hC (by decide +kernel) rfl 0 rfl ?_
    refine g_get (pc := 30) (idx := 10) (ci := 5) (v := .ref 1) hC 0 0 (by decide +kernel) rfl rfl rfl rfl wrV (by decide) rfl (by decide +kernel) ?_
    refine a_iload_n (pc := 33) (q := 1) (i := 1) (x := (s : Int)) hC (by decide +kernel) rfl 1 rfl ?_
    refine a_iload_n (pc := 34) (q := 2) (i := 2) (x := (a : Int)) hC (by decide +kernel) rfl 2 rfl ?_
    refine g_callSN (pc := 35) (idx := 93) (av := [vi ((s : Int)), vi ((a : Int))]) (rest := [.ref 1]) (g := fvG G 48 N) (v := vi (((s : Int)) * 3 + ((a : Int)))) (host := "PlanValues") hC hro hty (by decide +kernel) k_W_slotOf (by decide +kernel) (by decide +kernel) (ct_W_slotOf X.la X.dd K (fvG G 48 N) ((s : Int)) ((a : Int))) rfl rfl (by decide) (by first | decide | simp [Value.category]) ?_
    refine g_top (y := ((s * 3 + a : Nat) : Int)) (by omega) ?_
    refine a_aload_n (pc := 38) (q := 0) (i := 0) (x := 0) hC (by decide +kernel) rfl 0 rfl ?_
    refine g_get (pc := 39) (idx := 19) (ci := 5) (v := .ref 22) hC 0 1 (by decide +kernel) rfl rfl rfl rfl wrV (by decide) rfl (by decide +kernel) ?_
    refine g_getN (pc := 42) (idx := 116) (ci := 3) (v := .ref 30) (host := "PlanValues") hC 22 1 (by decide +kernel) rfl rfl rfl rfl wrP (by decide) rfl (by decide +kernel) ?_
    refine g_callVN (pc := 45) (idx := 129) (i := 1) (av := [vi (((s * 3 + a : Nat) : Int)), .ref 30]) (rest := []) (g := fvG G 48 N) (v := vl (comesZ (fvG G 48 N) N (s * 3 + a) 30)) (host := "PlanValues") hC hro hty (by decide +kernel) rfl rfl k_W_comesTo (by decide +kernel) (by decide +kernel) (by decide +kernel) (ct_W_comesTo X.la X.dd K (fvG G 48 N) N (s * 3 + a) 30 (by omega) rfl rfl hf.1) rfl rfl (by decide) (by first | decide | simp [Value.category]) ?_
    refine a_lstore_n (pc := 48) (q := 3) (i := 3) (lv' := [(3, vl (comesZ (fvG G 48 N) N (s * 3 + a) 30)), (0, .ref 0), (1, vi ((s : Int))), (2, vi ((a : Int)))]) hC (by decide +kernel) rfl (by decide) rfl ?_
    refine a_aload_n (pc := 49) (q := 0) (i := 0) (x := 0) hC (by decide +kernel) rfl 1 rfl ?_
    refine a_lload_n (pc := 50) (q := 3) (i := 3) (x := comesZ (fvG G 48 N) N (s * 3 + a) 30) hC (by decide +kernel) rfl 0 rfl ?_
    refine a_aload_n (pc := 51) (q := 0) (i := 0) (x := 0) hC (by decide +kernel) rfl 1 rfl ?_
    refine g_get (pc := 52) (idx := 19) (ci := 5) (v := .ref 22) hC 0 1 (by decide +kernel) rfl rfl rfl rfl wrV (by decide) rfl (by decide +kernel) ?_
    refine g_getN (pc := 55) (idx := 116) (ci := 3) (v := .ref 30) (host := "PlanValues") hC 22 1 (by decide +kernel) rfl rfl rfl rfl wrP (by decide) rfl (by decide +kernel) ?_
    refine g_getN (pc := 58) (idx := 122) (ci := 2) (v := vl ((fvG G 48 N) 30 1)) (host := "PlanValues") hC 30 1 (by decide +kernel) rfl rfl rfl rfl wrU (by decide) rfl (by decide +kernel) ?_
    refine a_aload_n (pc := 61) (q := 0) (i := 0) (x := 0) hC (by decide +kernel) rfl 1 rfl ?_
    refine g_get (pc := 62) (idx := 10) (ci := 5) (v := .ref 1) hC 0 0 (by decide +kernel) rfl rfl rfl rfl wrV (by decide) rfl (by decide +kernel) ?_
    refine g_callVN (pc := 65) (idx := 133) (i := 1) (av := []) (rest := [vl ((fvG G 48 N) 30 1), vl (comesZ (fvG G 48 N) N (s * 3 + a) 30), .ref 0]) (g := fvG G 48 N) (v := vl (stepZ (fvG G 48 N))) (host := "PlanValues") hC hro hty (by decide +kernel) rfl rfl k_W_stepScale (by decide +kernel) (by decide +kernel) (by decide +kernel) (ct_W_stepScale X.la X.dd K (fvG G 48 N) N hf.1) rfl rfl (by decide) (by first | decide | simp [Value.category]) ?_
    refine a_lmul (pc := 68) hC (by decide +kernel) ?_
    refine g_callV (pc := 69) (idx := 125) (i := 0) (av := [vl (comesZ (fvG G 48 N) N (s * 3 + a) 30), vl (((fvG G 48 N) 30 1) * (stepZ (fvG G 48 N)))]) (rest := []) (g := ansG (fvG G 48 N) (comesZ (fvG G 48 N) N (s * 3 + a) 30) (((fvG G 48 N) 30 1) * (stepZ (fvG G 48 N)))) (v := vi 1) hC hro hty (by decide +kernel) rfl rfl k_V_giveAnswer (by decide +kernel) (by decide +kernel) (by decide +kernel) (ct_V_giveAnswer X.la X.dd K (fvG G 48 N) (comesZ (fvG G 48 N) N (s * 3 + a) 30) (((fvG G 48 N) 30 1) * (stepZ (fvG G 48 N))) hra.1 hra.2 ⟨hmp, by unfold inL; omega⟩) rfl rfl (by decide) (by first | decide | simp [Value.category]) ?_
    exact g_iret (pc := 72) hC hE (by decide +kernel) rfl rfl
  · skip
    exact absurd c9 (by unfold hasA; rw [if_pos (by rw [Int.toNat_natCast]; omega)]; decide)

set_option maxRecDepth 100000 in
set_option maxHeartbeats 4000000 in
theorem ct_V_best_no (l : Launch) (D : va_G) (K : K5) (G : GT) (N : Nat) (s : Int)  (hsi : inI s) (hv : VV G N) (hno : hasS G s = 0) : Ct l D K y_V_best c_V_best 2 (some .int) 6 150 [.ref 0, vi s] G (some (vi (-1))) G := by
  refine Ct.intro (by decide +kernel) (Nat.le_of_ble_eq_true rfl) ?_
  intro X hro hty hC hE
  obtain ⟨hw, hp47, hp48⟩ := id hv
  obtain ⟨hn, hN5, hsh, hac, hpa, hwe, hth⟩ := id hw
  refine a_aload_n (pc := 0) (q := 0) (i := 0) (x := 0) hC (by decide +kernel) rfl 0 rfl ?_
  refine g_get (pc := 1) (idx := 10) (ci := 5) (v := .ref 1) hC 0 0 (by decide +kernel) rfl rfl rfl rfl wrV (by decide) rfl (by decide +kernel) ?_
  refine a_iload_n (pc := 4) (q := 1) (i := 1) (x := s) hC (by decide +kernel) rfl 1 rfl ?_
  refine g_callVN (pc := 5) (idx := 75) (i := 1) (av := [vi s]) (rest := []) (g := G) (v := vi (hasS G s)) (host := "PlanValues") hC hro hty (by decide +kernel) rfl rfl k_W_hasState (by decide +kernel) (by decide +kernel) (by decide +kernel) (ct_W_hasState X.la X.dd K G N s hsi hw) rfl rfl (by decide) (by first | decide | simp [Value.category]) ?_
  refine a_if_ne (pc := 8) (off := 5) hC 13 (by decide +kernel) (by decide) (by unfold inI; omega) (fun c8 => ?_) (fun c8 => ?_)
  · skip
    exact absurd hno c8
  · skip
    refine a_iconst (pc := 11) (c := -1) hC (by decide +kernel) ?_
    exact g_iret (pc := 12) hC hE (by decide +kernel) rfl rfl

set_option maxRecDepth 100000 in
set_option maxHeartbeats 4000000 in
theorem ct_V_best (l : Launch) (D : va_G) (K : K5) (G : GT) (N s A : Nat) (hs : s < N) (hA : G 3 s = (A : Int)) (hm0 : MathOk) (hv : VV G N) : Ct l D K y_V_best c_V_best 2 (some .int) 6 150 [.ref 0, vi ((s : Int))] G (some (vi (bbS (fvG G 48 N) N s A))) (fvG G 48 N) := by
  refine Ct.intro (by decide +kernel) (Nat.le_of_ble_eq_true rfl) ?_
  intro X hro hty hC hE
  obtain ⟨hw, hp47, hp48⟩ := id hv
  obtain ⟨hn, hN5, hsh, hac, hpa, hwe, hth⟩ := id hw
  have hf := FolSt.fvG hm0 hw hp48
  have hnu := hf.2.2.2
  have hbo := BstOk.of hf.1 hf.2.2.1 hf.2.2.2
  have hA2 : fvG G 48 N 3 s = (A : Int) := by rw [fvG_off hN5 (by omega)]; exact hA
  refine a_aload_n (pc := 0) (q := 0) (i := 0) (x := 0) hC (by decide +kernel) rfl 0 rfl ?_
  refine g_get (pc := 1) (idx := 10) (ci := 5) (v := .ref 1) hC 0 0 (by decide +kernel) rfl rfl rfl rfl wrV (by decide) rfl (by decide +kernel) ?_
  refine a_iload_n (pc := 4) (q := 1) (i := 1) (x := (s : Int)) hC (by decide +kernel) rfl 1 rfl ?_
  refine g_callVN (pc := 5) (idx := 75) (i := 1) (av := [vi ((s : Int))]) (rest := []) (g := G) (v := vi (hasS G ((s : Int)))) (host := "PlanValues") hC hro hty (by decide +kernel) rfl rfl k_W_hasState (by decide +kernel) (by decide +kernel) (by decide +kernel) (ct_W_hasState X.la X.dd K G N ((s : Int)) (by unfold inI; omega) hw) rfl rfl (by decide) (by first | decide | simp [Value.category]) ?_
  refine a_if_ne (pc := 8) (off := 5) hC 13 (by decide +kernel) (by decide) (by unfold inI hasS; split <;> omega) (fun c8 => ?_) (fun c8 => ?_)
  · skip
    refine a_aload_n (pc := 13) (q := 0) (i := 0) (x := 0) hC (by decide +kernel) rfl 0 rfl ?_
    refine g_get (pc := 14) (idx := 19) (ci := 5) (v := .ref 22) hC 0 1 (by decide +kernel) rfl rfl rfl rfl wrV (by decide) rfl (by decide +kernel) ?_
    refine a_aload_n (pc := 17) (q := 0) (i := 0) (x := 0) hC (by decide +kernel) rfl 0 rfl ?_
    refine g_get (pc := 18) (idx := 10) (ci := 5) (v := .ref 1) hC 0 0 (by decide +kernel) rfl rfl rfl rfl wrV (by decide) rfl (by decide +kernel) ?_
    refine a_aload_n (pc := 21) (q := 0) (i := 0) (x := 0) hC (by decide +kernel) rfl 0 rfl ?_
    refine g_get (pc := 22) (idx := 45) (ci := 5) (v := .ref 48) hC 0 6 (by decide +kernel) rfl rfl rfl rfl wrV (by decide) rfl (by decide +kernel) ?_
    refine g_callVN0 (pc := 25) (idx := 112) (i := 22) (av := [.ref 1, .ref 48]) (rest := []) (g := fvG G 48 N) (host := "PlanValues") hC hro hty (by decide +kernel) rfl rfl k_P_findValues (by decide +kernel) (by decide +kernel) (by decide +kernel) (ct_P_findValues X.la X.dd K G 48 N hm0 hw hp48) rfl rfl (by decide) (by first | decide | simp [Value.category]) ?_
    refine a_aload_n (pc := 28) (q := 0) (i := 0) (x := 0) hC (by decide +kernel) rfl 0 rfl ?_
    refine a_iload_n (pc := 29) (q := 1) (i := 1) (x := (s : Int)) hC (by decide +kernel) rfl 1 rfl ?_
    refine g_callV (pc := 30) (idx := 137) (i := 0) (av := [vi ((s : Int))]) (rest := []) (g := fvG G 48 N) (v := vi (bbS (fvG G 48 N) N s A)) hC hro hty (by decide +kernel) rfl rfl k_V_bestBits (by decide +kernel) (by decide +kernel) (by decide +kernel) (ct_V_bestBits X.la X.dd K (fvG G 48 N) N s A hs hA2 hf.1 hbo) rfl rfl (by decide) (by first | decide | simp [Value.category]) ?_
    exact g_iret (pc := 33) hC hE (by decide +kernel) rfl rfl
  · skip
    exact absurd c8 (by unfold hasS; rw [if_pos (by omega)]; decide)

set_option maxRecDepth 100000 in
set_option maxHeartbeats 4000000 in
theorem ct_V_worth_no (l : Launch) (D : va_G) (K : K5) (G : GT) (N : Nat) (s : Int)  (hsi : inI s) (hv : VV G N) (hno : hasS G s = 0) : Ct l D K y_V_worth c_V_worth 2 (some .int) 3 84 [.ref 0, vi s] G (some (vi (-1))) G := by
  refine Ct.intro (by decide +kernel) (Nat.le_of_ble_eq_true rfl) ?_
  intro X hro hty hC hE
  obtain ⟨hw, hp47, hp48⟩ := id hv
  obtain ⟨hn, hN5, hsh, hac, hpa, hwe, hth⟩ := id hw
  refine a_aload_n (pc := 0) (q := 0) (i := 0) (x := 0) hC (by decide +kernel) rfl 0 rfl ?_
  refine g_get (pc := 1) (idx := 10) (ci := 5) (v := .ref 1) hC 0 0 (by decide +kernel) rfl rfl rfl rfl wrV (by decide) rfl (by decide +kernel) ?_
  refine a_iload_n (pc := 4) (q := 1) (i := 1) (x := s) hC (by decide +kernel) rfl 1 rfl ?_
  refine g_callVN (pc := 5) (idx := 75) (i := 1) (av := [vi s]) (rest := []) (g := G) (v := vi (hasS G s)) (host := "PlanValues") hC hro hty (by decide +kernel) rfl rfl k_W_hasState (by decide +kernel) (by decide +kernel) (by decide +kernel) (ct_W_hasState X.la X.dd K G N s hsi hw) rfl rfl (by decide) (by first | decide | simp [Value.category]) ?_
  refine a_if_ne (pc := 8) (off := 5) hC 13 (by decide +kernel) (by decide) (by unfold inI; omega) (fun c8 => ?_) (fun c8 => ?_)
  · skip
    exact absurd hno c8
  · skip
    refine a_iconst (pc := 11) (c := -1) hC (by decide +kernel) ?_
    exact g_iret (pc := 12) hC hE (by decide +kernel) rfl rfl

set_option maxRecDepth 100000 in
set_option maxHeartbeats 4000000 in
theorem ct_V_worth (l : Launch) (D : va_G) (K : K5) (G : GT) (N s : Nat) (hs : s < N) (hm0 : MathOk) (hv : VV G N) : Ct l D K y_V_worth c_V_worth 2 (some .int) 3 84 [.ref 0, vi ((s : Int))] G (some (vi 1)) (ansG (folR G 47 N) (folR G 47 N 31 s) (folR G 47 N 30 1)) := by
  refine Ct.intro (by decide +kernel) (Nat.le_of_ble_eq_true rfl) ?_
  intro X hro hty hC hE
  obtain ⟨hw, hp47, hp48⟩ := id hv
  obtain ⟨hn, hN5, hsh, hac, hpa, hwe, hth⟩ := id hw
  have hM := hm0 G 47 N hw hp47
  have hnu := hM.2.2
  have hra := abs_in (hnu.2.2 s hs) (by decide)
  refine a_aload_n (pc := 0) (q := 0) (i := 0) (x := 0) hC (by decide +kernel) rfl 0 rfl ?_
  refine g_get (pc := 1) (idx := 10) (ci := 5) (v := .ref 1) hC 0 0 (by decide +kernel) rfl rfl rfl rfl wrV (by decide) rfl (by decide +kernel) ?_
  refine a_iload_n (pc := 4) (q := 1) (i := 1) (x := (s : Int)) hC (by decide +kernel) rfl 1 rfl ?_
  refine g_callVN (pc := 5) (idx := 75) (i := 1) (av := [vi ((s : Int))]) (rest := []) (g := G) (v := vi (hasS G ((s : Int)))) (host := "PlanValues") hC hro hty (by decide +kernel) rfl rfl k_W_hasState (by decide +kernel) (by decide +kernel) (by decide +kernel) (ct_W_hasState X.la X.dd K G N ((s : Int)) (by unfold inI; omega) hw) rfl rfl (by decide) (by first | decide | simp [Value.category]) ?_
  refine a_if_ne (pc := 8) (off := 5) hC 13 (by decide +kernel) (by decide) (by unfold inI hasS; split <;> omega) (fun c8 => ?_) (fun c8 => ?_)
  · skip
    refine a_aload_n (pc := 13) (q := 0) (i := 0) (x := 0) hC (by decide +kernel) rfl 0 rfl ?_
    refine g_get (pc := 14) (idx := 19) (ci := 5) (v := .ref 22) hC 0 1 (by decide +kernel) rfl rfl rfl rfl wrV (by decide) rfl (by decide +kernel) ?_
    refine a_aload_n (pc := 17) (q := 0) (i := 0) (x := 0) hC (by decide +kernel) rfl 0 rfl ?_
    refine g_get (pc := 18) (idx := 10) (ci := 5) (v := .ref 1) hC 0 0 (by decide +kernel) rfl rfl rfl rfl wrV (by decide) rfl (by decide +kernel) ?_
    refine a_aload_n (pc := 21) (q := 0) (i := 0) (x := 0) hC (by decide +kernel) rfl 0 rfl ?_
    refine g_get (pc := 22) (idx := 41) (ci := 5) (v := .ref 47) hC 0 5 (by decide +kernel) rfl rfl rfl rfl wrV (by decide) rfl (by decide +kernel) ?_
    refine g_callVN0 (pc := 25) (idx := 141) (i := 22) (av := [.ref 1, .ref 47]) (rest := []) (g := folR G 47 N) (host := "PlanValues") hC hro hty (by decide +kernel) rfl rfl k_P_follow (by decide +kernel) (by decide +kernel) (by decide +kernel) (ct_P_follow X.la X.dd K G 47 N hw hp47 hM.1) rfl rfl (by decide) (by first | decide | simp [Value.category]) ?_
    refine a_aload_n (pc := 28) (q := 0) (i := 0) (x := 0) hC (by decide +kernel) rfl 0 rfl ?_
    refine a_aload_n (pc := 29) (q := 0) (i := 0) (x := 0) hC (by decide +kernel) rfl 0 rfl ?_
    refine g_get (pc := 30) (idx := 19) (ci := 5) (v := .ref 22) hC 0 1 (by decide +kernel) rfl rfl rfl rfl wrV (by decide) rfl (by decide +kernel) ?_
    refine g_getN (pc := 33) (idx := 116) (ci := 3) (v := .ref 30) (host := "PlanValues") hC 22 1 (by decide +kernel) rfl rfl rfl rfl wrP (by decide) rfl (by decide +kernel) ?_
    refine g_getN (pc := 36) (idx := 119) (ci := 2) (v := .ref 31) (host := "PlanValues") hC 30 0 (by decide +kernel) rfl rfl rfl rfl wrU (by decide) rfl (by decide +kernel) ?_
    refine a_iload_n (pc := 39) (q := 1) (i := 1) (x := (s : Int)) hC (by decide +kernel) rfl 1 rfl ?_
    refine g_lald (pc := 40) (a := 31) (j := s) hC hty (by decide +kernel) rfl (by omega) (by first | decide | omega) ?_
    refine a_aload_n (pc := 41) (q := 0) (i := 0) (x := 0) hC (by decide +kernel) rfl 0 rfl ?_
    refine g_get (pc := 42) (idx := 19) (ci := 5) (v := .ref 22) hC 0 1 (by decide +kernel) rfl rfl rfl rfl wrV (by decide) rfl (by decide +kernel) ?_
    refine g_getN (pc := 45) (idx := 116) (ci := 3) (v := .ref 30) (host := "PlanValues") hC 22 1 (by decide +kernel) rfl rfl rfl rfl wrP (by decide) rfl (by decide +kernel) ?_
    refine g_getN (pc := 48) (idx := 122) (ci := 2) (v := vl ((folR G 47 N) 30 1)) (host := "PlanValues") hC 30 1 (by decide +kernel) rfl rfl rfl rfl wrU (by decide) rfl (by decide +kernel) ?_
    refine g_callV (pc := 51) (idx := 125) (i := 0) (av := [vl ((folR G 47 N) 31 s), vl ((folR G 47 N) 30 1)]) (rest := []) (g := ansG (folR G 47 N) ((folR G 47 N) 31 s) ((folR G 47 N) 30 1)) (v := vi 1) hC hro hty (by decide +kernel) rfl rfl k_V_giveAnswer (by decide +kernel) (by decide +kernel) (by decide +kernel) (ct_V_giveAnswer X.la X.dd K (folR G 47 N) ((folR G 47 N) 31 s) ((folR G 47 N) 30 1) hra.1 hra.2 ⟨by have := hnu.1; omega, by have := hnu.1; have := hnu.2.1; unfold inL; omega⟩) rfl rfl (by decide) (by first | decide | simp [Value.category]) ?_
    exact g_iret (pc := 54) hC hE (by decide +kernel) rfl rfl
  · skip
    exact absurd c8 (by unfold hasS; rw [if_pos (by omega)]; decide)

set_option maxRecDepth 100000 in
set_option maxHeartbeats 4000000 in
theorem ct_V_reply_no (l : Launch) (D : va_G) (K : K5) (G : GT) (N : Nat) (s : Int) (z : Int) (hsi : inI s) (hv : VV G N) (hno : hasS G s = 0) : Ct l D K y_V_reply c_V_reply 3 (some .int) 5 127 [.ref 0, vi s, vi z] G (some (vi (-1))) G := by
  refine Ct.intro (by decide +kernel) (Nat.le_of_ble_eq_true rfl) ?_
  intro X hro hty hC hE
  obtain ⟨hw, hp47, hp48⟩ := id hv
  obtain ⟨hn, hN5, hsh, hac, hpa, hwe, hth⟩ := id hw
  refine a_aload_n (pc := 0) (q := 0) (i := 0) (x := 0) hC (by decide +kernel) rfl 0 rfl ?_
  refine g_get (pc := 1) (idx := 10) (ci := 5) (v := .ref 1) hC 0 0 (by decide +kernel) rfl rfl rfl rfl wrV (by decide) rfl (by decide +kernel) ?_
  refine a_iload_n (pc := 4) (q := 1) (i := 1) (x := s) hC (by decide +kernel) rfl 1 rfl ?_
  refine g_callVN (pc := 5) (idx := 75) (i := 1) (av := [vi s]) (rest := []) (g := G) (v := vi (hasS G s)) (host := "PlanValues") hC hro hty (by decide +kernel) rfl rfl k_W_hasState (by decide +kernel) (by decide +kernel) (by decide +kernel) (ct_W_hasState X.la X.dd K G N s hsi hw) rfl rfl (by decide) (by first | decide | simp [Value.category]) ?_
  refine a_if_ne (pc := 8) (off := 5) hC 13 (by decide +kernel) (by decide) (by unfold inI; omega) (fun c8 => ?_) (fun c8 => ?_)
  · skip
    exact absurd hno c8
  · skip
    refine a_iconst (pc := 11) (c := -1) hC (by decide +kernel) ?_
    exact g_iret (pc := 12) hC hE (by decide +kernel) rfl rfl

set_option maxRecDepth 100000 in
set_option maxHeartbeats 4000000 in
theorem ct_V_reply_bad (l : Launch) (D : va_G) (K : K5) (G : GT) (N s : Nat) (z : Int) (hs : s < N) (hzi : inI z) (hv : VV G N) (hbad : ¬ (z = 0 ∨ z = 1)) : Ct l D K y_V_reply c_V_reply 3 (some .int) 5 127 [.ref 0, vi ((s : Int)), vi z] G (some (vi (-2))) G := by
  refine Ct.intro (by decide +kernel) (Nat.le_of_ble_eq_true rfl) ?_
  intro X hro hty hC hE
  obtain ⟨hw, hp47, hp48⟩ := id hv
  obtain ⟨hn, hN5, hsh, hac, hpa, hwe, hth⟩ := id hw
  refine a_aload_n (pc := 0) (q := 0) (i := 0) (x := 0) hC (by decide +kernel) rfl 0 rfl ?_
  refine g_get (pc := 1) (idx := 10) (ci := 5) (v := .ref 1) hC 0 0 (by decide +kernel) rfl rfl rfl rfl wrV (by decide) rfl (by decide +kernel) ?_
  refine a_iload_n (pc := 4) (q := 1) (i := 1) (x := (s : Int)) hC (by decide +kernel) rfl 1 rfl ?_
  refine g_callVN (pc := 5) (idx := 75) (i := 1) (av := [vi ((s : Int))]) (rest := []) (g := G) (v := vi (hasS G ((s : Int)))) (host := "PlanValues") hC hro hty (by decide +kernel) rfl rfl k_W_hasState (by decide +kernel) (by decide +kernel) (by decide +kernel) (ct_W_hasState X.la X.dd K G N ((s : Int)) (by unfold inI; omega) hw) rfl rfl (by decide) (by first | decide | simp [Value.category]) ?_
  refine a_if_ne (pc := 8) (off := 5) hC 13 (by decide +kernel) (by decide) (by unfold inI hasS; split <;> omega) (fun c8 => ?_) (fun c8 => ?_)
  · skip
    refine a_iload_n (pc := 13) (q := 2) (i := 2) (x := z) hC (by decide +kernel) rfl 2 rfl ?_
    refine a_if_eq (pc := 14) (off := 11) hC 25 (by decide +kernel) (by decide) hzi (fun c14 => ?_) (fun c14 => ?_)
    · skip
      exact absurd (Or.inl c14) hbad
    · skip
      refine a_iload_n (pc := 17) (q := 2) (i := 2) (x := z) hC (by decide +kernel) rfl 2 rfl ?_
      refine a_iconst (pc := 18) (c := 1) hC (by decide +kernel) ?_
      refine a_icmp_eq (pc := 19) (off := 6) hC 25 (by decide +kernel) (by decide) hzi ⟨by decide, by decide⟩ (fun c19 => ?_) (fun c19 => ?_)
      · skip
        exact absurd (Or.inr c19) hbad
      · skip
        refine a_bipush (pc := 22) (c := -2) hC (by decide +kernel) (by decide +kernel) ?_
        exact g_iret (pc := 24) hC hE (by decide +kernel) rfl rfl
  · skip
    exact absurd c8 (by unfold hasS; rw [if_pos (by omega)]; decide)

def trG (G : GT) : GT := uG G 49 (cpy (G 47) (G 49) 5)
theorem WW.tr {G : GT} {N : Nat} (h : WW G N) : WW (trG G) N := h.keep (fun a ha => uG_n _ _ (by omega))
theorem PlOk.tr {G : GT} {N : Nat} (hN : N ≤ 5) (h : PlOk G 47 N) : PlOk (trG G) 49 N := ⟨Or.inr (Or.inr rfl), fun s hs => by
  unfold trG; rw [uG_s]; unfold cpy; rw [if_pos (by omega)]; exact h.2 s hs⟩
set_option maxRecDepth 100000 in
set_option maxHeartbeats 4000000 in
theorem ct_V_reply (l : Launch) (D : va_G) (K : K5) (G : GT) (N s : Nat) (hs : s < N) (hm0 : MathOk) (hv : VV G N) : Ct l D K y_V_reply c_V_reply 3 (some .int) 5 127 [.ref 0, vi ((s : Int)), vi 0] G (some (vi 1)) (ansG (repG (trG G) 49 N 1) (repG (trG G) 49 N 1 31 s) (repG (trG G) 49 N 1 30 1)) := by
  refine Ct.intro (by decide +kernel) (Nat.le_of_ble_eq_true rfl) ?_
  intro X hro hty hC hE
  obtain ⟨hw, hp47, hp48⟩ := id hv
  obtain ⟨hn, hN5, hsh, hac, hpa, hwe, hth⟩ := id hw
  have hf := FolSt.repG (b := 1) hm0 hw.tr (hp47.tr hN5)
  have hnu := hf.2.2.2
  have hra := abs_in (hnu.2.2 s hs) (by decide)
  refine a_aload_n (pc := 0) (q := 0) (i := 0) (x := 0) hC (by decide +kernel) rfl 0 rfl ?_
  refine g_get (pc := 1) (idx := 10) (ci := 5) (v := .ref 1) hC 0 0 (by decide +kernel) rfl rfl rfl rfl wrV (by decide) rfl (by decide +kernel) ?_
  refine a_iload_n (pc := 4) (q := 1) (i := 1) (x := (s : Int)) hC (by decide +kernel) rfl 1 rfl ?_
  refine g_callVN (pc := 5) (idx := 75) (i := 1) (av := [vi ((s : Int))]) (rest := []) (g := G) (v := vi (hasS G ((s : Int)))) (host := "PlanValues") hC hro hty (by decide +kernel) rfl rfl k_W_hasState (by decide +kernel) (by decide +kernel) (by decide +kernel) (ct_W_hasState X.la X.dd K G N ((s : Int)) (by unfold inI; omega) hw) rfl rfl (by decide) (by first | decide | simp [Value.category]) ?_
  refine a_if_ne (pc := 8) (off := 5) hC 13 (by decide +kernel) (by decide) (by unfold inI hasS; split <;> omega) (fun c8 => ?_) (fun c8 => ?_)
  · skip
    refine a_iload_n (pc := 13) (q := 2) (i := 2) (x := 0) hC (by decide +kernel) rfl 2 rfl ?_
    refine a_if_eq (pc := 14) (off := 11) hC 25 (by decide +kernel) (by decide) (by unfold inI; omega) (fun c14 => ?_) (fun c14 => ?_)
    · skip
      refine a_aload_n (pc := 25) (q := 0) (i := 0) (x := 0) hC (by decide +kernel) rfl 0 rfl ?_
      refine g_callV0 (pc := 26) (idx := 144) (i := 0) (av := []) (rest := []) (g := uG G 49 (cpy (G 47) (G 49) 5)) hC hro hty (by decide +kernel) rfl rfl k_V_tryToldPlan (by decide +kernel) (by decide +kernel) (by decide +kernel) (ct_V_tryToldPlan X.la X.dd K G) rfl rfl (by decide) (by first | decide | simp [Value.category]) ?_
      refine g_G (G' := trG G) rfl ?_
      refine a_aload_n (pc := 29) (q := 0) (i := 0) (x := 0) hC (by decide +kernel) rfl 0 rfl ?_
      refine g_get (pc := 30) (idx := 19) (ci := 5) (v := .ref 22) hC 0 1 (by decide +kernel) rfl rfl rfl rfl wrV (by decide) rfl (by decide +kernel) ?_
      refine a_iload_n (pc := 33) (q := 2) (i := 2) (x := 0) hC (by decide +kernel) rfl 2 rfl ?_
      refine a_if_ne (pc := 34) (off := 7) hC 41 (by decide +kernel) (by decide) (by unfold inI; omega) (fun c34 => ?_) (fun c34 => ?_)
      · skip
        exact absurd c34 (by decide)
      · skip
        refine a_iconst (pc := 37) (c := 1) hC (by decide +kernel) ?_
        refine a_goto (pc := 38) (off := 4) hC 42 (by decide +kernel) (by decide) ?_
        refine a_aload_n (pc := 42) (q := 0) (i := 0) (x := 0) hC (by decide +kernel) rfl 0 rfl ?_
        refine g_get (pc := 43) (idx := 10) (ci := 5) (v := .ref 1) hC 0 0 (by decide +kernel) rfl rfl rfl rfl wrV (by decide) rfl (by decide +kernel) ?_
        refine a_aload_n (pc := 46) (q := 0) (i := 0) (x := 0) hC (by decide +kernel) rfl 0 rfl ?_
        refine g_get (pc := 47) (idx := 48) (ci := 5) (v := .ref 49) hC 0 7 (by decide +kernel) rfl rfl rfl rfl wrV (by decide) rfl (by decide +kernel) ?_
        refine g_callVN0 (pc := 50) (idx := 147) (i := 22) (av := [vi 1, .ref 1, .ref 49]) (rest := []) (g := repG (trG G) 49 N 1) (host := "PlanValues") hC hro hty (by decide +kernel) rfl rfl k_P_replyBy (by decide +kernel) (by decide +kernel) (by decide +kernel) (ct_P_replyBy X.la X.dd K (trG G) 49 N 1 (by decide) hm0 hw.tr (hp47.tr hN5)) rfl rfl (by decide) (by first | decide | simp [Value.category]) ?_
        refine a_aload_n (pc := 53) (q := 0) (i := 0) (x := 0) hC (by decide +kernel) rfl 0 rfl ?_
        refine a_aload_n (pc := 54) (q := 0) (i := 0) (x := 0) hC (by decide +kernel) rfl 0 rfl ?_
        refine g_get (pc := 55) (idx := 19) (ci := 5) (v := .ref 22) hC 0 1 (by decide +kernel) rfl rfl rfl rfl wrV (by decide) rfl (by decide +kernel) ?_
        refine g_getN (pc := 58) (idx := 116) (ci := 3) (v := .ref 30) (host := "PlanValues") hC 22 1 (by decide +kernel) rfl rfl rfl rfl wrP (by decide) rfl (by decide +kernel) ?_
        refine g_getN (pc := 61) (idx := 119) (ci := 2) (v := .ref 31) (host := "PlanValues") hC 30 0 (by decide +kernel) rfl rfl rfl rfl wrU (by decide) rfl (by decide +kernel) ?_
        refine a_iload_n (pc := 64) (q := 1) (i := 1) (x := (s : Int)) hC (by decide +kernel) rfl 1 rfl ?_
        refine g_lald (pc := 65) (a := 31) (j := s) hC hty (by decide +kernel) rfl (by omega) (by first | decide | omega) ?_
        refine a_aload_n (pc := 66) (q := 0) (i := 0) (x := 0) hC (by decide +kernel) rfl 0 rfl ?_
        refine g_get (pc := 67) (idx := 19) (ci := 5) (v := .ref 22) hC 0 1 (by decide +kernel) rfl rfl rfl rfl wrV (by decide) rfl (by decide +kernel) ?_
        refine g_getN (pc := 70) (idx := 116) (ci := 3) (v := .ref 30) (host := "PlanValues") hC 22 1 (by decide +kernel) rfl rfl rfl rfl wrP (by decide) rfl (by decide +kernel) ?_
        refine g_getN (pc := 73) (idx := 122) (ci := 2) (v := vl ((repG (trG G) 49 N 1) 30 1)) (host := "PlanValues") hC 30 1 (by decide +kernel) rfl rfl rfl rfl wrU (by decide) rfl (by decide +kernel) ?_
        refine g_callV (pc := 76) (idx := 125) (i := 0) (av := [vl ((repG (trG G) 49 N 1) 31 s), vl ((repG (trG G) 49 N 1) 30 1)]) (rest := []) (g := ansG (repG (trG G) 49 N 1) ((repG (trG G) 49 N 1) 31 s) ((repG (trG G) 49 N 1) 30 1)) (v := vi 1) hC hro hty (by decide +kernel) rfl rfl k_V_giveAnswer (by decide +kernel) (by decide +kernel) (by decide +kernel) (ct_V_giveAnswer X.la X.dd K (repG (trG G) 49 N 1) ((repG (trG G) 49 N 1) 31 s) ((repG (trG G) 49 N 1) 30 1) hra.1 hra.2 ⟨by have := hnu.1; omega, by have := hnu.1; have := hnu.2.1; unfold inL; omega⟩) rfl rfl (by decide) (by first | decide | simp [Value.category]) ?_
        exact g_iret (pc := 79) hC hE (by decide +kernel) rfl rfl
    · skip
      exact absurd c14 (by decide)
  · skip
    exact absurd c8 (by unfold hasS; rw [if_pos (by omega)]; decide)

set_option maxRecDepth 100000 in
set_option maxHeartbeats 4000000 in
theorem ct_V_reply_1 (l : Launch) (D : va_G) (K : K5) (G : GT) (N s : Nat) (hs : s < N) (hm0 : MathOk) (hv : VV G N) : Ct l D K y_V_reply c_V_reply 3 (some .int) 5 127 [.ref 0, vi ((s : Int)), vi 1] G (some (vi 1)) (ansG (repG (trG G) 49 N 0) (repG (trG G) 49 N 0 31 s) (repG (trG G) 49 N 0 30 1)) := by
  refine Ct.intro (by decide +kernel) (Nat.le_of_ble_eq_true rfl) ?_
  intro X hro hty hC hE
  obtain ⟨hw, hp47, hp48⟩ := id hv
  obtain ⟨hn, hN5, hsh, hac, hpa, hwe, hth⟩ := id hw
  have hf := FolSt.repG (b := 0) hm0 hw.tr (hp47.tr hN5)
  have hnu := hf.2.2.2
  have hra := abs_in (hnu.2.2 s hs) (by decide)
  refine a_aload_n (pc := 0) (q := 0) (i := 0) (x := 0) hC (by decide +kernel) rfl 0 rfl ?_
  refine g_get (pc := 1) (idx := 10) (ci := 5) (v := .ref 1) hC 0 0 (by decide +kernel) rfl rfl rfl rfl wrV (by decide) rfl (by decide +kernel) ?_
  refine a_iload_n (pc := 4) (q := 1) (i := 1) (x := (s : Int)) hC (by decide +kernel) rfl 1 rfl ?_
  refine g_callVN (pc := 5) (idx := 75) (i := 1) (av := [vi ((s : Int))]) (rest := []) (g := G) (v := vi (hasS G ((s : Int)))) (host := "PlanValues") hC hro hty (by decide +kernel) rfl rfl k_W_hasState (by decide +kernel) (by decide +kernel) (by decide +kernel) (ct_W_hasState X.la X.dd K G N ((s : Int)) (by unfold inI; omega) hw) rfl rfl (by decide) (by first | decide | simp [Value.category]) ?_
  refine a_if_ne (pc := 8) (off := 5) hC 13 (by decide +kernel) (by decide) (by unfold inI hasS; split <;> omega) (fun c8 => ?_) (fun c8 => ?_)
  · skip
    refine a_iload_n (pc := 13) (q := 2) (i := 2) (x := 1) hC (by decide +kernel) rfl 2 rfl ?_
    refine a_if_eq (pc := 14) (off := 11) hC 25 (by decide +kernel) (by decide) (by unfold inI; omega) (fun c14 => ?_) (fun c14 => ?_)
    · skip
      exact absurd c14 (by decide)
    · skip
      refine a_iload_n (pc := 17) (q := 2) (i := 2) (x := 1) hC (by decide +kernel) rfl 2 rfl ?_
      refine a_iconst (pc := 18) (c := 1) hC (by decide +kernel) ?_
      refine a_icmp_eq (pc := 19) (off := 6) hC 25 (by decide +kernel) (by decide) (by unfold inI; omega) (by unfold inI; omega) (fun c19 => ?_) (fun c19 => ?_)
      · skip
        refine a_aload_n (pc := 25) (q := 0) (i := 0) (x := 0) hC (by decide +kernel) rfl 0 rfl ?_
        refine g_callV0 (pc := 26) (idx := 144) (i := 0) (av := []) (rest := []) (g := uG G 49 (cpy (G 47) (G 49) 5)) hC hro hty (by decide +kernel) rfl rfl k_V_tryToldPlan (by decide +kernel) (by decide +kernel) (by decide +kernel) (ct_V_tryToldPlan X.la X.dd K G) rfl rfl (by decide) (by first | decide | simp [Value.category]) ?_
        refine g_G (G' := trG G) rfl ?_
        refine a_aload_n (pc := 29) (q := 0) (i := 0) (x := 0) hC (by decide +kernel) rfl 0 rfl ?_
        refine g_get (pc := 30) (idx := 19) (ci := 5) (v := .ref 22) hC 0 1 (by decide +kernel) rfl rfl rfl rfl wrV (by decide) rfl (by decide +kernel) ?_
        refine a_iload_n (pc := 33) (q := 2) (i := 2) (x := 1) hC (by decide +kernel) rfl 2 rfl ?_
        refine a_if_ne (pc := 34) (off := 7) hC 41 (by decide +kernel) (by decide) (by unfold inI; omega) (fun c34 => ?_) (fun c34 => ?_)
        · skip
          refine a_iconst (pc := 41) (c := 0) hC (by decide +kernel) ?_
          refine a_aload_n (pc := 42) (q := 0) (i := 0) (x := 0) hC (by decide +kernel) rfl 0 rfl ?_
          refine g_get (pc := 43) (idx := 10) (ci := 5) (v := .ref 1) hC 0 0 (by decide +kernel) rfl rfl rfl rfl wrV (by decide) rfl (by decide +kernel) ?_
          refine a_aload_n (pc := 46) (q := 0) (i := 0) (x := 0) hC (by decide +kernel) rfl 0 rfl ?_
          refine g_get (pc := 47) (idx := 48) (ci := 5) (v := .ref 49) hC 0 7 (by decide +kernel) rfl rfl rfl rfl wrV (by decide) rfl (by decide +kernel) ?_
          refine g_callVN0 (pc := 50) (idx := 147) (i := 22) (av := [vi 0, .ref 1, .ref 49]) (rest := []) (g := repG (trG G) 49 N 0) (host := "PlanValues") hC hro hty (by decide +kernel) rfl rfl k_P_replyBy (by decide +kernel) (by decide +kernel) (by decide +kernel) (ct_P_replyBy X.la X.dd K (trG G) 49 N 0 (by decide) hm0 hw.tr (hp47.tr hN5)) rfl rfl (by decide) (by first | decide | simp [Value.category]) ?_
          refine a_aload_n (pc := 53) (q := 0) (i := 0) (x := 0) hC (by decide +kernel) rfl 0 rfl ?_
          refine a_aload_n (pc := 54) (q := 0) (i := 0) (x := 0) hC (by decide +kernel) rfl 0 rfl ?_
          refine g_get (pc := 55) (idx := 19) (ci := 5) (v := .ref 22) hC 0 1 (by decide +kernel) rfl rfl rfl rfl wrV (by decide) rfl (by decide +kernel) ?_
          refine g_getN (pc := 58) (idx := 116) (ci := 3) (v := .ref 30) (host := "PlanValues") hC 22 1 (by decide +kernel) rfl rfl rfl rfl wrP (by decide) rfl (by decide +kernel) ?_
          refine g_getN (pc := 61) (idx := 119) (ci := 2) (v := .ref 31) (host := "PlanValues") hC 30 0 (by decide +kernel) rfl rfl rfl rfl wrU (by decide) rfl (by decide +kernel) ?_
          refine a_iload_n (pc := 64) (q := 1) (i := 1) (x := (s : Int)) hC (by decide +kernel) rfl 1 rfl ?_
          refine g_lald (pc := 65) (a := 31) (j := s) hC hty (by decide +kernel) rfl (by omega) (by first | decide | omega) ?_
          refine a_aload_n (pc := 66) (q := 0) (i := 0) (x := 0) hC (by decide +kernel) rfl 0 rfl ?_
          refine g_get (pc := 67) (idx := 19) (ci := 5) (v := .ref 22) hC 0 1 (by decide +kernel) rfl rfl rfl rfl wrV (by decide) rfl (by decide +kernel) ?_
          refine g_getN (pc := 70) (idx := 116) (ci := 3) (v := .ref 30) (host := "PlanValues") hC 22 1 (by decide +kernel) rfl rfl rfl rfl wrP (by decide) rfl (by decide +kernel) ?_
          refine g_getN (pc := 73) (idx := 122) (ci := 2) (v := vl ((repG (trG G) 49 N 0) 30 1)) (host := "PlanValues") hC 30 1 (by decide +kernel) rfl rfl rfl rfl wrU (by decide) rfl (by decide +kernel) ?_
          refine g_callV (pc := 76) (idx := 125) (i := 0) (av := [vl ((repG (trG G) 49 N 0) 31 s), vl ((repG (trG G) 49 N 0) 30 1)]) (rest := []) (g := ansG (repG (trG G) 49 N 0) ((repG (trG G) 49 N 0) 31 s) ((repG (trG G) 49 N 0) 30 1)) (v := vi 1) hC hro hty (by decide +kernel) rfl rfl k_V_giveAnswer (by decide +kernel) (by decide +kernel) (by decide +kernel) (ct_V_giveAnswer X.la X.dd K (repG (trG G) 49 N 0) ((repG (trG G) 49 N 0) 31 s) ((repG (trG G) 49 N 0) 30 1) hra.1 hra.2 ⟨by have := hnu.1; omega, by have := hnu.1; have := hnu.2.1; unfold inL; omega⟩) rfl rfl (by decide) (by first | decide | simp [Value.category]) ?_
          exact g_iret (pc := 79) hC hE (by decide +kernel) rfl rfl
        · skip
          exact absurd c34 (by decide)
      · skip
        exact absurd c19 (by decide)
  · skip
    exact absurd c8 (by unfold hasS; rw [if_pos (by omega)]; decide)

set_option maxRecDepth 100000 in
set_option maxHeartbeats 4000000 in
theorem ct_V_run_no (l : Launch) (D : va_G) (K : K5) (G : GT) (N : Nat) (s : Int)  (hsi : inI s) (hv : VV G N) (hno : hasS G s = 0) : Ct l D K y_V_run c_V_run 2 (some .int) 4 93 [.ref 0, vi s] G (some (vi (-1))) G := by
  refine Ct.intro (by decide +kernel) (Nat.le_of_ble_eq_true rfl) ?_
  intro X hro hty hC hE
  obtain ⟨hw, hp47, hp48⟩ := id hv
  obtain ⟨hn, hN5, hsh, hac, hpa, hwe, hth⟩ := id hw
  refine a_aload_n (pc := 0) (q := 0) (i := 0) (x := 0) hC (by decide +kernel) rfl 0 rfl ?_
  refine g_get (pc := 1) (idx := 10) (ci := 5) (v := .ref 1) hC 0 0 (by decide +kernel) rfl rfl rfl rfl wrV (by decide) rfl (by decide +kernel) ?_
  refine a_iload_n (pc := 4) (q := 1) (i := 1) (x := s) hC (by decide +kernel) rfl 1 rfl ?_
  refine g_callVN (pc := 5) (idx := 75) (i := 1) (av := [vi s]) (rest := []) (g := G) (v := vi (hasS G s)) (host := "PlanValues") hC hro hty (by decide +kernel) rfl rfl k_W_hasState (by decide +kernel) (by decide +kernel) (by decide +kernel) (ct_W_hasState X.la X.dd K G N s hsi hw) rfl rfl (by decide) (by first | decide | simp [Value.category]) ?_
  refine a_if_ne (pc := 8) (off := 5) hC 13 (by decide +kernel) (by decide) (by unfold inI; omega) (fun c8 => ?_) (fun c8 => ?_)
  · skip
    exact absurd hno c8
  · skip
    refine a_iconst (pc := 11) (c := -1) hC (by decide +kernel) ?_
    exact g_iret (pc := 12) hC hE (by decide +kernel) rfl rfl

/-- what run needs of the arithmetic -/
def RunOk (G : GT) (N : Nat) : Prop := SolOk (lrG (lrH G 47 N) 47 N N) 33 N ∧ 1 ≤ lrR G 47 N 40 1 ∧ lrR G 47 N 40 1 ≤ 1000000000000 ∧ ∀ h, h < N → -1000000000000000 ≤ lrR G 47 N 41 h ∧ lrR G 47 N 41 h ≤ 1000000000000000
theorem lrR_43 {G : GT} {pl N : Nat} (hN : N ≤ 5) : lrR G pl N 43 = lrH G pl N 43 := by
  unfold lrR; rw [solG_off (by omega) (by decide) (by decide), lrG_off (by omega) (by omega)]
set_option maxRecDepth 100000 in
set_option maxHeartbeats 4000000 in
theorem ct_V_run (l : Launch) (D : va_G) (K : K5) (G : GT) (N s : Nat) (hs : s < N) (hru : RunOk G N) (hv : VV G N) : Ct l D K y_V_run c_V_run 2 (some .int) 4 93 [.ref 0, vi ((s : Int))] G (some (vi 1)) (ansG (lrR G 47 N) (lrR G 47 N 41 (homZ (reaG G 47 N) N s).toNat) (lrR G 47 N 40 1)) := by
  refine Ct.intro (by decide +kernel) (Nat.le_of_ble_eq_true rfl) ?_
  intro X hro hty hC hE
  obtain ⟨hw, hp47, hp48⟩ := id hv
  obtain ⟨hn, hN5, hsh, hac, hpa, hwe, hth⟩ := id hw
  have hho := homZ_in (G := reaG G 47 N) hs
  obtain ⟨h, hh, hhN⟩ : ∃ h : Nat, homZ (reaG G 47 N) N s = (h : Int) ∧ h < N := ⟨(homZ (reaG G 47 N) N s).toNat, by omega, by omega⟩
  have hhn : (homZ (reaG G 47 N) N s).toNat = h := by omega
  have h43 : lrR G 47 N 43 s = (h : Int) := by
    rw [lrR_43 hN5]; unfold lrH homG; rw [uG_s]; unfold homF; rw [if_pos hs]; exact hh
  have hra := abs_in (hru.2.2.2 h hhN) (by decide)
  refine a_aload_n (pc := 0) (q := 0) (i := 0) (x := 0) hC (by decide +kernel) rfl 0 rfl ?_
  refine g_get (pc := 1) (idx := 10) (ci := 5) (v := .ref 1) hC 0 0 (by decide +kernel) rfl rfl rfl rfl wrV (by decide) rfl (by decide +kernel) ?_
  refine a_iload_n (pc := 4) (q := 1) (i := 1) (x := (s : Int)) hC (by decide +kernel) rfl 1 rfl ?_
  refine g_callVN (pc := 5) (idx := 75) (i := 1) (av := [vi ((s : Int))]) (rest := []) (g := G) (v := vi (hasS G ((s : Int)))) (host := "PlanValues") hC hro hty (by decide +kernel) rfl rfl k_W_hasState (by decide +kernel) (by decide +kernel) (by decide +kernel) (ct_W_hasState X.la X.dd K G N ((s : Int)) (by unfold inI; omega) hw) rfl rfl (by decide) (by first | decide | simp [Value.category]) ?_
  refine a_if_ne (pc := 8) (off := 5) hC 13 (by decide +kernel) (by decide) (by unfold inI hasS; split <;> omega) (fun c8 => ?_) (fun c8 => ?_)
  · skip
    refine a_aload_n (pc := 13) (q := 0) (i := 0) (x := 0) hC (by decide +kernel) rfl 0 rfl ?_
    refine g_get (pc := 14) (idx := 26) (ci := 5) (v := .ref 32) hC 0 2 (by decide +kernel) rfl rfl rfl rfl wrV (by decide) rfl (by decide +kernel) ?_
    refine a_aload_n (pc := 17) (q := 0) (i := 0) (x := 0) hC (by decide +kernel) rfl 0 rfl ?_
    refine g_get (pc := 18) (idx := 10) (ci := 5) (v := .ref 1) hC 0 0 (by decide +kernel) rfl rfl rfl rfl wrV (by decide) rfl (by decide +kernel) ?_
    refine a_aload_n (pc := 21) (q := 0) (i := 0) (x := 0) hC (by decide +kernel) rfl 0 rfl ?_
    refine g_get (pc := 22) (idx := 41) (ci := 5) (v := .ref 47) hC 0 5 (by decide +kernel) rfl rfl rfl rfl wrV (by decide) rfl (by decide +kernel) ?_
    refine g_callVN0 (pc := 25) (idx := 161) (i := 32) (av := [.ref 1, .ref 47]) (rest := []) (g := lrR G 47 N) (host := "PlanValues") hC hro hty (by decide +kernel) rfl rfl k_L_follow (by decide +kernel) (by decide +kernel) (by decide +kernel) (ct_L_follow X.la X.dd K G 47 N hw hp47 hru.1) rfl rfl (by decide) (by first | decide | simp [Value.category]) ?_
    refine a_aload_n (pc := 28) (q := 0) (i := 0) (x := 0) hC (by decide +kernel) rfl 0 rfl ?_
    refine a_aload_n (pc := 29) (q := 0) (i := 0) (x := 0) hC (by decide +kernel) rfl 0 rfl ?_
    refine g_get (pc := 30) (idx := 26) (ci := 5) (v := .ref 32) hC 0 2 (by decide +kernel) rfl rfl rfl rfl wrV (by decide) rfl (by decide +kernel) ?_
    refine g_getN (pc := 33) (idx := 162) (ci := 1) (v := .ref 40) (host := "PlanValues") hC 32 1 (by decide +kernel) rfl rfl rfl rfl wrL (by decide) rfl (by decide +kernel) ?_
    refine g_getN (pc := 36) (idx := 119) (ci := 2) (v := .ref 41) (host := "PlanValues") hC 40 0 (by decide +kernel) rfl rfl rfl rfl wrU (by decide) rfl (by decide +kernel) ?_
    refine a_aload_n (pc := 39) (q := 0) (i := 0) (x := 0) hC (by decide +kernel) rfl 0 rfl ?_
    refine g_get (pc := 40) (idx := 26) (ci := 5) (v := .ref 32) hC 0 2 (by decide +kernel) rfl rfl rfl rfl wrV (by decide) rfl (by decide +kernel) ?_
    refine g_getN (pc := 43) (idx := 163) (ci := 1) (v := .ref 43) (host := "PlanValues") hC 32 3 (by decide +kernel) rfl rfl rfl rfl wrL (by decide) rfl (by decide +kernel) ?_
    refine a_iload_n (pc := 46) (q := 1) (i := 1) (x := (s : Int)) hC (by decide +kernel) rfl 1 rfl ?_
    refine g_iald (pc := 47) (a := 43) (j := s) hC hty (by decide +kernel) rfl (by omega) (by first | decide | omega) ?_
    refine g_top (y := (h : Int)) h43 ?_
    refine g_lald (pc := 48) (a := 41) (j := h) hC hty (by decide +kernel) rfl (by omega) (by first | decide | omega) ?_
    refine a_aload_n (pc := 49) (q := 0) (i := 0) (x := 0) hC (by decide +kernel) rfl 0 rfl ?_
    refine g_get (pc := 50) (idx := 26) (ci := 5) (v := .ref 32) hC 0 2 (by decide +kernel) rfl rfl rfl rfl wrV (by decide) rfl (by decide +kernel) ?_
    refine g_getN (pc := 53) (idx := 162) (ci := 1) (v := .ref 40) (host := "PlanValues") hC 32 1 (by decide +kernel) rfl rfl rfl rfl wrL (by decide) rfl (by decide +kernel) ?_
    refine g_getN (pc := 56) (idx := 122) (ci := 2) (v := vl ((lrR G 47 N) 40 1)) (host := "PlanValues") hC 40 1 (by decide +kernel) rfl rfl rfl rfl wrU (by decide) rfl (by decide +kernel) ?_
    refine g_callV (pc := 59) (idx := 125) (i := 0) (av := [vl ((lrR G 47 N) 41 h), vl ((lrR G 47 N) 40 1)]) (rest := []) (g := ansG (lrR G 47 N) ((lrR G 47 N) 41 h) ((lrR G 47 N) 40 1)) (v := vi 1) hC hro hty (by decide +kernel) rfl rfl k_V_giveAnswer (by decide +kernel) (by decide +kernel) (by decide +kernel) (ct_V_giveAnswer X.la X.dd K (lrR G 47 N) ((lrR G 47 N) 41 h) ((lrR G 47 N) 40 1) hra.1 hra.2 ⟨by have := hru.2.1; omega, by have := hru.2.1; have := hru.2.2.1; unfold inL; omega⟩) rfl rfl (by decide) (by first | decide | simp [Value.category]) ?_
    exact g_iret (pc := 62) hC hE (by decide +kernel) rfl (by rw [hhn])
  · skip
    exact absurd c8 (by unfold hasS; rw [if_pos (by omega)]; decide)

def setS (F : GT) (G : GT) (N : Nat) : Nat → Bool
  | 0 => true
  | s + 1 => setS F G N s && decide (isbZ F N s (G 47 s).toNat = 1)
theorem setS_down {F G : GT} {N : Nat} : ∀ {n t : Nat}, t ≤ n → setS F G N n = true → setS F G N t = true
  | 0, t, h, hc => by rw [show t = 0 by omega]; rfl
  | n + 1, t, h, hc => by
    by_cases e : t = n + 1
    · rw [e]; exact hc
    · have : setS F G N n = true := by unfold setS at hc; simp at hc; exact hc.1
      exact setS_down (by omega) this
set_option maxRecDepth 100000 in
set_option maxHeartbeats 4000000 in
theorem ct_V_settled (l : Launch) (D : va_G) (K : K5) (G : GT) (N : Nat) (hm0 : MathOk) (hv : VV G N) : Ct l D K y_V_settled c_V_settled 2 (some .int) 6 150 [.ref 0] G (some (vi (bZ (setS (fvG G 48 N) G N N)))) (fvG G 48 N) := by
  refine Ct.intro (by decide +kernel) (Nat.le_of_ble_eq_true rfl) ?_
  intro X hro hty hC hE
  obtain ⟨hw, hp47, hp48⟩ := id hv
  obtain ⟨hn, hN5, hsh, hac, hpa, hwe, hth⟩ := id hw
  have hf := FolSt.fvG hm0 hw hp48
  have hnu := hf.2.2.2
  have hbo := BstOk.of hf.1 hf.2.2.1 hf.2.2.2
  refine a_aload_n (pc := 0) (q := 0) (i := 0) (x := 0) hC (by decide +kernel) rfl 0 rfl ?_
  refine g_get (pc := 1) (idx := 19) (ci := 5) (v := .ref 22) hC 0 1 (by decide +kernel) rfl rfl rfl rfl wrV (by decide) rfl (by decide +kernel) ?_
  refine a_aload_n (pc := 4) (q := 0) (i := 0) (x := 0) hC (by decide +kernel) rfl 0 rfl ?_
  refine g_get (pc := 5) (idx := 10) (ci := 5) (v := .ref 1) hC 0 0 (by decide +kernel) rfl rfl rfl rfl wrV (by decide) rfl (by decide +kernel) ?_
  refine a_aload_n (pc := 8) (q := 0) (i := 0) (x := 0) hC (by decide +kernel) rfl 0 rfl ?_
  refine g_get (pc := 9) (idx := 45) (ci := 5) (v := .ref 48) hC 0 6 (by decide +kernel) rfl rfl rfl rfl wrV (by decide) rfl (by decide +kernel) ?_
  refine g_callVN0 (pc := 12) (idx := 112) (i := 22) (av := [.ref 1, .ref 48]) (rest := []) (g := fvG G 48 N) (host := "PlanValues") hC hro hty (by decide +kernel) rfl rfl k_P_findValues (by decide +kernel) (by decide +kernel) (by decide +kernel) (ct_P_findValues X.la X.dd K G 48 N hm0 hw hp48) rfl rfl (by decide) (by first | decide | simp [Value.category]) ?_
  refine a_iconst (pc := 15) (c := 0) hC (by decide +kernel) ?_
  refine a_istore_n (pc := 16) (q := 1) (i := 1) (lv' := [(1, vi 0), (0, .ref 0)]) hC (by decide +kernel) rfl (by decide) rfl ?_
  have L17 : ∀ (fuel : Nat) (s : Nat), N - s < fuel → s ≤ N → setS (fvG G 48 N) G N s = true → AW X 2 0 0 17 [(1, vi ((s : Int))), (0, .ref 0)] [] (hp K (fvG G 48 N)) := by
    intro fuel
    induction fuel with
    | zero => intro s h; exact absurd h (Nat.not_lt_zero _)
    | succ fuel ih17 =>
      intro s hm hs hse
      have hfn := hf.1.1
      refine a_iload_n (pc := 17) (q := 1) (i := 1) (x := (s : Int)) hC (by decide +kernel) rfl 0 rfl ?_
      refine a_aload_n (pc := 18) (q := 0) (i := 0) (x := 0) hC (by decide +kernel) rfl 1 rfl ?_
      refine g_get (pc := 19) (idx := 10) (ci := 5) (v := .ref 1) hC 0 0 (by decide +kernel) rfl rfl rfl rfl wrV (by decide) rfl (by decide +kernel) ?_
      refine g_getN (pc := 22) (idx := 67) (ci := 4) (v := vi ((fvG G 48 N) 1 0)) (host := "PlanValues") hC 1 0 (by decide +kernel) rfl rfl rfl rfl wrW (by decide) rfl (by decide +kernel) ?_
      refine a_icmp_ge (pc := 25) (off := 25) hC 50 (by decide +kernel) (by decide) (by unfold inI; omega) (by unfold inI; omega) (fun c25 => ?_) (fun c25 => ?_)
      · skip
        refine a_iconst (pc := 50) (c := 1) hC (by decide +kernel) ?_
        exact g_iret (pc := 51) hC hE (by decide +kernel) (by have hsN : s = N := (by omega); rw [hsN] at hse; rw [hse]; rfl) rfl
      · skip
        obtain ⟨a, ha, ha3⟩ : ∃ a : Nat, G 47 s = (a : Int) ∧ a < 3 := ⟨(G 47 s).toNat, by have := hp47.2 s (by omega); omega, by have := hp47.2 s (by omega); omega⟩
        have han : (G 47 s).toNat = a := by omega
        have h01 := isbZ_01 (fvG G 48 N) N s a
        refine a_aload_n (pc := 28) (q := 0) (i := 0) (x := 0) hC (by decide +kernel) rfl 1 rfl ?_
        refine a_iload_n (pc := 29) (q := 1) (i := 1) (x := (s : Int)) hC (by decide +kernel) rfl 0 rfl ?_
        refine a_aload_n (pc := 30) (q := 0) (i := 0) (x := 0) hC (by decide +kernel) rfl 1 rfl ?_
        refine g_get (pc := 31) (idx := 41) (ci := 5) (v := .ref 47) hC 0 5 (by decide +kernel) rfl rfl rfl rfl wrV (by decide) rfl (by decide +kernel) ?_
        refine a_iload_n (pc := 34) (q := 1) (i := 1) (x := (s : Int)) hC (by decide +kernel) rfl 0 rfl ?_
        refine g_iald (pc := 35) (a := 47) (j := s) hC hty (by decide +kernel) rfl (by omega) (by first | decide | omega) ?_
        refine g_top (y := (a : Int)) (by rw [fvG_off hN5 (by omega)]; exact ha) ?_
        refine g_callV (pc := 36) (idx := 166) (i := 0) (av := [vi ((s : Int)), vi ((a : Int))]) (rest := []) (g := fvG G 48 N) (v := vi (isbZ (fvG G 48 N) N s a)) hC hro hty (by decide +kernel) rfl rfl k_V_isBest (by decide +kernel) (by decide +kernel) (by decide +kernel) (ct_V_isBest X.la X.dd K (fvG G 48 N) N s a (by omega) (by omega) hf.1 hbo) rfl rfl (by decide) (by first | decide | simp [Value.category]) ?_
        refine a_if_ne (pc := 39) (off := 5) hC 44 (by decide +kernel) (by decide) (by unfold inI; omega) (fun c39 => ?_) (fun c39 => ?_)
        · skip
          refine a_iinc (pc := 44) (i := 1) (c := 1) (x := (s : Int)) (lv' := [(1, vi (((s : Int)) + 1)), (0, .ref 0)]) hC (by decide +kernel) 0 rfl (by decide) rfl ?_
          refine a_goto (pc := 47) (off := -30) hC 17 (by decide +kernel) (by decide) ?_
          refine a_sub (lv' := [(1, vi (((s + 1) : Int))), (0, .ref 0)]) [0, 1] rfl ?_
          exact ih17 (s + 1) (by omega) (by omega) (by unfold setS; rw [hse, han]; simp; omega)
        · skip
          refine a_iconst (pc := 42) (c := 0) hC (by decide +kernel) ?_
          exact g_iret (pc := 43) hC hE (by decide +kernel) (by
            have hx : setS (fvG G 48 N) G N N = false := by
              cases hh : setS (fvG G 48 N) G N N
              · rfl
              · have := setS_down (t := s + 1) (by omega) hh
                unfold setS at this; rw [hse, han] at this; simp at this; omega
            rw [hx]; rfl) rfl
  refine a_sub (lv' := [(1, vi ((0 : Int))), (0, .ref 0)]) [0, 1] rfl ?_
  exact L17 _ 0 (Nat.lt_succ_self _) (by omega) rfl

set_option maxRecDepth 100000 in
set_option maxHeartbeats 4000000 in
theorem ct_V_told_0 (l : Launch) (D : va_G) (K : K5) (G : GT) (N : Nat) (hm0 : MathOk) (hv : VV G N) : Ct l D K y_V_told c_V_told 2 (some .int) 7 172 [.ref 0, vi 0] G (some (vi ((N : Int)))) G := by
  refine Ct.intro (by decide +kernel) (Nat.le_of_ble_eq_true rfl) ?_
  intro X hro hty hC hE
  obtain ⟨hw, hp47, hp48⟩ := id hv
  obtain ⟨hn, hN5, hsh, hac, hpa, hwe, hth⟩ := id hw
  refine a_iload_n (pc := 0) (q := 1) (i := 1) (x := 0) hC (by decide +kernel) rfl 1 rfl ?_
  refine a_tabIn (pc := 1) (dflt := 63) (lo := 0) (hi := 4) (offs := #[35, 43, 48, 53, 58]) (len := 35) (off := 35) hC 36 ⟨by decide, by decide⟩ (by decide +kernel) (by decide) (by decide) rfl (by decide) ?_
  refine a_aload_n (pc := 36) (q := 0) (i := 0) (x := 0) hC (by decide +kernel) rfl 0 rfl ?_
  refine g_get (pc := 37) (idx := 10) (ci := 5) (v := .ref 1) hC 0 0 (by decide +kernel) rfl rfl rfl rfl wrV (by decide) rfl (by decide +kernel) ?_
  refine g_getN (pc := 40) (idx := 67) (ci := 4) (v := vi (G 1 0)) (host := "PlanValues") hC 1 0 (by decide +kernel) rfl rfl rfl rfl wrW (by decide) rfl (by decide +kernel) ?_
  exact g_iret (pc := 43) hC hE (by decide +kernel) hn rfl

set_option maxRecDepth 100000 in
set_option maxHeartbeats 4000000 in
theorem ct_V_told_1 (l : Launch) (D : va_G) (K : K5) (G : GT) (N : Nat) (hm0 : MathOk) (hv : VV G N) : Ct l D K y_V_told c_V_told 2 (some .int) 7 172 [.ref 0, vi 1] G (some (vi (sumA G N))) G := by
  refine Ct.intro (by decide +kernel) (Nat.le_of_ble_eq_true rfl) ?_
  intro X hro hty hC hE
  obtain ⟨hw, hp47, hp48⟩ := id hv
  obtain ⟨hn, hN5, hsh, hac, hpa, hwe, hth⟩ := id hw
  refine a_iload_n (pc := 0) (q := 1) (i := 1) (x := 1) hC (by decide +kernel) rfl 1 rfl ?_
  refine a_tabIn (pc := 1) (dflt := 63) (lo := 0) (hi := 4) (offs := #[35, 43, 48, 53, 58]) (len := 35) (off := 43) hC 44 ⟨by decide, by decide⟩ (by decide +kernel) (by decide) (by decide) rfl (by decide) ?_
  refine a_aload_n (pc := 44) (q := 0) (i := 0) (x := 0) hC (by decide +kernel) rfl 0 rfl ?_
  refine g_callV (pc := 45) (idx := 169) (i := 0) (av := []) (rest := []) (g := G) (v := vi (sumA G N)) hC hro hty (by decide +kernel) rfl rfl k_V_countActs (by decide +kernel) (by decide +kernel) (by decide +kernel) (ct_V_countActs X.la X.dd K G N hw) rfl rfl (by decide) (by first | decide | simp [Value.category]) ?_
  exact g_iret (pc := 48) hC hE (by decide +kernel) rfl rfl

set_option maxRecDepth 100000 in
set_option maxHeartbeats 4000000 in
theorem ct_V_told_2 (l : Launch) (D : va_G) (K : K5) (G : GT) (N : Nat) (hm0 : MathOk) (hv : VV G N) : Ct l D K y_V_told c_V_told 2 (some .int) 7 172 [.ref 0, vi 2] G (some (vi (prodA G N))) G := by
  refine Ct.intro (by decide +kernel) (Nat.le_of_ble_eq_true rfl) ?_
  intro X hro hty hC hE
  obtain ⟨hw, hp47, hp48⟩ := id hv
  obtain ⟨hn, hN5, hsh, hac, hpa, hwe, hth⟩ := id hw
  refine a_iload_n (pc := 0) (q := 1) (i := 1) (x := 2) hC (by decide +kernel) rfl 1 rfl ?_
  refine a_tabIn (pc := 1) (dflt := 63) (lo := 0) (hi := 4) (offs := #[35, 43, 48, 53, 58]) (len := 35) (off := 48) hC 49 ⟨by decide, by decide⟩ (by decide +kernel) (by decide) (by decide) rfl (by decide) ?_
  refine a_aload_n (pc := 49) (q := 0) (i := 0) (x := 0) hC (by decide +kernel) rfl 0 rfl ?_
  refine g_callV (pc := 50) (idx := 173) (i := 0) (av := []) (rest := []) (g := G) (v := vi (prodA G N)) hC hro hty (by decide +kernel) rfl rfl k_V_countPlans (by decide +kernel) (by decide +kernel) (by decide +kernel) (ct_V_countPlans X.la X.dd K G N hw) rfl rfl (by decide) (by first | decide | simp [Value.category]) ?_
  exact g_iret (pc := 53) hC hE (by decide +kernel) rfl rfl

set_option maxRecDepth 100000 in
set_option maxHeartbeats 4000000 in
theorem ct_V_told_3 (l : Launch) (D : va_G) (K : K5) (G : GT) (N : Nat) (hm0 : MathOk) (hv : VV G N) : Ct l D K y_V_told c_V_told 2 (some .int) 7 172 [.ref 0, vi 3] G (some (vi (bpS (fvG G 48 N) N N))) (fvG G 48 N) := by
  refine Ct.intro (by decide +kernel) (Nat.le_of_ble_eq_true rfl) ?_
  intro X hro hty hC hE
  obtain ⟨hw, hp47, hp48⟩ := id hv
  obtain ⟨hn, hN5, hsh, hac, hpa, hwe, hth⟩ := id hw
  refine a_iload_n (pc := 0) (q := 1) (i := 1) (x := 3) hC (by decide +kernel) rfl 1 rfl ?_
  refine a_tabIn (pc := 1) (dflt := 63) (lo := 0) (hi := 4) (offs := #[35, 43, 48, 53, 58]) (len := 35) (off := 53) hC 54 ⟨by decide, by decide⟩ (by decide +kernel) (by decide) (by decide) rfl (by decide) ?_
  refine a_aload_n (pc := 54) (q := 0) (i := 0) (x := 0) hC (by decide +kernel) rfl 0 rfl ?_
  refine g_callV (pc := 55) (idx := 176) (i := 0) (av := []) (rest := []) (g := fvG G 48 N) (v := vi (bpS (fvG G 48 N) N N)) hC hro hty (by decide +kernel) rfl rfl k_V_countBestPlans (by decide +kernel) (by decide +kernel) (by decide +kernel) (ct_V_countBestPlans X.la X.dd K G N hm0 hv) rfl rfl (by decide) (by first | decide | simp [Value.category]) ?_
  exact g_iret (pc := 58) hC hE (by decide +kernel) rfl rfl

set_option maxRecDepth 100000 in
set_option maxHeartbeats 4000000 in
theorem ct_V_told_4 (l : Launch) (D : va_G) (K : K5) (G : GT) (N : Nat) (hm0 : MathOk) (hv : VV G N) : Ct l D K y_V_told c_V_told 2 (some .int) 7 172 [.ref 0, vi 4] G (some (vi (sumT G N))) G := by
  refine Ct.intro (by decide +kernel) (Nat.le_of_ble_eq_true rfl) ?_
  intro X hro hty hC hE
  obtain ⟨hw, hp47, hp48⟩ := id hv
  obtain ⟨hn, hN5, hsh, hac, hpa, hwe, hth⟩ := id hw
  refine a_iload_n (pc := 0) (q := 1) (i := 1) (x := 4) hC (by decide +kernel) rfl 1 rfl ?_
  refine a_tabIn (pc := 1) (dflt := 63) (lo := 0) (hi := 4) (offs := #[35, 43, 48, 53, 58]) (len := 35) (off := 58) hC 59 ⟨by decide, by decide⟩ (by decide +kernel) (by decide) (by decide) rfl (by decide) ?_
  refine a_aload_n (pc := 59) (q := 0) (i := 0) (x := 0) hC (by decide +kernel) rfl 0 rfl ?_
  refine g_callV (pc := 60) (idx := 179) (i := 0) (av := []) (rest := []) (g := G) (v := vi (sumT G N)) hC hro hty (by decide +kernel) rfl rfl k_V_countTheirs (by decide +kernel) (by decide +kernel) (by decide +kernel) (ct_V_countTheirs X.la X.dd K G N hw) rfl rfl (by decide) (by first | decide | simp [Value.category]) ?_
  exact g_iret (pc := 63) hC hE (by decide +kernel) rfl rfl

set_option maxRecDepth 100000 in
set_option maxHeartbeats 4000000 in
theorem ct_V_told_bad (l : Launch) (D : va_G) (K : K5) (G : GT) (N : Nat) (x : Int) (hxi : inI x) (hbad : x < 0 ∨ 4 < x) (hv : VV G N) : Ct l D K y_V_told c_V_told 2 (some .int) 7 172 [.ref 0, vi x] G (some (vi (-2))) G := by
  refine Ct.intro (by decide +kernel) (Nat.le_of_ble_eq_true rfl) ?_
  intro X hro hty hC hE
  obtain ⟨hw, hp47, hp48⟩ := id hv
  obtain ⟨hn, hN5, hsh, hac, hpa, hwe, hth⟩ := id hw
  refine a_iload_n (pc := 0) (q := 1) (i := 1) (x := x) hC (by decide +kernel) rfl 1 rfl ?_
  refine a_tabOut (pc := 1) (dflt := 63) (lo := 0) (hi := 4) (offs := #[35, 43, 48, 53, 58]) (len := 35) hC 64 hxi (by decide +kernel) hbad (by decide) ?_
  refine a_bipush (pc := 64) (c := -2) hC (by decide +kernel) (by decide +kernel) ?_
  exact g_iret (pc := 66) hC hE (by decide +kernel) rfl rfl
