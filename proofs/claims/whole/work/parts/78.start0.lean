/-! THE START: the heap behind the two constructors, what the tables say of the classes -/
def G0 : GT := fun c k => if c = 1 then (if k = 1 then 1 else if k = 2 then 2 else 0) else if c = 30 ∨ c = 40 ∨ c = 44 then (if k = 1 then 1 else 0) else if c = 0 then (if k = 9 then 1 else 0) else if c = 50 then (if k = 7 ∨ k = 10 then 1 else if k = 8 then 2 else 0) else 0
theorem G0_z {c : Nat} (h1 : c ≠ 1) (h2 : ¬ (c = 30 ∨ c = 40 ∨ c = 44)) (h3 : c ≠ 0) (h4 : c ≠ 50) (k : Nat) : G0 c k = 0 := by
  unfold G0
  rw [if_neg h1, if_neg h2, if_neg h3, if_neg h4]
theorem G0_tot (s a : Nat) : ∀ t, totZ G0 s a t = 0
  | 0 => rfl
  | t + 1 => by
    show totZ G0 s a t + G0 54 (wIx s a t) = 0
    rw [G0_tot s a t, G0_z (by decide) (by decide) (by decide) (by decide)]; rfl
theorem G0_inv : Inv G0 0 := by
  have z : ∀ {c : Nat}, c ≠ 1 → ¬ (c = 30 ∨ c = 40 ∨ c = 44) → c ≠ 0 → c ≠ 50 → ∀ k, G0 c k = 0 := @G0_z
  have z2 := z (c := 2) (by decide) (by decide) (by decide) (by decide)
  have z3 := z (c := 3) (by decide) (by decide) (by decide) (by decide)
  have z4 := z (c := 4) (by decide) (by decide) (by decide) (by decide)
  have z5 := z (c := 5) (by decide) (by decide) (by decide) (by decide)
  have z7 : ∀ q, q < 15 → ∀ k, G0 (7 + q) k = 0 := fun q hq => z (by omega) (by omega) (by omega) (by omega)
  have z47 := z (c := 47) (by decide) (by decide) (by decide) (by decide)
  have z48 := z (c := 48) (by decide) (by decide) (by decide) (by decide)
  have z51 := z (c := 51) (by decide) (by decide) (by decide) (by decide)
  have z52 := z (c := 52) (by decide) (by decide) (by decide) (by decide)
  have z53 := z (c := 53) (by decide) (by decide) (by decide) (by decide)
  have z54 := z (c := 54) (by decide) (by decide) (by decide) (by decide)
  have z55 := z (c := 55) (by decide) (by decide) (by decide) (by decide)
  refine ⟨⟨⟨by decide, by decide, ⟨by decide, by decide, by decide, fun q hq => ⟨?_, fun t _ _ => z7 q hq t⟩⟩, fun s _ => ?_, fun q _ => ?_, fun q t hq _ => ?_, fun s _ => Or.inl (z2 s)⟩, fun s _ => ?_, fun s _ => ?_, fun s a _ _ _ => ⟨z4 _, z5 _⟩, fun s _ _ => z3 s⟩, ⟨⟨by decide, by decide, ⟨by decide, by decide, by decide⟩, fun s _ => ?_, fun q _ => ?_, fun q _ => ?_, fun s _ => Or.inl (z51 s), fun s _ => ?_⟩, fun t _ h => ?_, fun s a _ _ => ?_⟩, ⟨by decide, by decide⟩, fun s hs => absurd hs (Nat.not_lt_zero _), fun s a hs => absurd hs (Nat.not_lt_zero _), by decide, by decide⟩
  · rw [z5]; rfl
  · rw [z3]; decide
  · rw [z4, z5]; decide
  · rw [z7 q hq]; decide
  · rw [z47, z3]; decide
  · rw [z48, z3]; decide
  · rw [z52]; decide
  · rw [z53]; decide
  · rw [z54]; decide
  · rw [z55]; decide
  · rw [z52] at h; exact absurd h (by decide)
  · rw [G0_tot]; decide
def gol (K : K5) : Nat → List Sh → Hp
  | _, [] => []
  | i, s :: l => cellOf K s (G0 i) :: gol K (i + 1) l
theorem gol_map (K : K5) : ∀ (l : List Sh) (i : Nat), l.mapIdx (fun a s => cellOf K s (G0 (i + a))) = gol K i l
  | [], _ => rfl
  | s :: l, i => by
    rw [List.mapIdx_cons]
    show cellOf K s (G0 (i + 0)) :: _ = cellOf K s (G0 i) :: gol K (i + 1) l
    rw [← gol_map K l (i + 1)]
    congr 1
    congr 1
    funext a s
    rw [show i + (a + 1) = i + 1 + a by omega]
theorem gol_cons {K : K5} {i : Nat} {s : Sh} {l : List Sh} {e : va_E} {r : Hp} (h : cellOf K s (G0 i) = e) (h2 : gol K (i + 1) l = r) : gol K i (s :: l) = e :: r := by
  rw [← h, ← h2]; rfl
theorem zc {c : Nat} (h1 : c ≠ 1) (h2 : ¬ (c = 30 ∨ c = 40 ∨ c = 44)) (h3 : c ≠ 0) (h4 : c ≠ 50) : G0 c = fun _ => 0 := funext fun k => G0_z h1 h2 h3 h4 k
theorem cz_I (K : K5) (N : Nat) {g : Nat → Int} (h : g = fun _ => 0) : cellOf K (shI N) g = aI K.1 N (fun _ => 0) := by rw [h]; rfl
theorem cz_L (K : K5) (N : Nat) {g : Nat → Int} (h : g = fun _ => 0) : cellOf K (shL N) g = aL K.2.1 N (fun _ => 0) := by rw [h]; rfl
theorem cz_Z (K : K5) (N : Nat) {g : Nat → Int} (h : g = fun _ => 0) : cellOf K (shZ N) g = aI K.2.2.1 N (fun _ => 0) := by rw [h]; rfl
theorem ce_0 (K : K5) : cellOf K (.inr (5, [fR 1, fR 22, fR 32, fR 44, fR 46, fR 47, fR 48, fR 49, fL, fL])) (G0 0) = .inr (5, [.ref 1, .ref 22, .ref 32, .ref 44, .ref 46, .ref 47, .ref 48, .ref 49, vl 0, vl 1]) := by
  show (Sum.inr (5, [.ref 1, .ref 22, .ref 32, .ref 44, .ref 46, .ref 47, .ref 48, .ref 49, vl (G0 0 8), vl (G0 0 9)]) : va_E) = Sum.inr (5, [.ref 1, .ref 22, .ref 32, .ref 44, .ref 46, .ref 47, .ref 48, .ref 49, vl 0, vl 1])
  rw [(show G0 0 8 = 0 by decide), (show G0 0 9 = 1 by decide)]
theorem ce_1 (K : K5) : cellOf K (.inr (4, [fI, fI, fI, fR 2, fR 3, fR 4, fR 5, fR 6])) (G0 1) = .inr (4, [vi 0, vi 1, vi 2, .ref 2, .ref 3, .ref 4, .ref 5, .ref 6]) := by
  show (Sum.inr (4, [vi (G0 1 0), vi (G0 1 1), vi (G0 1 2), .ref 2, .ref 3, .ref 4, .ref 5, .ref 6]) : va_E) = Sum.inr (4, [vi 0, vi 1, vi 2, .ref 2, .ref 3, .ref 4, .ref 5, .ref 6])
  rw [(show G0 1 0 = 0 by decide), (show G0 1 1 = 1 by decide), (show G0 1 2 = 2 by decide)]
theorem ce_22 (K : K5) : cellOf K (.inr (3, [fR 23, fR 30])) (G0 22) = .inr (3, [.ref 23, .ref 30]) := by
  show (Sum.inr (3, [.ref 23, .ref 30]) : va_E) = Sum.inr (3, [.ref 23, .ref 30])
  rfl
theorem ce_23 (K : K5) : cellOf K (.inr (0, [fR 24])) (G0 23) = .inr (0, [.ref 24]) := by
  show (Sum.inr (0, [.ref 24]) : va_E) = Sum.inr (0, [.ref 24])
  rfl
theorem ce_30 (K : K5) : cellOf K (.inr (2, [fR 31, fL])) (G0 30) = .inr (2, [.ref 31, vl 1]) := by
  show (Sum.inr (2, [.ref 31, vl (G0 30 1)]) : va_E) = Sum.inr (2, [.ref 31, vl 1])
  rw [(show G0 30 1 = 1 by decide)]
theorem ce_32 (K : K5) : cellOf K (.inr (1, [fR 33, fR 40, fR 42, fR 43])) (G0 32) = .inr (1, [.ref 33, .ref 40, .ref 42, .ref 43]) := by
  show (Sum.inr (1, [.ref 33, .ref 40, .ref 42, .ref 43]) : va_E) = Sum.inr (1, [.ref 33, .ref 40, .ref 42, .ref 43])
  rfl
theorem ce_33 (K : K5) : cellOf K (.inr (0, [fR 34])) (G0 33) = .inr (0, [.ref 34]) := by
  show (Sum.inr (0, [.ref 34]) : va_E) = Sum.inr (0, [.ref 34])
  rfl
theorem ce_40 (K : K5) : cellOf K (.inr (2, [fR 41, fL])) (G0 40) = .inr (2, [.ref 41, vl 1]) := by
  show (Sum.inr (2, [.ref 41, vl (G0 40 1)]) : va_E) = Sum.inr (2, [.ref 41, vl 1])
  rw [(show G0 40 1 = 1 by decide)]
theorem ce_44 (K : K5) : cellOf K (.inr (2, [fR 45, fL])) (G0 44) = .inr (2, [.ref 45, vl 1]) := by
  show (Sum.inr (2, [.ref 45, vl (G0 44 1)]) : va_E) = Sum.inr (2, [.ref 45, vl 1])
  rw [(show G0 44 1 = 1 by decide)]
theorem ce_50 (K : K5) : cellOf K (.inr (6, [fI, fI, fR 51, fR 52, fR 53, fR 54, fR 55, fI, fI, fL, fL, fR 56, fR 57, fR 58, fI, fR 59, fR 60, fR 61, fI, fI, fL, fL, fR 62, fR 63, fL, fL])) (G0 50) = .inr (6, [vi 0, vi 0, .ref 51, .ref 52, .ref 53, .ref 54, .ref 55, vi 1, vi 2, vl 0, vl 1, .ref 56, .ref 57, .ref 58, vi 0, .ref 59, .ref 60, .ref 61, vi 0, vi 0, vl 0, vl 0, .ref 62, .ref 63, vl 0, vl 0]) := by
  show (Sum.inr (6, [vi (G0 50 0), vi (G0 50 1), .ref 51, .ref 52, .ref 53, .ref 54, .ref 55, vi (G0 50 7), vi (G0 50 8), vl (G0 50 9), vl (G0 50 10), .ref 56, .ref 57, .ref 58, vi (G0 50 14), .ref 59, .ref 60, .ref 61, vi (G0 50 18), vi (G0 50 19), vl (G0 50 20), vl (G0 50 21), .ref 62, .ref 63, vl (G0 50 24), vl (G0 50 25)]) : va_E) = Sum.inr (6, [vi 0, vi 0, .ref 51, .ref 52, .ref 53, .ref 54, .ref 55, vi 1, vi 2, vl 0, vl 1, .ref 56, .ref 57, .ref 58, vi 0, .ref 59, .ref 60, .ref 61, vi 0, vi 0, vl 0, vl 0, .ref 62, .ref 63, vl 0, vl 0])
  rw [(show G0 50 0 = 0 by decide), (show G0 50 1 = 0 by decide), (show G0 50 7 = 1 by decide), (show G0 50 8 = 2 by decide), (show G0 50 9 = 0 by decide), (show G0 50 10 = 1 by decide), (show G0 50 14 = 0 by decide), (show G0 50 18 = 0 by decide), (show G0 50 19 = 0 by decide), (show G0 50 20 = 0 by decide), (show G0 50 21 = 0 by decide), (show G0 50 24 = 0 by decide), (show G0 50 25 = 0 by decide)]
def sh64 : List Sh := [.inr (5, [fR 1, fR 22, fR 32, fR 44, fR 46, fR 47, fR 48, fR 49, fL, fL]), .inr (4, [fI, fI, fI, fR 2, fR 3, fR 4, fR 5, fR 6]), shZ 5, shI 5, shI 15, shI 15, shII 15 7, shI 5, shI 5, shI 5, shI 5, shI 5, shI 5, shI 5, shI 5, shI 5, shI 5, shI 5, shI 5, shI 5, shI 5, shI 5, .inr (3, [fR 23, fR 30]), .inr (0, [fR 24]), shLL 5 25, shL 6, shL 6, shL 6, shL 6, shL 6, .inr (2, [fR 31, fL]), shL 5, .inr (1, [fR 33, fR 40, fR 42, fR 43]), .inr (0, [fR 34]), shLL 5 35, shL 6, shL 6, shL 6, shL 6, shL 6, .inr (2, [fR 41, fL]), shL 5, shI 5, shI 5, .inr (2, [fR 45, fL]), shL 5, shL 5, shI 5, shI 5, shI 5, .inr (6, [fI, fI, fR 51, fR 52, fR 53, fR 54, fR 55, fI, fI, fL, fL, fR 56, fR 57, fR 58, fI, fR 59, fR 60, fR 61, fI, fI, fL, fL, fR 62, fR 63, fL, fL]), shZ 5, shI 5, shI 15, shI 75, shI 5, shL 25, shL 5, shL 32, shL 1215, shL 243, shI 5, shL 5, shL 5]
set_option maxRecDepth 100000 in
theorem sh64_eq : shape = sh64 := rfl
def ex64 (K : K5) : Hp := [.inr (5, [.ref 1, .ref 22, .ref 32, .ref 44, .ref 46, .ref 47, .ref 48, .ref 49, vl 0, vl 1]), .inr (4, [vi 0, vi 1, vi 2, .ref 2, .ref 3, .ref 4, .ref 5, .ref 6]), aI K.2.2.1 5 (fun _ => 0), aI K.1 5 (fun _ => 0), aI K.1 15 (fun _ => 0), aI K.1 15 (fun _ => 0), aQ K.2.2.2.1 15 (fun j => if j < 15 then some (7 + j) else none), aI K.1 5 (fun _ => 0), aI K.1 5 (fun _ => 0), aI K.1 5 (fun _ => 0), aI K.1 5 (fun _ => 0), aI K.1 5 (fun _ => 0), aI K.1 5 (fun _ => 0), aI K.1 5 (fun _ => 0), aI K.1 5 (fun _ => 0), aI K.1 5 (fun _ => 0), aI K.1 5 (fun _ => 0), aI K.1 5 (fun _ => 0), aI K.1 5 (fun _ => 0), aI K.1 5 (fun _ => 0), aI K.1 5 (fun _ => 0), aI K.1 5 (fun _ => 0), .inr (3, [.ref 23, .ref 30]), .inr (0, [.ref 24]), aQ K.2.2.2.2 5 (fun j => if j < 5 then some (25 + j) else none), aL K.2.1 6 (fun _ => 0), aL K.2.1 6 (fun _ => 0), aL K.2.1 6 (fun _ => 0), aL K.2.1 6 (fun _ => 0), aL K.2.1 6 (fun _ => 0), .inr (2, [.ref 31, vl 1]), aL K.2.1 5 (fun _ => 0), .inr (1, [.ref 33, .ref 40, .ref 42, .ref 43]), .inr (0, [.ref 34]), aQ K.2.2.2.2 5 (fun j => if j < 5 then some (35 + j) else none), aL K.2.1 6 (fun _ => 0), aL K.2.1 6 (fun _ => 0), aL K.2.1 6 (fun _ => 0), aL K.2.1 6 (fun _ => 0), aL K.2.1 6 (fun _ => 0), .inr (2, [.ref 41, vl 1]), aL K.2.1 5 (fun _ => 0), aI K.1 5 (fun _ => 0), aI K.1 5 (fun _ => 0), .inr (2, [.ref 45, vl 1]), aL K.2.1 5 (fun _ => 0), aL K.2.1 5 (fun _ => 0), aI K.1 5 (fun _ => 0), aI K.1 5 (fun _ => 0), aI K.1 5 (fun _ => 0), .inr (6, [vi 0, vi 0, .ref 51, .ref 52, .ref 53, .ref 54, .ref 55, vi 1, vi 2, vl 0, vl 1, .ref 56, .ref 57, .ref 58, vi 0, .ref 59, .ref 60, .ref 61, vi 0, vi 0, vl 0, vl 0, .ref 62, .ref 63, vl 0, vl 0]), aI K.2.2.1 5 (fun _ => 0), aI K.1 5 (fun _ => 0), aI K.1 15 (fun _ => 0), aI K.1 75 (fun _ => 0), aI K.1 5 (fun _ => 0), aL K.2.1 25 (fun _ => 0), aL K.2.1 5 (fun _ => 0), aL K.2.1 32 (fun _ => 0), aL K.2.1 1215 (fun _ => 0), aL K.2.1 243 (fun _ => 0), aI K.1 5 (fun _ => 0), aL K.2.1 5 (fun _ => 0), aL K.2.1 5 (fun _ => 0)]
set_option maxRecDepth 100000 in
theorem ex64_eq (K : K5) : hp_V K 0 ++ hp_M K 50 = ex64 K := rfl
set_option maxRecDepth 100000 in
theorem gol64 (K : K5) : gol K 0 sh64 = ex64 K := gol_cons (ce_0 K) (gol_cons (ce_1 K) (gol_cons (cz_Z K 5 (zc (by decide) (by decide) (by decide) (by decide))) (gol_cons (cz_I K 5 (zc (by decide) (by decide) (by decide) (by decide))) (gol_cons (cz_I K 15 (zc (by decide) (by decide) (by decide) (by decide))) (gol_cons (cz_I K 15 (zc (by decide) (by decide) (by decide) (by decide))) (gol_cons (rfl) (gol_cons (cz_I K 5 (zc (by decide) (by decide) (by decide) (by decide))) (gol_cons (cz_I K 5 (zc (by decide) (by decide) (by decide) (by decide))) (gol_cons (cz_I K 5 (zc (by decide) (by decide) (by decide) (by decide))) (gol_cons (cz_I K 5 (zc (by decide) (by decide) (by decide) (by decide))) (gol_cons (cz_I K 5 (zc (by decide) (by decide) (by decide) (by decide))) (gol_cons (cz_I K 5 (zc (by decide) (by decide) (by decide) (by decide))) (gol_cons (cz_I K 5 (zc (by decide) (by decide) (by decide) (by decide))) (gol_cons (cz_I K 5 (zc (by decide) (by decide) (by decide) (by decide))) (gol_cons (cz_I K 5 (zc (by decide) (by decide) (by decide) (by decide))) (gol_cons (cz_I K 5 (zc (by decide) (by decide) (by decide) (by decide))) (gol_cons (cz_I K 5 (zc (by decide) (by decide) (by decide) (by decide))) (gol_cons (cz_I K 5 (zc (by decide) (by decide) (by decide) (by decide))) (gol_cons (cz_I K 5 (zc (by decide) (by decide) (by decide) (by decide))) (gol_cons (cz_I K 5 (zc (by decide) (by decide) (by decide) (by decide))) (gol_cons (cz_I K 5 (zc (by decide) (by decide) (by decide) (by decide))) (gol_cons (ce_22 K) (gol_cons (ce_23 K) (gol_cons (rfl) (gol_cons (cz_L K 6 (zc (by decide) (by decide) (by decide) (by decide))) (gol_cons (cz_L K 6 (zc (by decide) (by decide) (by decide) (by decide))) (gol_cons (cz_L K 6 (zc (by decide) (by decide) (by decide) (by decide))) (gol_cons (cz_L K 6 (zc (by decide) (by decide) (by decide) (by decide))) (gol_cons (cz_L K 6 (zc (by decide) (by decide) (by decide) (by decide))) (gol_cons (ce_30 K) (gol_cons (cz_L K 5 (zc (by decide) (by decide) (by decide) (by decide))) (gol_cons (ce_32 K) (gol_cons (ce_33 K) (gol_cons (rfl) (gol_cons (cz_L K 6 (zc (by decide) (by decide) (by decide) (by decide))) (gol_cons (cz_L K 6 (zc (by decide) (by decide) (by decide) (by decide))) (gol_cons (cz_L K 6 (zc (by decide) (by decide) (by decide) (by decide))) (gol_cons (cz_L K 6 (zc (by decide) (by decide) (by decide) (by decide))) (gol_cons (cz_L K 6 (zc (by decide) (by decide) (by decide) (by decide))) (gol_cons (ce_40 K) (gol_cons (cz_L K 5 (zc (by decide) (by decide) (by decide) (by decide))) (gol_cons (cz_I K 5 (zc (by decide) (by decide) (by decide) (by decide))) (gol_cons (cz_I K 5 (zc (by decide) (by decide) (by decide) (by decide))) (gol_cons (ce_44 K) (gol_cons (cz_L K 5 (zc (by decide) (by decide) (by decide) (by decide))) (gol_cons (cz_L K 5 (zc (by decide) (by decide) (by decide) (by decide))) (gol_cons (cz_I K 5 (zc (by decide) (by decide) (by decide) (by decide))) (gol_cons (cz_I K 5 (zc (by decide) (by decide) (by decide) (by decide))) (gol_cons (cz_I K 5 (zc (by decide) (by decide) (by decide) (by decide))) (gol_cons (ce_50 K) (gol_cons (cz_Z K 5 (zc (by decide) (by decide) (by decide) (by decide))) (gol_cons (cz_I K 5 (zc (by decide) (by decide) (by decide) (by decide))) (gol_cons (cz_I K 15 (zc (by decide) (by decide) (by decide) (by decide))) (gol_cons (cz_I K 75 (zc (by decide) (by decide) (by decide) (by decide))) (gol_cons (cz_I K 5 (zc (by decide) (by decide) (by decide) (by decide))) (gol_cons (cz_L K 25 (zc (by decide) (by decide) (by decide) (by decide))) (gol_cons (cz_L K 5 (zc (by decide) (by decide) (by decide) (by decide))) (gol_cons (cz_L K 32 (zc (by decide) (by decide) (by decide) (by decide))) (gol_cons (cz_L K 1215 (zc (by decide) (by decide) (by decide) (by decide))) (gol_cons (cz_L K 243 (zc (by decide) (by decide) (by decide) (by decide))) (gol_cons (cz_I K 5 (zc (by decide) (by decide) (by decide) (by decide))) (gol_cons (cz_L K 5 (zc (by decide) (by decide) (by decide) (by decide))) (gol_cons (cz_L K 5 (zc (by decide) (by decide) (by decide) (by decide))) (rfl))))))))))))))))))))))))))))))))))))))))))))))))))))))))))))))))
theorem hp_start (K : K5) : hp_V K 0 ++ hp_M K 50 = hp K G0 := by
  rw [ex64_eq, hp_eq, sh64_eq, ← gol64, ← gol_map]
  simp only [Nat.zero_add]
theorem ar_start {s : State} {A : Array Value} (hT : ∀ w ∈ TT, w.before A s = true) {ty : FieldType} (h : Cond.arrayClass ty ∈ TT) : ∃ c, ArrOfT s c ty ∧ s.vm.findClass ("[" ++ ty.toString) = some c := by
  obtain ⟨c, k, comp, h1, h2, h3⟩ := Cond.arrayClass_spec (hT _ h)
  exact ⟨c, fun n z => ⟨fun k h => (by cases h), k, h2, comp, h3⟩, h1⟩
theorem ao_start {s : State} {A : Array Value} (hN : ∀ w ∈ NN, w.before A s = true) {ty : FieldType} (h : Cond.arrayOver (.array ty) ∈ NN) : ∃ c, ArrOfT s c (.array ty) ∧ s.vm.findClass ("[" ++ (FieldType.array ty).toString) = some c := by
  obtain ⟨comp, c, k, h1, h2, h3, h4, h5⟩ := ao_spec (hN _ h)
  exact ⟨c, fun n z => ⟨fun k h => (by cases h), k, h3, comp, h4⟩, h5⟩
set_option maxRecDepth 100000 in
set_option maxHeartbeats 4000000 in
theorem K_start {s : State} {b : Nat} (hts : ∀ w ∈ lw_tbl, w.before #[Value.ref b] s = true) : ∃ (D : va_G) (K : K5), va_K D vwCl (tyK K) s ∧ ∀ w ∈ NN, va_Nw w s := by
  have hT : ∀ w ∈ TT, w.before #[Value.ref b] s = true := fun w hw => hts w (List.mem_filter.mp hw).1
  have hN : ∀ w ∈ NN, w.before #[Value.ref b] s = true := fun w hw => hts w (List.mem_append_right _ (List.mem_filter.mp hw).1)
  obtain ⟨c0, i0, h0⟩ := u_known (C := RE) (T := TE) (N := 1) (n := 1) hT wrE.1 (hT _ (by decide +kernel))
  obtain ⟨c1, i1, h1⟩ := u_known (C := RL) (T := TL) (N := 4) (n := 4) hT wrL.1 (hT _ (by decide +kernel))
  obtain ⟨c2, i2, h2⟩ := u_known (C := RU) (T := TU) (N := 2) (n := 2) hT wrU.1 (hT _ (by decide +kernel))
  obtain ⟨c3, i3, h3⟩ := u_known (C := RP) (T := TP) (N := 2) (n := 2) hT wrP.1 (hT _ (by decide +kernel))
  obtain ⟨c4, i4, h4⟩ := u_known (C := RW) (T := TW) (N := 8) (n := 8) hT wrW.1 (hT _ (by decide +kernel))
  obtain ⟨c5, i5, h5⟩ := u_known (C := RV) (T := TV) (N := 10) (n := 10) hT wrV.1 (hT _ (by decide +kernel))
  obtain ⟨c6, i6, h6⟩ := u_known (C := RM) (T := TM) (N := 26) (n := 26) hT wrM.1 (hT _ (by decide +kernel))
  obtain ⟨a0, x0, y0⟩ := ar_start hT (ty := .int) (by decide +kernel)
  obtain ⟨a1, x1, y1⟩ := ar_start hT (ty := .long) (by decide +kernel)
  obtain ⟨a2, x2, y2⟩ := ar_start hT (ty := .boolean) (by decide +kernel)
  obtain ⟨a3, x3, y3⟩ := ao_start hN (ty := .int) (by decide +kernel)
  obtain ⟨a4, x4, y4⟩ := ao_start hN (ty := .long) (by decide +kernel)
  refine ⟨(fun k => if k = 0 then c0 else if k = 1 then c1 else if k = 2 then c2 else if k = 3 then c3 else if k = 4 then c4 else if k = 5 then c5 else c6, fun k => if k = 0 then i0 else if k = 1 then i1 else if k = 2 then i2 else if k = 3 then i3 else if k = 4 then i4 else if k = 5 then i5 else i6), (a0, a1, a2, a3, a4), ⟨fun k q hq => ?_, fun k q hq => ?_⟩, fun w hw => ?_⟩
  · match k, hq with
    | 0, hq => cases hq; exact h0
    | 1, hq => cases hq; exact h1
    | 2, hq => cases hq; exact h2
    | 3, hq => cases hq; exact h3
    | 4, hq => cases hq; exact h4
    | 5, hq => cases hq; exact h5
    | 6, hq => cases hq; exact h6
    | k + 7, hq => simp [vwCl] at hq
  · match k, hq with
    | 0, hq => cases hq; exact ⟨x0, y0⟩
    | 1, hq => cases hq; exact ⟨x1, y1⟩
    | 2, hq => cases hq; exact ⟨x2, y2⟩
    | 3, hq => cases hq; exact ⟨x3, y3⟩
    | 4, hq => cases hq; exact ⟨x4, y4⟩
    | k + 5, hq => simp [tyK] at hq
  · have hk := NN_kind w hw
    have h := hN w hw
    cases w with
    | fieldLinkNest a i b n d h0 => exact va_any rfl h
    | methodLinkNest a i x h0 => exact va_any rfl h
    | arrayOver ty => exact h
    | _ => simp [nnKind] at hk
