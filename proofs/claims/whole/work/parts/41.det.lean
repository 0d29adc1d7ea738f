/-! determinants: columns are functions of the row; rows 0 .. n - 1 -/
def d0 : Int := 1
def d1 (a : Nat → Int) : Int := a 0
def d2 (a b : Nat → Int) : Int := d1 a * b 1 - d1 b * a 1
def d3 (a b c : Nat → Int) : Int := d2 a b * c 2 - d2 a c * b 2 + d2 b c * a 2
def d4 (a b c d : Nat → Int) : Int := d3 a b c * d 3 - d3 a b d * c 3 + d3 a c d * b 3 - d3 b c d * a 3
def d5 (a b c d e : Nat → Int) : Int := d4 a b c d * e 4 - d4 a b c e * d 4 + d4 a b d e * c 4 - d4 a c d e * b 4 + d4 b c d e * a 4
theorem d2_w0 (a b : Nat → Int) : d2 b a = -d2 a b := by unfold d2 d1; grind
theorem d3_w0 (a b c : Nat → Int) : d3 b a c = -d3 a b c := by
  unfold d3
  rw [d2_w0 b a]
  grind
theorem d3_w1 (a b c : Nat → Int) : d3 a c b = -d3 a b c := by
  unfold d3
  rw [d2_w0 c b]
  grind
theorem d4_w0 (a b c d : Nat → Int) : d4 b a c d = -d4 a b c d := by
  unfold d4
  rw [d3_w0 b a d, d3_w0 b a c]
  grind
theorem d4_w1 (a b c d : Nat → Int) : d4 a c b d = -d4 a b c d := by
  unfold d4
  rw [d3_w0 c b d, d3_w1 a c b]
  grind
theorem d4_w2 (a b c d : Nat → Int) : d4 a b d c = -d4 a b c d := by
  unfold d4
  rw [d3_w1 b d c, d3_w1 a d c]
  grind
theorem d5_w0 (a b c d e : Nat → Int) : d5 b a c d e = -d5 a b c d e := by
  unfold d5
  rw [d4_w0 b a d e, d4_w0 b a c e, d4_w0 b a c d]
  grind
theorem d5_w1 (a b c d e : Nat → Int) : d5 a c b d e = -d5 a b c d e := by
  unfold d5
  rw [d4_w0 c b d e, d4_w1 a c b e, d4_w1 a c b d]
  grind
theorem d5_w2 (a b c d e : Nat → Int) : d5 a b d c e = -d5 a b c d e := by
  unfold d5
  rw [d4_w1 b d c e, d4_w1 a d c e, d4_w2 a b d c]
  grind
theorem d5_w3 (a b c d e : Nat → Int) : d5 a b c e d = -d5 a b c d e := by
  unfold d5
  rw [d4_w2 b c e d, d4_w2 a c e d, d4_w2 a b e d]
  grind
theorem d2_e01 (a : Nat → Int) : d2 a a = 0 := by
  have h := d2_w0 a a
  omega
theorem d3_e01 (a c : Nat → Int) : d3 a a c = 0 := by
  have h := d3_w0 a a c
  omega
theorem d3_e02 (a b : Nat → Int) : d3 a b a = 0 := by
  rw [d3_w1 a a b]
  have h := d3_w0 a a b
  omega
theorem d3_e12 (a b : Nat → Int) : d3 a b b = 0 := by
  have h := d3_w1 a b b
  omega
theorem d4_e01 (a c d : Nat → Int) : d4 a a c d = 0 := by
  have h := d4_w0 a a c d
  omega
theorem d4_e02 (a b d : Nat → Int) : d4 a b a d = 0 := by
  rw [d4_w1 a a b d]
  have h := d4_w0 a a b d
  omega
theorem d4_e03 (a b c : Nat → Int) : d4 a b c a = 0 := by
  rw [d4_w2 a b a c]
  rw [d4_w1 a a b c]
  have h := d4_w0 a a b c
  omega
theorem d4_e12 (a b d : Nat → Int) : d4 a b b d = 0 := by
  have h := d4_w1 a b b d
  omega
theorem d4_e13 (a b c : Nat → Int) : d4 a b c b = 0 := by
  rw [d4_w2 a b b c]
  have h := d4_w1 a b b c
  omega
theorem d4_e23 (a b c : Nat → Int) : d4 a b c c = 0 := by
  have h := d4_w2 a b c c
  omega
theorem d5_e01 (a c d e : Nat → Int) : d5 a a c d e = 0 := by
  have h := d5_w0 a a c d e
  omega
theorem d5_e02 (a b d e : Nat → Int) : d5 a b a d e = 0 := by
  rw [d5_w1 a a b d e]
  have h := d5_w0 a a b d e
  omega
theorem d5_e03 (a b c e : Nat → Int) : d5 a b c a e = 0 := by
  rw [d5_w2 a b a c e]
  rw [d5_w1 a a b c e]
  have h := d5_w0 a a b c e
  omega
theorem d5_e04 (a b c d : Nat → Int) : d5 a b c d a = 0 := by
  rw [d5_w3 a b c a d]
  rw [d5_w2 a b a c d]
  rw [d5_w1 a a b c d]
  have h := d5_w0 a a b c d
  omega
theorem d5_e12 (a b d e : Nat → Int) : d5 a b b d e = 0 := by
  have h := d5_w1 a b b d e
  omega
theorem d5_e13 (a b c e : Nat → Int) : d5 a b c b e = 0 := by
  rw [d5_w2 a b b c e]
  have h := d5_w1 a b b c e
  omega
theorem d5_e14 (a b c d : Nat → Int) : d5 a b c d b = 0 := by
  rw [d5_w3 a b c b d]
  rw [d5_w2 a b b c d]
  have h := d5_w1 a b b c d
  omega
theorem d5_e23 (a b c e : Nat → Int) : d5 a b c c e = 0 := by
  have h := d5_w2 a b c c e
  omega
theorem d5_e24 (a b c d : Nat → Int) : d5 a b c d c = 0 := by
  rw [d5_w3 a b c c d]
  have h := d5_w2 a b c c d
  omega
theorem d5_e34 (a b c d : Nat → Int) : d5 a b c d d = 0 := by
  have h := d5_w3 a b c d d
  omega
theorem d1_l0 (x y : Int) (u v : Nat → Int) : d1 (fun r => x * u r + y * v r) = x * d1 u + y * d1 v := rfl
theorem d2_l0 (x y : Int) (u v b : Nat → Int) : d2 (fun r => x * u r + y * v r) b = x * d2 u b + y * d2 v b := by
  unfold d2
  rw [d1_l0 x y u v]
  grind
theorem d2_l1 (x y : Int) (u v a : Nat → Int) : d2 a (fun r => x * u r + y * v r) = x * d2 a u + y * d2 a v := by
  unfold d2
  rw [d1_l0 x y u v]
  grind
theorem d3_l0 (x y : Int) (u v b c : Nat → Int) : d3 (fun r => x * u r + y * v r) b c = x * d3 u b c + y * d3 v b c := by
  unfold d3
  rw [d2_l0 x y u v c, d2_l0 x y u v b]
  grind
theorem d3_l1 (x y : Int) (u v a c : Nat → Int) : d3 a (fun r => x * u r + y * v r) c = x * d3 a u c + y * d3 a v c := by
  unfold d3
  rw [d2_l0 x y u v c, d2_l1 x y u v a]
  grind
theorem d3_l2 (x y : Int) (u v a b : Nat → Int) : d3 a b (fun r => x * u r + y * v r) = x * d3 a b u + y * d3 a b v := by
  unfold d3
  rw [d2_l1 x y u v b, d2_l1 x y u v a]
  grind
theorem d4_l0 (x y : Int) (u v b c d : Nat → Int) : d4 (fun r => x * u r + y * v r) b c d = x * d4 u b c d + y * d4 v b c d := by
  unfold d4
  rw [d3_l0 x y u v c d, d3_l0 x y u v b d, d3_l0 x y u v b c]
  grind
theorem d4_l1 (x y : Int) (u v a c d : Nat → Int) : d4 a (fun r => x * u r + y * v r) c d = x * d4 a u c d + y * d4 a v c d := by
  unfold d4
  rw [d3_l0 x y u v c d, d3_l1 x y u v a d, d3_l1 x y u v a c]
  grind
theorem d4_l2 (x y : Int) (u v a b d : Nat → Int) : d4 a b (fun r => x * u r + y * v r) d = x * d4 a b u d + y * d4 a b v d := by
  unfold d4
  rw [d3_l1 x y u v b d, d3_l1 x y u v a d, d3_l2 x y u v a b]
  grind
theorem d4_l3 (x y : Int) (u v a b c : Nat → Int) : d4 a b c (fun r => x * u r + y * v r) = x * d4 a b c u + y * d4 a b c v := by
  unfold d4
  rw [d3_l2 x y u v b c, d3_l2 x y u v a c, d3_l2 x y u v a b]
  grind
theorem d5_l0 (x y : Int) (u v b c d e : Nat → Int) : d5 (fun r => x * u r + y * v r) b c d e = x * d5 u b c d e + y * d5 v b c d e := by
  unfold d5
  rw [d4_l0 x y u v c d e, d4_l0 x y u v b d e, d4_l0 x y u v b c e, d4_l0 x y u v b c d]
  grind
theorem d5_l1 (x y : Int) (u v a c d e : Nat → Int) : d5 a (fun r => x * u r + y * v r) c d e = x * d5 a u c d e + y * d5 a v c d e := by
  unfold d5
  rw [d4_l0 x y u v c d e, d4_l1 x y u v a d e, d4_l1 x y u v a c e, d4_l1 x y u v a c d]
  grind
theorem d5_l2 (x y : Int) (u v a b d e : Nat → Int) : d5 a b (fun r => x * u r + y * v r) d e = x * d5 a b u d e + y * d5 a b v d e := by
  unfold d5
  rw [d4_l1 x y u v b d e, d4_l1 x y u v a d e, d4_l2 x y u v a b e, d4_l2 x y u v a b d]
  grind
theorem d5_l3 (x y : Int) (u v a b c e : Nat → Int) : d5 a b c (fun r => x * u r + y * v r) e = x * d5 a b c u e + y * d5 a b c v e := by
  unfold d5
  rw [d4_l2 x y u v b c e, d4_l2 x y u v a c e, d4_l2 x y u v a b e, d4_l3 x y u v a b c]
  grind
theorem d5_l4 (x y : Int) (u v a b c d : Nat → Int) : d5 a b c d (fun r => x * u r + y * v r) = x * d5 a b c d u + y * d5 a b c d v := by
  unfold d5
  rw [d4_l3 x y u v b c d, d4_l3 x y u v a c d, d4_l3 x y u v a b d, d4_l3 x y u v a b c]
  grind
theorem d1_c {a a2 : Nat → Int} (ha : ∀ r, r < 1 → a r = a2 r) : d1 a = d1 a2 := ha 0 (by decide)
theorem d2_c {a b a2 b2 : Nat → Int} (ha : ∀ r, r < 2 → a r = a2 r) (hb : ∀ r, r < 2 → b r = b2 r) : d2 a b = d2 a2 b2 := by
  unfold d2
  rw [d1_c (fun r hr => ha r (by omega)), d1_c (fun r hr => hb r (by omega)), ha 1 (by decide), hb 1 (by decide)]
theorem d3_c {a b c a2 b2 c2 : Nat → Int} (ha : ∀ r, r < 3 → a r = a2 r) (hb : ∀ r, r < 3 → b r = b2 r) (hc : ∀ r, r < 3 → c r = c2 r) : d3 a b c = d3 a2 b2 c2 := by
  unfold d3
  rw [d2_c (fun r hr => ha r (by omega)) (fun r hr => hb r (by omega)), d2_c (fun r hr => ha r (by omega)) (fun r hr => hc r (by omega)), d2_c (fun r hr => hb r (by omega)) (fun r hr => hc r (by omega)), ha 2 (by decide), hb 2 (by decide), hc 2 (by decide)]
theorem d4_c {a b c d a2 b2 c2 d2 : Nat → Int} (ha : ∀ r, r < 4 → a r = a2 r) (hb : ∀ r, r < 4 → b r = b2 r) (hc : ∀ r, r < 4 → c r = c2 r) (hd : ∀ r, r < 4 → d r = d2 r) : d4 a b c d = d4 a2 b2 c2 d2 := by
  unfold d4
  rw [d3_c (fun r hr => ha r (by omega)) (fun r hr => hb r (by omega)) (fun r hr => hc r (by omega)), d3_c (fun r hr => ha r (by omega)) (fun r hr => hb r (by omega)) (fun r hr => hd r (by omega)), d3_c (fun r hr => ha r (by omega)) (fun r hr => hc r (by omega)) (fun r hr => hd r (by omega)), d3_c (fun r hr => hb r (by omega)) (fun r hr => hc r (by omega)) (fun r hr => hd r (by omega)), ha 3 (by decide), hb 3 (by decide), hc 3 (by decide), hd 3 (by decide)]
theorem d5_c {a b c d e a2 b2 c2 d2 e2 : Nat → Int} (ha : ∀ r, r < 5 → a r = a2 r) (hb : ∀ r, r < 5 → b r = b2 r) (hc : ∀ r, r < 5 → c r = c2 r) (hd : ∀ r, r < 5 → d r = d2 r) (he : ∀ r, r < 5 → e r = e2 r) : d5 a b c d e = d5 a2 b2 c2 d2 e2 := by
  unfold d5
  rw [d4_c (fun r hr => ha r (by omega)) (fun r hr => hb r (by omega)) (fun r hr => hc r (by omega)) (fun r hr => hd r (by omega)), d4_c (fun r hr => ha r (by omega)) (fun r hr => hb r (by omega)) (fun r hr => hc r (by omega)) (fun r hr => he r (by omega)), d4_c (fun r hr => ha r (by omega)) (fun r hr => hb r (by omega)) (fun r hr => hd r (by omega)) (fun r hr => he r (by omega)), d4_c (fun r hr => ha r (by omega)) (fun r hr => hc r (by omega)) (fun r hr => hd r (by omega)) (fun r hr => he r (by omega)), d4_c (fun r hr => hb r (by omega)) (fun r hr => hc r (by omega)) (fun r hr => hd r (by omega)) (fun r hr => he r (by omega)), ha 4 (by decide), hb 4 (by decide), hc 4 (by decide), hd 4 (by decide), he 4 (by decide)]
