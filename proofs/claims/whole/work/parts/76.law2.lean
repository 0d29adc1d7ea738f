/-! the law: its calls -/
section LAW
variable {X : Xt} {K : K5} {L k n : Nat} {xs : Nat → Int32} {G : GT} {N i : Nat}
set_option maxRecDepth 100000 in
set_option maxHeartbeats 4000000 in
theorem lc_clear (hW : Lw X K L xs) (hk : k ≤ 600000 ∧ n ≤ 7302250) (h : Inv G N) (hi : i + 5 ≤ L) (kk : ∀ G2 N2, Inv G2 N2 → AW X 4 k n 647 (LV i) [] (hp K G2)) : AW X 4 k n 124 (LV i) [] (hp K G) := by
  obtain ⟨c1, c2, i2⟩ := op_clear (l := X.la) (D := X.dd) (K := K) h
  obtain ⟨hC, hro, hty, hX, hb, hb0, hL⟩ := id hW
  refine a_aload_n (pc := 124) (q := 1) (i := 1) (x := 0) hC (by decide +kernel) rfl 2 rfl ?_
  refine g_lV0 (pc := 125) (idx := 13) (i := 0) (av := []) (rest := []) (g := clrV G) hC hro hty (by decide +kernel) rfl rfl k_V_clear (by decide +kernel) (by decide +kernel) (by decide +kernel) c1 rfl rfl (by decide) hk (by first | decide | simp [Value.category]) ?_
  refine a_aload_n (pc := 128) (q := 2) (i := 2) (x := 50) hC (by decide +kernel) rfl 1 rfl ?_
  refine g_lV0 (pc := 129) (idx := 16) (i := 50) (av := []) (rest := []) (g := mclr (clrV G)) hC hro hty (by decide +kernel) rfl rfl k_M_clear (by decide +kernel) (by decide +kernel) (by decide +kernel) c2 rfl rfl (by decide) hk (by first | decide | simp [Value.category]) ?_
  exact a_goto (pc := 132) (off := 515) hC 647 (by decide +kernel) (by decide) (kk _ 0 i2)
set_option maxRecDepth 100000 in
set_option maxHeartbeats 4000000 in
theorem lc_state (hW : Lw X K L xs) (hk : k ≤ 600000 ∧ n ≤ 7302250) (h : Inv G N) (hi : i + 5 ≤ L) (kk : ∀ G2 N2, Inv G2 N2 → AW X 4 k n 647 (LV i) [] (hp K G2)) : AW X 4 k n 135 (LV i) [] (hp K G) := by
  have ht : (if (xs (i + 1)).toInt = 0 then (0 : Int) else 1) = 0 ∨ (if (xs (i + 1)).toInt = 0 then (0 : Int) else 1) = 1 := by split <;> omega
  obtain ⟨v, G1, G2, N2, c1, c2, i2, hv⟩ := op_state (l := X.la) (D := X.dd) (K := K) h ht
  obtain ⟨hC, hro, hty, hX, hb, hb0, hL⟩ := id hW
  by_cases hx : (xs (i + 1)).toInt = 0
  · rw [if_pos hx] at c1 c2
    refine a_aload_n (pc := 135) (q := 1) (i := 1) (x := 0) hC (by decide +kernel) rfl 2 rfl ?_
    refine a_arg (pc := 136) (c := 1) hW (by omega) (by decide +kernel) (by decide +kernel) (by decide +kernel) (by decide +kernel) (by decide +kernel) ?_
    refine a_if_eq (pc := 141) (off := 7) hC 148 (by decide +kernel) (by decide) (i32_in _) (fun q => ?_) (fun q => ?_)
    rotate_left
    · exact absurd hx q
    refine a_iconst (pc := 148) (c := 0) hC (by decide +kernel) ?_
    refine g_lV (pc := 149) (idx := 17) (i := 0) (av := [vi 0]) (rest := []) (g := G1) (v := vi v) hC hro hty (by decide +kernel) rfl rfl k_V_state (by decide +kernel) (by decide +kernel) (by decide +kernel) c1 rfl rfl (by decide) hk (by first | decide | simp [Value.category]) ?_
    refine a_aload_n (pc := 152) (q := 2) (i := 2) (x := 50) hC (by decide +kernel) rfl 1 rfl ?_
    refine a_arg (pc := 153) (c := 1) hW (by omega) (by decide +kernel) (by decide +kernel) (by decide +kernel) (by decide +kernel) (by decide +kernel) ?_
    refine a_if_eq (pc := 158) (off := 7) hC 165 (by decide +kernel) (by decide) (i32_in _) (fun q => ?_) (fun q => ?_)
    rotate_left
    · exact absurd hx q
    refine a_iconst (pc := 165) (c := 0) hC (by decide +kernel) ?_
    refine g_lV (pc := 166) (idx := 21) (i := 50) (av := [vi 0]) (rest := [vi v]) (g := G2) (v := vi v) hC hro hty (by decide +kernel) rfl rfl k_M_state (by decide +kernel) (by decide +kernel) (by decide +kernel) c2 rfl rfl (by decide) hk (by first | decide | simp [Value.category]) ?_
    refine a_icmp_eq (pc := 169) (off := 478) hC 647 (by decide +kernel) (by decide) hv hv (fun _ => kk G2 N2 i2) (fun q => absurd rfl q)
  · rw [if_neg hx] at c1 c2
    refine a_aload_n (pc := 135) (q := 1) (i := 1) (x := 0) hC (by decide +kernel) rfl 2 rfl ?_
    refine a_arg (pc := 136) (c := 1) hW (by omega) (by decide +kernel) (by decide +kernel) (by decide +kernel) (by decide +kernel) (by decide +kernel) ?_
    refine a_if_eq (pc := 141) (off := 7) hC 148 (by decide +kernel) (by decide) (i32_in _) (fun q => ?_) (fun q => ?_)
    · exact absurd q hx
    refine a_iconst (pc := 144) (c := 1) hC (by decide +kernel) ?_
    refine a_goto (pc := 145) (off := 4) hC 149 (by decide +kernel) (by decide) ?_
    refine g_lV (pc := 149) (idx := 17) (i := 0) (av := [vi 1]) (rest := []) (g := G1) (v := vi v) hC hro hty (by decide +kernel) rfl rfl k_V_state (by decide +kernel) (by decide +kernel) (by decide +kernel) c1 rfl rfl (by decide) hk (by first | decide | simp [Value.category]) ?_
    refine a_aload_n (pc := 152) (q := 2) (i := 2) (x := 50) hC (by decide +kernel) rfl 1 rfl ?_
    refine a_arg (pc := 153) (c := 1) hW (by omega) (by decide +kernel) (by decide +kernel) (by decide +kernel) (by decide +kernel) (by decide +kernel) ?_
    refine a_if_eq (pc := 158) (off := 7) hC 165 (by decide +kernel) (by decide) (i32_in _) (fun q => ?_) (fun q => ?_)
    · exact absurd q hx
    refine a_iconst (pc := 161) (c := 1) hC (by decide +kernel) ?_
    refine a_goto (pc := 162) (off := 4) hC 166 (by decide +kernel) (by decide) ?_
    refine g_lV (pc := 166) (idx := 21) (i := 50) (av := [vi 1]) (rest := [vi v]) (g := G2) (v := vi v) hC hro hty (by decide +kernel) rfl rfl k_M_state (by decide +kernel) (by decide +kernel) (by decide +kernel) c2 rfl rfl (by decide) hk (by first | decide | simp [Value.category]) ?_
    refine a_icmp_eq (pc := 169) (off := 478) hC 647 (by decide +kernel) (by decide) hv hv (fun _ => kk G2 N2 i2) (fun q => absurd rfl q)
set_option maxRecDepth 100000 in
set_option maxHeartbeats 4000000 in
theorem lc_act (hW : Lw X K L xs) (hk : k ≤ 600000 ∧ n ≤ 7302250) (h : Inv G N) (hi : i + 5 ≤ L) (kk : ∀ G2 N2, Inv G2 N2 → AW X 4 k n 647 (LV i) [] (hp K G2)) : AW X 4 k n 174 (LV i) [] (hp K G) := by
  obtain ⟨v, G1, G2, c1, c2, i2, hv⟩ := op_act (l := X.la) (D := X.dd) (K := K) h (i32_in (xs (i + 1))) (i32_in (xs (i + 2)))
  obtain ⟨hC, hro, hty, hX, hb, hb0, hL⟩ := id hW
  refine a_aload_n (pc := 174) (q := 1) (i := 1) (x := 0) hC (by decide +kernel) rfl 2 rfl ?_
  refine a_arg (pc := 175) (c := 1) hW (by omega) (by decide +kernel) (by decide +kernel) (by decide +kernel) (by decide +kernel) (by decide +kernel) ?_
  refine a_arg (pc := 180) (c := 2) hW (by omega) (by decide +kernel) (by decide +kernel) (by decide +kernel) (by decide +kernel) (by decide +kernel) ?_
  refine g_lV (pc := 185) (idx := 22) (i := 0) (av := [vi (xs (i + 1)).toInt, vi (xs (i + 2)).toInt]) (rest := []) (g := G1) (v := vi v) hC hro hty (by decide +kernel) rfl rfl k_V_act (by decide +kernel) (by decide +kernel) (by decide +kernel) c1 rfl rfl (by decide) hk (by first | decide | simp [Value.category]) ?_
  refine a_aload_n (pc := 188) (q := 2) (i := 2) (x := 50) hC (by decide +kernel) rfl 1 rfl ?_
  refine a_arg (pc := 189) (c := 1) hW (by omega) (by decide +kernel) (by decide +kernel) (by decide +kernel) (by decide +kernel) (by decide +kernel) ?_
  refine a_arg (pc := 194) (c := 2) hW (by omega) (by decide +kernel) (by decide +kernel) (by decide +kernel) (by decide +kernel) (by decide +kernel) ?_
  refine g_lV (pc := 199) (idx := 26) (i := 50) (av := [vi (xs (i + 1)).toInt, vi (xs (i + 2)).toInt]) (rest := [vi v]) (g := G2) (v := vi v) hC hro hty (by decide +kernel) rfl rfl k_M_act (by decide +kernel) (by decide +kernel) (by decide +kernel) c2 rfl rfl (by decide) hk (by first | decide | simp [Value.category]) ?_
  exact a_icmp_eq (pc := 202) (off := 445) hC 647 (by decide +kernel) (by decide) hv hv (fun _ => kk G2 N i2) (fun q => absurd rfl q)
set_option maxRecDepth 100000 in
set_option maxHeartbeats 4000000 in
theorem lc_weight (hW : Lw X K L xs) (hk : k ≤ 600000 ∧ n ≤ 7302250) (h : Inv G N) (hi : i + 5 ≤ L) (kk : ∀ G2 N2, Inv G2 N2 → AW X 4 k n 647 (LV i) [] (hp K G2)) : AW X 4 k n 207 (LV i) [] (hp K G) := by
  obtain ⟨v, G1, G2, c1, c2, i2, hv⟩ := op_weight (l := X.la) (D := X.dd) (K := K) h (i32_in (xs (i + 1))) (i32_in (xs (i + 2))) (i32_in (xs (i + 3))) (i32_in (xs (i + 4)))
  obtain ⟨hC, hro, hty, hX, hb, hb0, hL⟩ := id hW
  refine a_aload_n (pc := 207) (q := 1) (i := 1) (x := 0) hC (by decide +kernel) rfl 2 rfl ?_
  refine a_arg (pc := 208) (c := 1) hW (by omega) (by decide +kernel) (by decide +kernel) (by decide +kernel) (by decide +kernel) (by decide +kernel) ?_
  refine a_arg (pc := 213) (c := 2) hW (by omega) (by decide +kernel) (by decide +kernel) (by decide +kernel) (by decide +kernel) (by decide +kernel) ?_
  refine a_arg (pc := 218) (c := 3) hW (by omega) (by decide +kernel) (by decide +kernel) (by decide +kernel) (by decide +kernel) (by decide +kernel) ?_
  refine a_arg (pc := 223) (c := 4) hW (by omega) (by decide +kernel) (by decide +kernel) (by decide +kernel) (by decide +kernel) (by decide +kernel) ?_
  refine g_lV (pc := 228) (idx := 27) (i := 0) (av := [vi (xs (i + 1)).toInt, vi (xs (i + 2)).toInt, vi (xs (i + 3)).toInt, vi (xs (i + 4)).toInt]) (rest := []) (g := G1) (v := vi v) hC hro hty (by decide +kernel) rfl rfl k_V_weight (by decide +kernel) (by decide +kernel) (by decide +kernel) c1 rfl rfl (by decide) hk (by first | decide | simp [Value.category]) ?_
  refine a_aload_n (pc := 231) (q := 2) (i := 2) (x := 50) hC (by decide +kernel) rfl 1 rfl ?_
  refine a_arg (pc := 232) (c := 1) hW (by omega) (by decide +kernel) (by decide +kernel) (by decide +kernel) (by decide +kernel) (by decide +kernel) ?_
  refine a_arg (pc := 237) (c := 2) hW (by omega) (by decide +kernel) (by decide +kernel) (by decide +kernel) (by decide +kernel) (by decide +kernel) ?_
  refine a_arg (pc := 242) (c := 3) hW (by omega) (by decide +kernel) (by decide +kernel) (by decide +kernel) (by decide +kernel) (by decide +kernel) ?_
  refine a_arg (pc := 247) (c := 4) hW (by omega) (by decide +kernel) (by decide +kernel) (by decide +kernel) (by decide +kernel) (by decide +kernel) ?_
  refine g_lV (pc := 252) (idx := 31) (i := 50) (av := [vi (xs (i + 1)).toInt, vi (xs (i + 2)).toInt, vi (xs (i + 3)).toInt, vi (xs (i + 4)).toInt]) (rest := [vi v]) (g := G2) (v := vi v) hC hro hty (by decide +kernel) rfl rfl k_M_weight (by decide +kernel) (by decide +kernel) (by decide +kernel) c2 rfl rfl (by decide) hk (by first | decide | simp [Value.category]) ?_
  exact a_icmp_eq (pc := 255) (off := 392) hC 647 (by decide +kernel) (by decide) hv hv (fun _ => kk G2 N i2) (fun q => absurd rfl q)
set_option maxRecDepth 100000 in
set_option maxHeartbeats 4000000 in
theorem lc_pay (hW : Lw X K L xs) (hk : k ≤ 600000 ∧ n ≤ 7302250) (h : Inv G N) (hi : i + 5 ≤ L) (kk : ∀ G2 N2, Inv G2 N2 → AW X 4 k n 647 (LV i) [] (hp K G2)) : AW X 4 k n 260 (LV i) [] (hp K G) := by
  obtain ⟨v, G1, G2, c1, c2, i2, hv⟩ := op_pay (l := X.la) (D := X.dd) (K := K) h (i32_in (xs (i + 1))) (i32_in (xs (i + 2))) (i32_in (xs (i + 3)))
  obtain ⟨hC, hro, hty, hX, hb, hb0, hL⟩ := id hW
  refine a_aload_n (pc := 260) (q := 1) (i := 1) (x := 0) hC (by decide +kernel) rfl 2 rfl ?_
  refine a_arg (pc := 261) (c := 1) hW (by omega) (by decide +kernel) (by decide +kernel) (by decide +kernel) (by decide +kernel) (by decide +kernel) ?_
  refine a_arg (pc := 266) (c := 2) hW (by omega) (by decide +kernel) (by decide +kernel) (by decide +kernel) (by decide +kernel) (by decide +kernel) ?_
  refine a_arg (pc := 271) (c := 3) hW (by omega) (by decide +kernel) (by decide +kernel) (by decide +kernel) (by decide +kernel) (by decide +kernel) ?_
  refine g_lV (pc := 276) (idx := 32) (i := 0) (av := [vi (xs (i + 1)).toInt, vi (xs (i + 2)).toInt, vi (xs (i + 3)).toInt]) (rest := []) (g := G1) (v := vi v) hC hro hty (by decide +kernel) rfl rfl k_V_pay (by decide +kernel) (by decide +kernel) (by decide +kernel) c1 rfl rfl (by decide) hk (by first | decide | simp [Value.category]) ?_
  refine a_aload_n (pc := 279) (q := 2) (i := 2) (x := 50) hC (by decide +kernel) rfl 1 rfl ?_
  refine a_arg (pc := 280) (c := 1) hW (by omega) (by decide +kernel) (by decide +kernel) (by decide +kernel) (by decide +kernel) (by decide +kernel) ?_
  refine a_arg (pc := 285) (c := 2) hW (by omega) (by decide +kernel) (by decide +kernel) (by decide +kernel) (by decide +kernel) (by decide +kernel) ?_
  refine a_arg (pc := 290) (c := 3) hW (by omega) (by decide +kernel) (by decide +kernel) (by decide +kernel) (by decide +kernel) (by decide +kernel) ?_
  refine g_lV (pc := 295) (idx := 36) (i := 50) (av := [vi (xs (i + 1)).toInt, vi (xs (i + 2)).toInt, vi (xs (i + 3)).toInt]) (rest := [vi v]) (g := G2) (v := vi v) hC hro hty (by decide +kernel) rfl rfl k_M_pay (by decide +kernel) (by decide +kernel) (by decide +kernel) c2 rfl rfl (by decide) hk (by first | decide | simp [Value.category]) ?_
  exact a_icmp_eq (pc := 298) (off := 349) hC 647 (by decide +kernel) (by decide) hv hv (fun _ => kk G2 N i2) (fun q => absurd rfl q)
set_option maxRecDepth 100000 in
set_option maxHeartbeats 4000000 in
theorem lc_share (hW : Lw X K L xs) (hk : k ≤ 600000 ∧ n ≤ 7302250) (h : Inv G N) (hi : i + 5 ≤ L) (kk : ∀ G2 N2, Inv G2 N2 → AW X 4 k n 647 (LV i) [] (hp K G2)) : AW X 4 k n 303 (LV i) [] (hp K G) := by
  obtain ⟨v, G1, G2, c1, c2, i2, hv⟩ := op_share (l := X.la) (D := X.dd) (K := K) h (i32_in (xs (i + 1))) (i32_in (xs (i + 2)))
  obtain ⟨hC, hro, hty, hX, hb, hb0, hL⟩ := id hW
  refine a_aload_n (pc := 303) (q := 1) (i := 1) (x := 0) hC (by decide +kernel) rfl 2 rfl ?_
  refine a_arg (pc := 304) (c := 1) hW (by omega) (by decide +kernel) (by decide +kernel) (by decide +kernel) (by decide +kernel) (by decide +kernel) ?_
  refine a_arg (pc := 309) (c := 2) hW (by omega) (by decide +kernel) (by decide +kernel) (by decide +kernel) (by decide +kernel) (by decide +kernel) ?_
  refine g_lV (pc := 314) (idx := 37) (i := 0) (av := [vi (xs (i + 1)).toInt, vi (xs (i + 2)).toInt]) (rest := []) (g := G1) (v := vi v) hC hro hty (by decide +kernel) rfl rfl k_V_share (by decide +kernel) (by decide +kernel) (by decide +kernel) c1 rfl rfl (by decide) hk (by first | decide | simp [Value.category]) ?_
  refine a_aload_n (pc := 317) (q := 2) (i := 2) (x := 50) hC (by decide +kernel) rfl 1 rfl ?_
  refine a_arg (pc := 318) (c := 1) hW (by omega) (by decide +kernel) (by decide +kernel) (by decide +kernel) (by decide +kernel) (by decide +kernel) ?_
  refine a_arg (pc := 323) (c := 2) hW (by omega) (by decide +kernel) (by decide +kernel) (by decide +kernel) (by decide +kernel) (by decide +kernel) ?_
  refine g_lV (pc := 328) (idx := 40) (i := 50) (av := [vi (xs (i + 1)).toInt, vi (xs (i + 2)).toInt]) (rest := [vi v]) (g := G2) (v := vi v) hC hro hty (by decide +kernel) rfl rfl k_M_share (by decide +kernel) (by decide +kernel) (by decide +kernel) c2 rfl rfl (by decide) hk (by first | decide | simp [Value.category]) ?_
  exact a_icmp_eq (pc := 331) (off := 316) hC 647 (by decide +kernel) (by decide) hv hv (fun _ => kk G2 N i2) (fun q => absurd rfl q)
set_option maxRecDepth 100000 in
set_option maxHeartbeats 4000000 in
theorem lc_tell (hW : Lw X K L xs) (hk : k ≤ 600000 ∧ n ≤ 7302250) (h : Inv G N) (hi : i + 5 ≤ L) (kk : ∀ G2 N2, Inv G2 N2 → AW X 4 k n 647 (LV i) [] (hp K G2)) : AW X 4 k n 336 (LV i) [] (hp K G) := by
  obtain ⟨v, G1, G2, c1, c2, i2, hv⟩ := op_tell (l := X.la) (D := X.dd) (K := K) h (i32_in (xs (i + 1))) (i32_in (xs (i + 2)))
  obtain ⟨hC, hro, hty, hX, hb, hb0, hL⟩ := id hW
  refine a_aload_n (pc := 336) (q := 1) (i := 1) (x := 0) hC (by decide +kernel) rfl 2 rfl ?_
  refine a_arg (pc := 337) (c := 1) hW (by omega) (by decide +kernel) (by decide +kernel) (by decide +kernel) (by decide +kernel) (by decide +kernel) ?_
  refine a_arg (pc := 342) (c := 2) hW (by omega) (by decide +kernel) (by decide +kernel) (by decide +kernel) (by decide +kernel) (by decide +kernel) ?_
  refine g_lV (pc := 347) (idx := 41) (i := 0) (av := [vi (xs (i + 1)).toInt, vi (xs (i + 2)).toInt]) (rest := []) (g := G1) (v := vi v) hC hro hty (by decide +kernel) rfl rfl k_V_tell (by decide +kernel) (by decide +kernel) (by decide +kernel) c1 rfl rfl (by decide) hk (by first | decide | simp [Value.category]) ?_
  refine a_aload_n (pc := 350) (q := 2) (i := 2) (x := 50) hC (by decide +kernel) rfl 1 rfl ?_
  refine a_arg (pc := 351) (c := 1) hW (by omega) (by decide +kernel) (by decide +kernel) (by decide +kernel) (by decide +kernel) (by decide +kernel) ?_
  refine a_arg (pc := 356) (c := 2) hW (by omega) (by decide +kernel) (by decide +kernel) (by decide +kernel) (by decide +kernel) (by decide +kernel) ?_
  refine g_lV (pc := 361) (idx := 44) (i := 50) (av := [vi (xs (i + 1)).toInt, vi (xs (i + 2)).toInt]) (rest := [vi v]) (g := G2) (v := vi v) hC hro hty (by decide +kernel) rfl rfl k_M_tell (by decide +kernel) (by decide +kernel) (by decide +kernel) c2 rfl rfl (by decide) hk (by first | decide | simp [Value.category]) ?_
  exact a_icmp_eq (pc := 364) (off := 283) hC 647 (by decide +kernel) (by decide) hv hv (fun _ => kk G2 N i2) (fun q => absurd rfl q)
set_option maxRecDepth 100000 in
set_option maxHeartbeats 4000000 in
theorem lc_value (hW : Lw X K L xs) (hk : k ≤ 600000 ∧ n ≤ 7302250) (h : Inv G N) (hi : i + 5 ≤ L) (kk : ∀ G2 N2, Inv G2 N2 → AW X 4 k n 647 (LV i) [] (hp K G2)) : AW X 4 k n 369 (LV i) [] (hp K G) := by
  obtain ⟨v, G1, G2, c1, c2, i2, hv⟩ := op_value (l := X.la) (D := X.dd) (K := K) h (i32_in (xs (i + 1)))
  obtain ⟨hC, hro, hty, hX, hb, hb0, hL⟩ := id hW
  refine a_aload_n (pc := 369) (q := 1) (i := 1) (x := 0) hC (by decide +kernel) rfl 2 rfl ?_
  refine a_arg (pc := 370) (c := 1) hW (by omega) (by decide +kernel) (by decide +kernel) (by decide +kernel) (by decide +kernel) (by decide +kernel) ?_
  refine g_lV (pc := 375) (idx := 45) (i := 0) (av := [vi (xs (i + 1)).toInt]) (rest := []) (g := G1) (v := vi v) hC hro hty (by decide +kernel) rfl rfl k_V_value (by decide +kernel) (by decide +kernel) (by decide +kernel) c1 rfl rfl (by decide) hk (by first | decide | simp [Value.category]) ?_
  refine a_aload_n (pc := 378) (q := 2) (i := 2) (x := 50) hC (by decide +kernel) rfl 1 rfl ?_
  refine a_arg (pc := 379) (c := 1) hW (by omega) (by decide +kernel) (by decide +kernel) (by decide +kernel) (by decide +kernel) (by decide +kernel) ?_
  refine g_lV (pc := 384) (idx := 49) (i := 50) (av := [vi (xs (i + 1)).toInt]) (rest := [vi v]) (g := G2) (v := vi v) hC hro hty (by decide +kernel) rfl rfl k_M_value (by decide +kernel) (by decide +kernel) (by decide +kernel) c2 rfl rfl (by decide) hk (by first | decide | simp [Value.category]) ?_
  exact a_icmp_eq (pc := 387) (off := 260) hC 647 (by decide +kernel) (by decide) hv hv (fun _ => kk G2 N i2) (fun q => absurd rfl q)
set_option maxRecDepth 100000 in
set_option maxHeartbeats 4000000 in
theorem lc_comes (hW : Lw X K L xs) (hk : k ≤ 600000 ∧ n ≤ 7302250) (h : Inv G N) (hi : i + 5 ≤ L) (kk : ∀ G2 N2, Inv G2 N2 → AW X 4 k n 647 (LV i) [] (hp K G2)) : AW X 4 k n 392 (LV i) [] (hp K G) := by
  obtain ⟨v, G1, G2, c1, c2, i2, hv⟩ := op_comes (l := X.la) (D := X.dd) (K := K) h (i32_in (xs (i + 1))) (i32_in (xs (i + 2)))
  obtain ⟨hC, hro, hty, hX, hb, hb0, hL⟩ := id hW
  refine a_aload_n (pc := 392) (q := 1) (i := 1) (x := 0) hC (by decide +kernel) rfl 2 rfl ?_
  refine a_arg (pc := 393) (c := 1) hW (by omega) (by decide +kernel) (by decide +kernel) (by decide +kernel) (by decide +kernel) (by decide +kernel) ?_
  refine a_arg (pc := 398) (c := 2) hW (by omega) (by decide +kernel) (by decide +kernel) (by decide +kernel) (by decide +kernel) (by decide +kernel) ?_
  refine g_lV (pc := 403) (idx := 50) (i := 0) (av := [vi (xs (i + 1)).toInt, vi (xs (i + 2)).toInt]) (rest := []) (g := G1) (v := vi v) hC hro hty (by decide +kernel) rfl rfl k_V_comes (by decide +kernel) (by decide +kernel) (by decide +kernel) c1 rfl rfl (by decide) hk (by first | decide | simp [Value.category]) ?_
  refine a_aload_n (pc := 406) (q := 2) (i := 2) (x := 50) hC (by decide +kernel) rfl 1 rfl ?_
  refine a_arg (pc := 407) (c := 1) hW (by omega) (by decide +kernel) (by decide +kernel) (by decide +kernel) (by decide +kernel) (by decide +kernel) ?_
  refine a_arg (pc := 412) (c := 2) hW (by omega) (by decide +kernel) (by decide +kernel) (by decide +kernel) (by decide +kernel) (by decide +kernel) ?_
  refine g_lV (pc := 417) (idx := 53) (i := 50) (av := [vi (xs (i + 1)).toInt, vi (xs (i + 2)).toInt]) (rest := [vi v]) (g := G2) (v := vi v) hC hro hty (by decide +kernel) rfl rfl k_M_comes (by decide +kernel) (by decide +kernel) (by decide +kernel) c2 rfl rfl (by decide) hk (by first | decide | simp [Value.category]) ?_
  exact a_icmp_eq (pc := 420) (off := 227) hC 647 (by decide +kernel) (by decide) hv hv (fun _ => kk G2 N i2) (fun q => absurd rfl q)
set_option maxRecDepth 100000 in
set_option maxHeartbeats 4000000 in
theorem lc_best (hW : Lw X K L xs) (hk : k ≤ 600000 ∧ n ≤ 7302250) (h : Inv G N) (hi : i + 5 ≤ L) (kk : ∀ G2 N2, Inv G2 N2 → AW X 4 k n 647 (LV i) [] (hp K G2)) : AW X 4 k n 425 (LV i) [] (hp K G) := by
  obtain ⟨v, G1, G2, c1, c2, i2, hv⟩ := op_best (l := X.la) (D := X.dd) (K := K) h (i32_in (xs (i + 1)))
  obtain ⟨hC, hro, hty, hX, hb, hb0, hL⟩ := id hW
  refine a_aload_n (pc := 425) (q := 1) (i := 1) (x := 0) hC (by decide +kernel) rfl 2 rfl ?_
  refine a_arg (pc := 426) (c := 1) hW (by omega) (by decide +kernel) (by decide +kernel) (by decide +kernel) (by decide +kernel) (by decide +kernel) ?_
  refine g_lV (pc := 431) (idx := 54) (i := 0) (av := [vi (xs (i + 1)).toInt]) (rest := []) (g := G1) (v := vi v) hC hro hty (by decide +kernel) rfl rfl k_V_best (by decide +kernel) (by decide +kernel) (by decide +kernel) c1 rfl rfl (by decide) hk (by first | decide | simp [Value.category]) ?_
  refine a_aload_n (pc := 434) (q := 2) (i := 2) (x := 50) hC (by decide +kernel) rfl 1 rfl ?_
  refine a_arg (pc := 435) (c := 1) hW (by omega) (by decide +kernel) (by decide +kernel) (by decide +kernel) (by decide +kernel) (by decide +kernel) ?_
  refine g_lV (pc := 440) (idx := 57) (i := 50) (av := [vi (xs (i + 1)).toInt]) (rest := [vi v]) (g := G2) (v := vi v) hC hro hty (by decide +kernel) rfl rfl k_M_best (by decide +kernel) (by decide +kernel) (by decide +kernel) c2 rfl rfl (by decide) hk (by first | decide | simp [Value.category]) ?_
  exact a_icmp_eq (pc := 443) (off := 204) hC 647 (by decide +kernel) (by decide) hv hv (fun _ => kk G2 N i2) (fun q => absurd rfl q)
set_option maxRecDepth 100000 in
set_option maxHeartbeats 4000000 in
theorem lc_worth (hW : Lw X K L xs) (hk : k ≤ 600000 ∧ n ≤ 7302250) (h : Inv G N) (hi : i + 5 ≤ L) (kk : ∀ G2 N2, Inv G2 N2 → AW X 4 k n 647 (LV i) [] (hp K G2)) : AW X 4 k n 448 (LV i) [] (hp K G) := by
  obtain ⟨v, G1, G2, c1, c2, i2, hv⟩ := op_worth (l := X.la) (D := X.dd) (K := K) h (i32_in (xs (i + 1)))
  obtain ⟨hC, hro, hty, hX, hb, hb0, hL⟩ := id hW
  refine a_aload_n (pc := 448) (q := 1) (i := 1) (x := 0) hC (by decide +kernel) rfl 2 rfl ?_
  refine a_arg (pc := 449) (c := 1) hW (by omega) (by decide +kernel) (by decide +kernel) (by decide +kernel) (by decide +kernel) (by decide +kernel) ?_
  refine g_lV (pc := 454) (idx := 58) (i := 0) (av := [vi (xs (i + 1)).toInt]) (rest := []) (g := G1) (v := vi v) hC hro hty (by decide +kernel) rfl rfl k_V_worth (by decide +kernel) (by decide +kernel) (by decide +kernel) c1 rfl rfl (by decide) hk (by first | decide | simp [Value.category]) ?_
  refine a_aload_n (pc := 457) (q := 2) (i := 2) (x := 50) hC (by decide +kernel) rfl 1 rfl ?_
  refine a_arg (pc := 458) (c := 1) hW (by omega) (by decide +kernel) (by decide +kernel) (by decide +kernel) (by decide +kernel) (by decide +kernel) ?_
  refine g_lV (pc := 463) (idx := 61) (i := 50) (av := [vi (xs (i + 1)).toInt]) (rest := [vi v]) (g := G2) (v := vi v) hC hro hty (by decide +kernel) rfl rfl k_M_worth (by decide +kernel) (by decide +kernel) (by decide +kernel) c2 rfl rfl (by decide) hk (by first | decide | simp [Value.category]) ?_
  exact a_icmp_eq (pc := 466) (off := 181) hC 647 (by decide +kernel) (by decide) hv hv (fun _ => kk G2 N i2) (fun q => absurd rfl q)
set_option maxRecDepth 100000 in
set_option maxHeartbeats 4000000 in
theorem lc_reply (hW : Lw X K L xs) (hk : k ≤ 600000 ∧ n ≤ 7302250) (h : Inv G N) (hi : i + 5 ≤ L) (kk : ∀ G2 N2, Inv G2 N2 → AW X 4 k n 647 (LV i) [] (hp K G2)) : AW X 4 k n 471 (LV i) [] (hp K G) := by
  obtain ⟨v, G1, G2, c1, c2, i2, hv⟩ := op_reply (l := X.la) (D := X.dd) (K := K) h (i32_in (xs (i + 1))) (i32_in (xs (i + 2)))
  obtain ⟨hC, hro, hty, hX, hb, hb0, hL⟩ := id hW
  refine a_aload_n (pc := 471) (q := 1) (i := 1) (x := 0) hC (by decide +kernel) rfl 2 rfl ?_
  refine a_arg (pc := 472) (c := 1) hW (by omega) (by decide +kernel) (by decide +kernel) (by decide +kernel) (by decide +kernel) (by decide +kernel) ?_
  refine a_arg (pc := 477) (c := 2) hW (by omega) (by decide +kernel) (by decide +kernel) (by decide +kernel) (by decide +kernel) (by decide +kernel) ?_
  refine g_lV (pc := 482) (idx := 62) (i := 0) (av := [vi (xs (i + 1)).toInt, vi (xs (i + 2)).toInt]) (rest := []) (g := G1) (v := vi v) hC hro hty (by decide +kernel) rfl rfl k_V_reply (by decide +kernel) (by decide +kernel) (by decide +kernel) c1 rfl rfl (by decide) hk (by first | decide | simp [Value.category]) ?_
  refine a_aload_n (pc := 485) (q := 2) (i := 2) (x := 50) hC (by decide +kernel) rfl 1 rfl ?_
  refine a_arg (pc := 486) (c := 1) hW (by omega) (by decide +kernel) (by decide +kernel) (by decide +kernel) (by decide +kernel) (by decide +kernel) ?_
  refine a_arg (pc := 491) (c := 2) hW (by omega) (by decide +kernel) (by decide +kernel) (by decide +kernel) (by decide +kernel) (by decide +kernel) ?_
  refine g_lV (pc := 496) (idx := 65) (i := 50) (av := [vi (xs (i + 1)).toInt, vi (xs (i + 2)).toInt]) (rest := [vi v]) (g := G2) (v := vi v) hC hro hty (by decide +kernel) rfl rfl k_M_reply (by decide +kernel) (by decide +kernel) (by decide +kernel) c2 rfl rfl (by decide) hk (by first | decide | simp [Value.category]) ?_
  exact a_icmp_eq (pc := 499) (off := 148) hC 647 (by decide +kernel) (by decide) hv hv (fun _ => kk G2 N i2) (fun q => absurd rfl q)
set_option maxRecDepth 100000 in
set_option maxHeartbeats 4000000 in
theorem lc_change (hW : Lw X K L xs) (hk : k ≤ 600000 ∧ n ≤ 7302250) (h : Inv G N) (hi : i + 5 ≤ L) (kk : ∀ G2 N2, Inv G2 N2 → AW X 4 k n 647 (LV i) [] (hp K G2)) : AW X 4 k n 504 (LV i) [] (hp K G) := by
  obtain ⟨v, G1, G2, c1, c2, i2, hv⟩ := op_change (l := X.la) (D := X.dd) (K := K) h (i32_in (xs (i + 1)))
  obtain ⟨hC, hro, hty, hX, hb, hb0, hL⟩ := id hW
  refine a_aload_n (pc := 504) (q := 1) (i := 1) (x := 0) hC (by decide +kernel) rfl 2 rfl ?_
  refine a_arg (pc := 505) (c := 1) hW (by omega) (by decide +kernel) (by decide +kernel) (by decide +kernel) (by decide +kernel) (by decide +kernel) ?_
  refine g_lV (pc := 510) (idx := 66) (i := 0) (av := [vi (xs (i + 1)).toInt]) (rest := []) (g := G1) (v := vi v) hC hro hty (by decide +kernel) rfl rfl k_V_change (by decide +kernel) (by decide +kernel) (by decide +kernel) c1 rfl rfl (by decide) hk (by first | decide | simp [Value.category]) ?_
  refine a_aload_n (pc := 513) (q := 2) (i := 2) (x := 50) hC (by decide +kernel) rfl 1 rfl ?_
  refine a_arg (pc := 514) (c := 1) hW (by omega) (by decide +kernel) (by decide +kernel) (by decide +kernel) (by decide +kernel) (by decide +kernel) ?_
  refine g_lV (pc := 519) (idx := 69) (i := 50) (av := [vi (xs (i + 1)).toInt]) (rest := [vi v]) (g := G2) (v := vi v) hC hro hty (by decide +kernel) rfl rfl k_M_change (by decide +kernel) (by decide +kernel) (by decide +kernel) c2 rfl rfl (by decide) hk (by first | decide | simp [Value.category]) ?_
  exact a_icmp_eq (pc := 522) (off := 125) hC 647 (by decide +kernel) (by decide) hv hv (fun _ => kk G2 N i2) (fun q => absurd rfl q)
set_option maxRecDepth 100000 in
set_option maxHeartbeats 4000000 in
theorem lc_within (hW : Lw X K L xs) (hk : k ≤ 600000 ∧ n ≤ 7302250) (h : Inv G N) (hi : i + 5 ≤ L) (kk : ∀ G2 N2, Inv G2 N2 → AW X 4 k n 647 (LV i) [] (hp K G2)) : AW X 4 k n 527 (LV i) [] (hp K G) := by
  obtain ⟨v, G1, G2, c1, c2, i2, hv⟩ := op_within (l := X.la) (D := X.dd) (K := K) h (i32_in (xs (i + 1))) (i32_in (xs (i + 2)))
  obtain ⟨hC, hro, hty, hX, hb, hb0, hL⟩ := id hW
  refine a_aload_n (pc := 527) (q := 1) (i := 1) (x := 0) hC (by decide +kernel) rfl 2 rfl ?_
  refine a_arg (pc := 528) (c := 1) hW (by omega) (by decide +kernel) (by decide +kernel) (by decide +kernel) (by decide +kernel) (by decide +kernel) ?_
  refine a_arg (pc := 533) (c := 2) hW (by omega) (by decide +kernel) (by decide +kernel) (by decide +kernel) (by decide +kernel) (by decide +kernel) ?_
  refine g_lV (pc := 538) (idx := 70) (i := 0) (av := [vi (xs (i + 1)).toInt, vi (xs (i + 2)).toInt]) (rest := []) (g := G1) (v := vi v) hC hro hty (by decide +kernel) rfl rfl k_V_within (by decide +kernel) (by decide +kernel) (by decide +kernel) c1 rfl rfl (by decide) hk (by first | decide | simp [Value.category]) ?_
  refine a_aload_n (pc := 541) (q := 2) (i := 2) (x := 50) hC (by decide +kernel) rfl 1 rfl ?_
  refine a_arg (pc := 542) (c := 1) hW (by omega) (by decide +kernel) (by decide +kernel) (by decide +kernel) (by decide +kernel) (by decide +kernel) ?_
  refine a_arg (pc := 547) (c := 2) hW (by omega) (by decide +kernel) (by decide +kernel) (by decide +kernel) (by decide +kernel) (by decide +kernel) ?_
  refine g_lV (pc := 552) (idx := 73) (i := 50) (av := [vi (xs (i + 1)).toInt, vi (xs (i + 2)).toInt]) (rest := [vi v]) (g := G2) (v := vi v) hC hro hty (by decide +kernel) rfl rfl k_M_within (by decide +kernel) (by decide +kernel) (by decide +kernel) c2 rfl rfl (by decide) hk (by first | decide | simp [Value.category]) ?_
  exact a_icmp_eq (pc := 555) (off := 92) hC 647 (by decide +kernel) (by decide) hv hv (fun _ => kk G2 N i2) (fun q => absurd rfl q)
set_option maxRecDepth 100000 in
set_option maxHeartbeats 4000000 in
theorem lc_run (hW : Lw X K L xs) (hk : k ≤ 600000 ∧ n ≤ 7302250) (h : Inv G N) (hi : i + 5 ≤ L) (kk : ∀ G2 N2, Inv G2 N2 → AW X 4 k n 647 (LV i) [] (hp K G2)) : AW X 4 k n 560 (LV i) [] (hp K G) := by
  obtain ⟨v, G1, G2, c1, c2, i2, hv⟩ := op_run (l := X.la) (D := X.dd) (K := K) h (i32_in (xs (i + 1)))
  obtain ⟨hC, hro, hty, hX, hb, hb0, hL⟩ := id hW
  refine a_aload_n (pc := 560) (q := 1) (i := 1) (x := 0) hC (by decide +kernel) rfl 2 rfl ?_
  refine a_arg (pc := 561) (c := 1) hW (by omega) (by decide +kernel) (by decide +kernel) (by decide +kernel) (by decide +kernel) (by decide +kernel) ?_
  refine g_lV (pc := 566) (idx := 74) (i := 0) (av := [vi (xs (i + 1)).toInt]) (rest := []) (g := G1) (v := vi v) hC hro hty (by decide +kernel) rfl rfl k_V_run (by decide +kernel) (by decide +kernel) (by decide +kernel) c1 rfl rfl (by decide) hk (by first | decide | simp [Value.category]) ?_
  refine a_aload_n (pc := 569) (q := 2) (i := 2) (x := 50) hC (by decide +kernel) rfl 1 rfl ?_
  refine a_arg (pc := 570) (c := 1) hW (by omega) (by decide +kernel) (by decide +kernel) (by decide +kernel) (by decide +kernel) (by decide +kernel) ?_
  refine g_lV (pc := 575) (idx := 77) (i := 50) (av := [vi (xs (i + 1)).toInt]) (rest := [vi v]) (g := G2) (v := vi v) hC hro hty (by decide +kernel) rfl rfl k_M_run (by decide +kernel) (by decide +kernel) (by decide +kernel) c2 rfl rfl (by decide) hk (by first | decide | simp [Value.category]) ?_
  exact a_icmp_eq (pc := 578) (off := 69) hC 647 (by decide +kernel) (by decide) hv hv (fun _ => kk G2 N i2) (fun q => absurd rfl q)
set_option maxRecDepth 100000 in
set_option maxHeartbeats 4000000 in
theorem lc_settled (hW : Lw X K L xs) (hk : k ≤ 600000 ∧ n ≤ 7302250) (h : Inv G N) (hi : i + 5 ≤ L) (kk : ∀ G2 N2, Inv G2 N2 → AW X 4 k n 647 (LV i) [] (hp K G2)) : AW X 4 k n 583 (LV i) [] (hp K G) := by
  obtain ⟨v, G1, G2, c1, c2, i2, hv⟩ := op_settled (l := X.la) (D := X.dd) (K := K) h 
  obtain ⟨hC, hro, hty, hX, hb, hb0, hL⟩ := id hW
  refine a_aload_n (pc := 583) (q := 1) (i := 1) (x := 0) hC (by decide +kernel) rfl 2 rfl ?_
  refine g_lV (pc := 584) (idx := 78) (i := 0) (av := []) (rest := []) (g := G1) (v := vi v) hC hro hty (by decide +kernel) rfl rfl k_V_settled (by decide +kernel) (by decide +kernel) (by decide +kernel) c1 rfl rfl (by decide) hk (by first | decide | simp [Value.category]) ?_
  refine a_aload_n (pc := 587) (q := 2) (i := 2) (x := 50) hC (by decide +kernel) rfl 1 rfl ?_
  refine g_lV (pc := 588) (idx := 82) (i := 50) (av := []) (rest := [vi v]) (g := G2) (v := vi v) hC hro hty (by decide +kernel) rfl rfl k_M_settled (by decide +kernel) (by decide +kernel) (by decide +kernel) c2 rfl rfl (by decide) hk (by first | decide | simp [Value.category]) ?_
  exact a_icmp_eq (pc := 591) (off := 56) hC 647 (by decide +kernel) (by decide) hv hv (fun _ => kk G2 N i2) (fun q => absurd rfl q)
set_option maxRecDepth 100000 in
set_option maxHeartbeats 4000000 in
theorem lc_upper (hW : Lw X K L xs) (hk : k ≤ 600000 ∧ n ≤ 7302250) (h : Inv G N) (hi : i + 5 ≤ L) (kk : ∀ G2 N2, Inv G2 N2 → AW X 4 k n 647 (LV i) [] (hp K G2)) : AW X 4 k n 596 (LV i) [] (hp K G) := by
  obtain ⟨c1, c2, i2⟩ := op_upper (l := X.la) (D := X.dd) (K := K) h
  obtain ⟨hC, hro, hty, hX, hb, hb0, hL⟩ := id hW
  refine a_aload_n (pc := 596) (q := 1) (i := 1) (x := 0) hC (by decide +kernel) rfl 2 rfl ?_
  refine g_lV (pc := 597) (idx := 83) (i := 0) (av := []) (rest := []) (g := G) (v := vl (G 0 8)) hC hro hty (by decide +kernel) rfl rfl k_V_upper (by decide +kernel) (by decide +kernel) (by decide +kernel) c1 rfl rfl (by decide) hk (by first | decide | simp [Value.category]) ?_
  refine a_aload_n (pc := 600) (q := 2) (i := 2) (x := 50) hC (by decide +kernel) rfl 1 rfl ?_
  refine g_lV (pc := 601) (idx := 87) (i := 50) (av := []) (rest := [vl (G 0 8)]) (g := m0 G) (v := vl (G 0 8)) hC hro hty (by decide +kernel) rfl rfl k_M_upper (by decide +kernel) (by decide +kernel) (by decide +kernel) c2 rfl rfl (by decide) hk (by first | decide | simp [Value.category]) ?_
  refine a_lcmpS (pc := 604) hC (by decide +kernel) ?_
  exact a_if_eq (pc := 605) (off := 42) hC 647 (by decide +kernel) (by decide) inI_0 (fun _ => kk _ N i2) (fun q => absurd rfl q)
set_option maxRecDepth 100000 in
set_option maxHeartbeats 4000000 in
theorem lc_lower (hW : Lw X K L xs) (hk : k ≤ 600000 ∧ n ≤ 7302250) (h : Inv G N) (hi : i + 5 ≤ L) (kk : ∀ G2 N2, Inv G2 N2 → AW X 4 k n 647 (LV i) [] (hp K G2)) : AW X 4 k n 610 (LV i) [] (hp K G) := by
  obtain ⟨c1, c2, i2⟩ := op_lower (l := X.la) (D := X.dd) (K := K) h
  obtain ⟨hC, hro, hty, hX, hb, hb0, hL⟩ := id hW
  refine a_aload_n (pc := 610) (q := 1) (i := 1) (x := 0) hC (by decide +kernel) rfl 2 rfl ?_
  refine g_lV (pc := 611) (idx := 88) (i := 0) (av := []) (rest := []) (g := G) (v := vl (G 0 9)) hC hro hty (by decide +kernel) rfl rfl k_V_lower (by decide +kernel) (by decide +kernel) (by decide +kernel) c1 rfl rfl (by decide) hk (by first | decide | simp [Value.category]) ?_
  refine a_aload_n (pc := 614) (q := 2) (i := 2) (x := 50) hC (by decide +kernel) rfl 1 rfl ?_
  refine g_lV (pc := 615) (idx := 91) (i := 50) (av := []) (rest := [vl (G 0 9)]) (g := m0 G) (v := vl (G 0 9)) hC hro hty (by decide +kernel) rfl rfl k_M_lower (by decide +kernel) (by decide +kernel) (by decide +kernel) c2 rfl rfl (by decide) hk (by first | decide | simp [Value.category]) ?_
  refine a_lcmpS (pc := 618) hC (by decide +kernel) ?_
  exact a_if_eq (pc := 619) (off := 28) hC 647 (by decide +kernel) (by decide) inI_0 (fun _ => kk _ N i2) (fun q => absurd rfl q)
set_option maxRecDepth 100000 in
set_option maxHeartbeats 4000000 in
theorem lc_told (hW : Lw X K L xs) (hk : k ≤ 600000 ∧ n ≤ 7302250) (h : Inv G N) (hi : i + 5 ≤ L) (kk : ∀ G2 N2, Inv G2 N2 → AW X 4 k n 647 (LV i) [] (hp K G2)) : AW X 4 k n 624 (LV i) [] (hp K G) := by
  obtain ⟨v, G1, G2, c1, c2, i2, hv⟩ := op_told (l := X.la) (D := X.dd) (K := K) h (i32_in (xs (i + 1)))
  obtain ⟨hC, hro, hty, hX, hb, hb0, hL⟩ := id hW
  refine a_aload_n (pc := 624) (q := 1) (i := 1) (x := 0) hC (by decide +kernel) rfl 2 rfl ?_
  refine a_arg (pc := 625) (c := 1) hW (by omega) (by decide +kernel) (by decide +kernel) (by decide +kernel) (by decide +kernel) (by decide +kernel) ?_
  refine g_lV (pc := 630) (idx := 92) (i := 0) (av := [vi (xs (i + 1)).toInt]) (rest := []) (g := G1) (v := vi v) hC hro hty (by decide +kernel) rfl rfl k_V_told (by decide +kernel) (by decide +kernel) (by decide +kernel) c1 rfl rfl (by decide) hk (by first | decide | simp [Value.category]) ?_
  refine a_aload_n (pc := 633) (q := 2) (i := 2) (x := 50) hC (by decide +kernel) rfl 1 rfl ?_
  refine a_arg (pc := 634) (c := 1) hW (by omega) (by decide +kernel) (by decide +kernel) (by decide +kernel) (by decide +kernel) (by decide +kernel) ?_
  refine g_lV (pc := 639) (idx := 95) (i := 50) (av := [vi (xs (i + 1)).toInt]) (rest := [vi v]) (g := G2) (v := vi v) hC hro hty (by decide +kernel) rfl rfl k_M_told (by decide +kernel) (by decide +kernel) (by decide +kernel) c2 rfl rfl (by decide) hk (by first | decide | simp [Value.category]) ?_
  exact a_icmp_eq (pc := 642) (off := 5) hC 647 (by decide +kernel) (by decide) hv hv (fun _ => kk G2 N i2) (fun q => absurd rfl q)
end LAW
