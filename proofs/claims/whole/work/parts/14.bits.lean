set_option maxRecDepth 100000 in
set_option maxHeartbeats 4000000 in
theorem ct_JI_bitCount_0 (l : Launch) (D : va_G) (K : K5) (G : GT)  : Ct l D K y_JI_bitCount c_JI_bitCount 1 (some .int) 0 0 [vi 0] G (some (vi 0)) G := by
  refine Ct.intro (by decide +kernel) (Nat.le_of_ble_eq_true rfl) ?_
  intro X hro hty hC hE
  refine a_iload_n (pc := 0) (q := 0) (i := 0) (x := 0) hC (by decide +kernel) rfl 0 rfl ?_
  refine a_iload_n (pc := 1) (q := 0) (i := 0) (x := 0) hC (by decide +kernel) rfl 0 rfl ?_
  refine a_iconst (pc := 2) (c := 1) hC (by decide +kernel) ?_
  refine a_iushr (pc := 3) (z := 0) hC (by decide +kernel) (by decide +kernel) ?_
  refine a_ldcw (pc := 4) (idx := 265) (z := 1431655765) (v := 1431655765) hC (by decide +kernel) (by decide +kernel) rfl ?_
  refine a_iand (pc := 7) (z := 0) hC (by decide +kernel) (by decide +kernel) ?_
  refine a_isub (pc := 8) hC (by decide +kernel) ?_
  refine g_top (y := 0) rfl ?_
  refine a_istore_n (pc := 9) (q := 0) (i := 0) (lv' := [(0, vi 0)]) hC (by decide +kernel) rfl (by decide) rfl ?_
  refine a_iload_n (pc := 10) (q := 0) (i := 0) (x := 0) hC (by decide +kernel) rfl 0 rfl ?_
  refine a_ldcw (pc := 11) (idx := 266) (z := 858993459) (v := 858993459) hC (by decide +kernel) (by decide +kernel) rfl ?_
  refine a_iand (pc := 14) (z := 0) hC (by decide +kernel) (by decide +kernel) ?_
  refine a_iload_n (pc := 15) (q := 0) (i := 0) (x := 0) hC (by decide +kernel) rfl 0 rfl ?_
  refine a_iconst (pc := 16) (c := 2) hC (by decide +kernel) ?_
  refine a_iushr (pc := 17) (z := 0) hC (by decide +kernel) (by decide +kernel) ?_
  refine a_ldcw (pc := 18) (idx := 266) (z := 858993459) (v := 858993459) hC (by decide +kernel) (by decide +kernel) rfl ?_
  refine a_iand (pc := 21) (z := 0) hC (by decide +kernel) (by decide +kernel) ?_
  refine a_iadd (pc := 22) hC (by decide +kernel) ?_
  refine g_top (y := 0) rfl ?_
  refine a_istore_n (pc := 23) (q := 0) (i := 0) (lv' := [(0, vi 0)]) hC (by decide +kernel) rfl (by decide) rfl ?_
  refine a_iload_n (pc := 24) (q := 0) (i := 0) (x := 0) hC (by decide +kernel) rfl 0 rfl ?_
  refine a_iload_n (pc := 25) (q := 0) (i := 0) (x := 0) hC (by decide +kernel) rfl 0 rfl ?_
  refine a_iconst (pc := 26) (c := 4) hC (by decide +kernel) ?_
  refine a_iushr (pc := 27) (z := 0) hC (by decide +kernel) (by decide +kernel) ?_
  refine a_iadd (pc := 28) hC (by decide +kernel) ?_
  refine g_top (y := 0) rfl ?_
  refine a_ldcw (pc := 29) (idx := 267) (z := 252645135) (v := 252645135) hC (by decide +kernel) (by decide +kernel) rfl ?_
  refine a_iand (pc := 32) (z := 0) hC (by decide +kernel) (by decide +kernel) ?_
  refine a_istore_n (pc := 33) (q := 0) (i := 0) (lv' := [(0, vi 0)]) hC (by decide +kernel) rfl (by decide) rfl ?_
  refine a_iload_n (pc := 34) (q := 0) (i := 0) (x := 0) hC (by decide +kernel) rfl 0 rfl ?_
  refine a_iload_n (pc := 35) (q := 0) (i := 0) (x := 0) hC (by decide +kernel) rfl 0 rfl ?_
  refine a_bipush (pc := 36) (c := 8) hC (by decide +kernel) (by decide +kernel) ?_
  refine a_iushr (pc := 38) (z := 0) hC (by decide +kernel) (by decide +kernel) ?_
  refine a_iadd (pc := 39) hC (by decide +kernel) ?_
  refine g_top (y := 0) rfl ?_
  refine a_istore_n (pc := 40) (q := 0) (i := 0) (lv' := [(0, vi 0)]) hC (by decide +kernel) rfl (by decide) rfl ?_
  refine a_iload_n (pc := 41) (q := 0) (i := 0) (x := 0) hC (by decide +kernel) rfl 0 rfl ?_
  refine a_iload_n (pc := 42) (q := 0) (i := 0) (x := 0) hC (by decide +kernel) rfl 0 rfl ?_
  refine a_bipush (pc := 43) (c := 16) hC (by decide +kernel) (by decide +kernel) ?_
  refine a_iushr (pc := 45) (z := 0) hC (by decide +kernel) (by decide +kernel) ?_
  refine a_iadd (pc := 46) hC (by decide +kernel) ?_
  refine g_top (y := 0) rfl ?_
  refine a_istore_n (pc := 47) (q := 0) (i := 0) (lv' := [(0, vi 0)]) hC (by decide +kernel) rfl (by decide) rfl ?_
  refine a_iload_n (pc := 48) (q := 0) (i := 0) (x := 0) hC (by decide +kernel) rfl 0 rfl ?_
  refine a_bipush (pc := 49) (c := 63) hC (by decide +kernel) (by decide +kernel) ?_
  refine a_iand (pc := 51) (z := 0) hC (by decide +kernel) (by decide +kernel) ?_
  exact g_iret (pc := 52) hC hE (by decide +kernel) rfl rfl

set_option maxRecDepth 100000 in
set_option maxHeartbeats 4000000 in
theorem ct_JI_bitCount_1 (l : Launch) (D : va_G) (K : K5) (G : GT)  : Ct l D K y_JI_bitCount c_JI_bitCount 1 (some .int) 0 0 [vi 1] G (some (vi 1)) G := by
  refine Ct.intro (by decide +kernel) (Nat.le_of_ble_eq_true rfl) ?_
  intro X hro hty hC hE
  refine a_iload_n (pc := 0) (q := 0) (i := 0) (x := 1) hC (by decide +kernel) rfl 0 rfl ?_
  refine a_iload_n (pc := 1) (q := 0) (i := 0) (x := 1) hC (by decide +kernel) rfl 0 rfl ?_
  refine a_iconst (pc := 2) (c := 1) hC (by decide +kernel) ?_
  refine a_iushr (pc := 3) (z := 0) hC (by decide +kernel) (by decide +kernel) ?_
  refine a_ldcw (pc := 4) (idx := 265) (z := 1431655765) (v := 1431655765) hC (by decide +kernel) (by decide +kernel) rfl ?_
  refine a_iand (pc := 7) (z := 0) hC (by decide +kernel) (by decide +kernel) ?_
  refine a_isub (pc := 8) hC (by decide +kernel) ?_
  refine g_top (y := 1) rfl ?_
  refine a_istore_n (pc := 9) (q := 0) (i := 0) (lv' := [(0, vi 1)]) hC (by decide +kernel) rfl (by decide) rfl ?_
  refine a_iload_n (pc := 10) (q := 0) (i := 0) (x := 1) hC (by decide +kernel) rfl 0 rfl ?_
  refine a_ldcw (pc := 11) (idx := 266) (z := 858993459) (v := 858993459) hC (by decide +kernel) (by decide +kernel) rfl ?_
  refine a_iand (pc := 14) (z := 1) hC (by decide +kernel) (by decide +kernel) ?_
  refine a_iload_n (pc := 15) (q := 0) (i := 0) (x := 1) hC (by decide +kernel) rfl 0 rfl ?_
  refine a_iconst (pc := 16) (c := 2) hC (by decide +kernel) ?_
  refine a_iushr (pc := 17) (z := 0) hC (by decide +kernel) (by decide +kernel) ?_
  refine a_ldcw (pc := 18) (idx := 266) (z := 858993459) (v := 858993459) hC (by decide +kernel) (by decide +kernel) rfl ?_
  refine a_iand (pc := 21) (z := 0) hC (by decide +kernel) (by decide +kernel) ?_
  refine a_iadd (pc := 22) hC (by decide +kernel) ?_
  refine g_top (y := 1) rfl ?_
  refine a_istore_n (pc := 23) (q := 0) (i := 0) (lv' := [(0, vi 1)]) hC (by decide +kernel) rfl (by decide) rfl ?_
  refine a_iload_n (pc := 24) (q := 0) (i := 0) (x := 1) hC (by decide +kernel) rfl 0 rfl ?_
  refine a_iload_n (pc := 25) (q := 0) (i := 0) (x := 1) hC (by decide +kernel) rfl 0 rfl ?_
  refine a_iconst (pc := 26) (c := 4) hC (by decide +kernel) ?_
  refine a_iushr (pc := 27) (z := 0) hC (by decide +kernel) (by decide +kernel) ?_
  refine a_iadd (pc := 28) hC (by decide +kernel) ?_
  refine g_top (y := 1) rfl ?_
  refine a_ldcw (pc := 29) (idx := 267) (z := 252645135) (v := 252645135) hC (by decide +kernel) (by decide +kernel) rfl ?_
  refine a_iand (pc := 32) (z := 1) hC (by decide +kernel) (by decide +kernel) ?_
  refine a_istore_n (pc := 33) (q := 0) (i := 0) (lv' := [(0, vi 1)]) hC (by decide +kernel) rfl (by decide) rfl ?_
  refine a_iload_n (pc := 34) (q := 0) (i := 0) (x := 1) hC (by decide +kernel) rfl 0 rfl ?_
  refine a_iload_n (pc := 35) (q := 0) (i := 0) (x := 1) hC (by decide +kernel) rfl 0 rfl ?_
  refine a_bipush (pc := 36) (c := 8) hC (by decide +kernel) (by decide +kernel) ?_
  refine a_iushr (pc := 38) (z := 0) hC (by decide +kernel) (by decide +kernel) ?_
  refine a_iadd (pc := 39) hC (by decide +kernel) ?_
  refine g_top (y := 1) rfl ?_
  refine a_istore_n (pc := 40) (q := 0) (i := 0) (lv' := [(0, vi 1)]) hC (by decide +kernel) rfl (by decide) rfl ?_
  refine a_iload_n (pc := 41) (q := 0) (i := 0) (x := 1) hC (by decide +kernel) rfl 0 rfl ?_
  refine a_iload_n (pc := 42) (q := 0) (i := 0) (x := 1) hC (by decide +kernel) rfl 0 rfl ?_
  refine a_bipush (pc := 43) (c := 16) hC (by decide +kernel) (by decide +kernel) ?_
  refine a_iushr (pc := 45) (z := 0) hC (by decide +kernel) (by decide +kernel) ?_
  refine a_iadd (pc := 46) hC (by decide +kernel) ?_
  refine g_top (y := 1) rfl ?_
  refine a_istore_n (pc := 47) (q := 0) (i := 0) (lv' := [(0, vi 1)]) hC (by decide +kernel) rfl (by decide) rfl ?_
  refine a_iload_n (pc := 48) (q := 0) (i := 0) (x := 1) hC (by decide +kernel) rfl 0 rfl ?_
  refine a_bipush (pc := 49) (c := 63) hC (by decide +kernel) (by decide +kernel) ?_
  refine a_iand (pc := 51) (z := 1) hC (by decide +kernel) (by decide +kernel) ?_
  exact g_iret (pc := 52) hC hE (by decide +kernel) rfl rfl

set_option maxRecDepth 100000 in
set_option maxHeartbeats 4000000 in
theorem ct_JI_bitCount_2 (l : Launch) (D : va_G) (K : K5) (G : GT)  : Ct l D K y_JI_bitCount c_JI_bitCount 1 (some .int) 0 0 [vi 2] G (some (vi 1)) G := by
  refine Ct.intro (by decide +kernel) (Nat.le_of_ble_eq_true rfl) ?_
  intro X hro hty hC hE
  refine a_iload_n (pc := 0) (q := 0) (i := 0) (x := 2) hC (by decide +kernel) rfl 0 rfl ?_
  refine a_iload_n (pc := 1) (q := 0) (i := 0) (x := 2) hC (by decide +kernel) rfl 0 rfl ?_
  refine a_iconst (pc := 2) (c := 1) hC (by decide +kernel) ?_
  refine a_iushr (pc := 3) (z := 1) hC (by decide +kernel) (by decide +kernel) ?_
  refine a_ldcw (pc := 4) (idx := 265) (z := 1431655765) (v := 1431655765) hC (by decide +kernel) (by decide +kernel) rfl ?_
  refine a_iand (pc := 7) (z := 1) hC (by decide +kernel) (by decide +kernel) ?_
  refine a_isub (pc := 8) hC (by decide +kernel) ?_
  refine g_top (y := 1) rfl ?_
  refine a_istore_n (pc := 9) (q := 0) (i := 0) (lv' := [(0, vi 1)]) hC (by decide +kernel) rfl (by decide) rfl ?_
  refine a_iload_n (pc := 10) (q := 0) (i := 0) (x := 1) hC (by decide +kernel) rfl 0 rfl ?_
  refine a_ldcw (pc := 11) (idx := 266) (z := 858993459) (v := 858993459) hC (by decide +kernel) (by decide +kernel) rfl ?_
  refine a_iand (pc := 14) (z := 1) hC (by decide +kernel) (by decide +kernel) ?_
  refine a_iload_n (pc := 15) (q := 0) (i := 0) (x := 1) hC (by decide +kernel) rfl 0 rfl ?_
  refine a_iconst (pc := 16) (c := 2) hC (by decide +kernel) ?_
  refine a_iushr (pc := 17) (z := 0) hC (by decide +kernel) (by decide +kernel) ?_
  refine a_ldcw (pc := 18) (idx := 266) (z := 858993459) (v := 858993459) hC (by decide +kernel) (by decide +kernel) rfl ?_
  refine a_iand (pc := 21) (z := 0) hC (by decide +kernel) (by decide +kernel) ?_
  refine a_iadd (pc := 22) hC (by decide +kernel) ?_
  refine g_top (y := 1) rfl ?_
  refine a_istore_n (pc := 23) (q := 0) (i := 0) (lv' := [(0, vi 1)]) hC (by decide +kernel) rfl (by decide) rfl ?_
  refine a_iload_n (pc := 24) (q := 0) (i := 0) (x := 1) hC (by decide +kernel) rfl 0 rfl ?_
  refine a_iload_n (pc := 25) (q := 0) (i := 0) (x := 1) hC (by decide +kernel) rfl 0 rfl ?_
  refine a_iconst (pc := 26) (c := 4) hC (by decide +kernel) ?_
  refine a_iushr (pc := 27) (z := 0) hC (by decide +kernel) (by decide +kernel) ?_
  refine a_iadd (pc := 28) hC (by decide +kernel) ?_
  refine g_top (y := 1) rfl ?_
  refine a_ldcw (pc := 29) (idx := 267) (z := 252645135) (v := 252645135) hC (by decide +kernel) (by decide +kernel) rfl ?_
  refine a_iand (pc := 32) (z := 1) hC (by decide +kernel) (by decide +kernel) ?_
  refine a_istore_n (pc := 33) (q := 0) (i := 0) (lv' := [(0, vi 1)]) hC (by decide +kernel) rfl (by decide) rfl ?_
  refine a_iload_n (pc := 34) (q := 0) (i := 0) (x := 1) hC (by decide +kernel) rfl 0 rfl ?_
  refine a_iload_n (pc := 35) (q := 0) (i := 0) (x := 1) hC (by decide +kernel) rfl 0 rfl ?_
  refine a_bipush (pc := 36) (c := 8) hC (by decide +kernel) (by decide +kernel) ?_
  refine a_iushr (pc := 38) (z := 0) hC (by decide +kernel) (by decide +kernel) ?_
  refine a_iadd (pc := 39) hC (by decide +kernel) ?_
  refine g_top (y := 1) rfl ?_
  refine a_istore_n (pc := 40) (q := 0) (i := 0) (lv' := [(0, vi 1)]) hC (by decide +kernel) rfl (by decide) rfl ?_
  refine a_iload_n (pc := 41) (q := 0) (i := 0) (x := 1) hC (by decide +kernel) rfl 0 rfl ?_
  refine a_iload_n (pc := 42) (q := 0) (i := 0) (x := 1) hC (by decide +kernel) rfl 0 rfl ?_
  refine a_bipush (pc := 43) (c := 16) hC (by decide +kernel) (by decide +kernel) ?_
  refine a_iushr (pc := 45) (z := 0) hC (by decide +kernel) (by decide +kernel) ?_
  refine a_iadd (pc := 46) hC (by decide +kernel) ?_
  refine g_top (y := 1) rfl ?_
  refine a_istore_n (pc := 47) (q := 0) (i := 0) (lv' := [(0, vi 1)]) hC (by decide +kernel) rfl (by decide) rfl ?_
  refine a_iload_n (pc := 48) (q := 0) (i := 0) (x := 1) hC (by decide +kernel) rfl 0 rfl ?_
  refine a_bipush (pc := 49) (c := 63) hC (by decide +kernel) (by decide +kernel) ?_
  refine a_iand (pc := 51) (z := 1) hC (by decide +kernel) (by decide +kernel) ?_
  exact g_iret (pc := 52) hC hE (by decide +kernel) rfl rfl

set_option maxRecDepth 100000 in
set_option maxHeartbeats 4000000 in
theorem ct_JI_bitCount_3 (l : Launch) (D : va_G) (K : K5) (G : GT)  : Ct l D K y_JI_bitCount c_JI_bitCount 1 (some .int) 0 0 [vi 3] G (some (vi 2)) G := by
  refine Ct.intro (by decide +kernel) (Nat.le_of_ble_eq_true rfl) ?_
  intro X hro hty hC hE
  refine a_iload_n (pc := 0) (q := 0) (i := 0) (x := 3) hC (by decide +kernel) rfl 0 rfl ?_
  refine a_iload_n (pc := 1) (q := 0) (i := 0) (x := 3) hC (by decide +kernel) rfl 0 rfl ?_
  refine a_iconst (pc := 2) (c := 1) hC (by decide +kernel) ?_
  refine a_iushr (pc := 3) (z := 1) hC (by decide +kernel) (by decide +kernel) ?_
  refine a_ldcw (pc := 4) (idx := 265) (z := 1431655765) (v := 1431655765) hC (by decide +kernel) (by decide +kernel) rfl ?_
  refine a_iand (pc := 7) (z := 1) hC (by decide +kernel) (by decide +kernel) ?_
  refine a_isub (pc := 8) hC (by decide +kernel) ?_
  refine g_top (y := 2) rfl ?_
  refine a_istore_n (pc := 9) (q := 0) (i := 0) (lv' := [(0, vi 2)]) hC (by decide +kernel) rfl (by decide) rfl ?_
  refine a_iload_n (pc := 10) (q := 0) (i := 0) (x := 2) hC (by decide +kernel) rfl 0 rfl ?_
  refine a_ldcw (pc := 11) (idx := 266) (z := 858993459) (v := 858993459) hC (by decide +kernel) (by decide +kernel) rfl ?_
  refine a_iand (pc := 14) (z := 2) hC (by decide +kernel) (by decide +kernel) ?_
  refine a_iload_n (pc := 15) (q := 0) (i := 0) (x := 2) hC (by decide +kernel) rfl 0 rfl ?_
  refine a_iconst (pc := 16) (c := 2) hC (by decide +kernel) ?_
  refine a_iushr (pc := 17) (z := 0) hC (by decide +kernel) (by decide +kernel) ?_
  refine a_ldcw (pc := 18) (idx := 266) (z := 858993459) (v := 858993459) hC (by decide +kernel) (by decide +kernel) rfl ?_
  refine a_iand (pc := 21) (z := 0) hC (by decide +kernel) (by decide +kernel) ?_
  refine a_iadd (pc := 22) hC (by decide +kernel) ?_
  refine g_top (y := 2) rfl ?_
  refine a_istore_n (pc := 23) (q := 0) (i := 0) (lv' := [(0, vi 2)]) hC (by decide +kernel) rfl (by decide) rfl ?_
  refine a_iload_n (pc := 24) (q := 0) (i := 0) (x := 2) hC (by decide +kernel) rfl 0 rfl ?_
  refine a_iload_n (pc := 25) (q := 0) (i := 0) (x := 2) hC (by decide +kernel) rfl 0 rfl ?_
  refine a_iconst (pc := 26) (c := 4) hC (by decide +kernel) ?_
  refine a_iushr (pc := 27) (z := 0) hC (by decide +kernel) (by decide +kernel) ?_
  refine a_iadd (pc := 28) hC (by decide +kernel) ?_
  refine g_top (y := 2) rfl ?_
  refine a_ldcw (pc := 29) (idx := 267) (z := 252645135) (v := 252645135) hC (by decide +kernel) (by decide +kernel) rfl ?_
  refine a_iand (pc := 32) (z := 2) hC (by decide +kernel) (by decide +kernel) ?_
  refine a_istore_n (pc := 33) (q := 0) (i := 0) (lv' := [(0, vi 2)]) hC (by decide +kernel) rfl (by decide) rfl ?_
  refine a_iload_n (pc := 34) (q := 0) (i := 0) (x := 2) hC (by decide +kernel) rfl 0 rfl ?_
  refine a_iload_n (pc := 35) (q := 0) (i := 0) (x := 2) hC (by decide +kernel) rfl 0 rfl ?_
  refine a_bipush (pc := 36) (c := 8) hC (by decide +kernel) (by decide +kernel) ?_
  refine a_iushr (pc := 38) (z := 0) hC (by decide +kernel) (by decide +kernel) ?_
  refine a_iadd (pc := 39) hC (by decide +kernel) ?_
  refine g_top (y := 2) rfl ?_
  refine a_istore_n (pc := 40) (q := 0) (i := 0) (lv' := [(0, vi 2)]) hC (by decide +kernel) rfl (by decide) rfl ?_
  refine a_iload_n (pc := 41) (q := 0) (i := 0) (x := 2) hC (by decide +kernel) rfl 0 rfl ?_
  refine a_iload_n (pc := 42) (q := 0) (i := 0) (x := 2) hC (by decide +kernel) rfl 0 rfl ?_
  refine a_bipush (pc := 43) (c := 16) hC (by decide +kernel) (by decide +kernel) ?_
  refine a_iushr (pc := 45) (z := 0) hC (by decide +kernel) (by decide +kernel) ?_
  refine a_iadd (pc := 46) hC (by decide +kernel) ?_
  refine g_top (y := 2) rfl ?_
  refine a_istore_n (pc := 47) (q := 0) (i := 0) (lv' := [(0, vi 2)]) hC (by decide +kernel) rfl (by decide) rfl ?_
  refine a_iload_n (pc := 48) (q := 0) (i := 0) (x := 2) hC (by decide +kernel) rfl 0 rfl ?_
  refine a_bipush (pc := 49) (c := 63) hC (by decide +kernel) (by decide +kernel) ?_
  refine a_iand (pc := 51) (z := 2) hC (by decide +kernel) (by decide +kernel) ?_
  exact g_iret (pc := 52) hC hE (by decide +kernel) rfl rfl

set_option maxRecDepth 100000 in
set_option maxHeartbeats 4000000 in
theorem ct_JI_bitCount_4 (l : Launch) (D : va_G) (K : K5) (G : GT)  : Ct l D K y_JI_bitCount c_JI_bitCount 1 (some .int) 0 0 [vi 4] G (some (vi 1)) G := by
  refine Ct.intro (by decide +kernel) (Nat.le_of_ble_eq_true rfl) ?_
  intro X hro hty hC hE
  refine a_iload_n (pc := 0) (q := 0) (i := 0) (x := 4) hC (by decide +kernel) rfl 0 rfl ?_
  refine a_iload_n (pc := 1) (q := 0) (i := 0) (x := 4) hC (by decide +kernel) rfl 0 rfl ?_
  refine a_iconst (pc := 2) (c := 1) hC (by decide +kernel) ?_
  refine a_iushr (pc := 3) (z := 2) hC (by decide +kernel) (by decide +kernel) ?_
  refine a_ldcw (pc := 4) (idx := 265) (z := 1431655765) (v := 1431655765) hC (by decide +kernel) (by decide +kernel) rfl ?_
  refine a_iand (pc := 7) (z := 0) hC (by decide +kernel) (by decide +kernel) ?_
  refine a_isub (pc := 8) hC (by decide +kernel) ?_
  refine g_top (y := 4) rfl ?_
  refine a_istore_n (pc := 9) (q := 0) (i := 0) (lv' := [(0, vi 4)]) hC (by decide +kernel) rfl (by decide) rfl ?_
  refine a_iload_n (pc := 10) (q := 0) (i := 0) (x := 4) hC (by decide +kernel) rfl 0 rfl ?_
  refine a_ldcw (pc := 11) (idx := 266) (z := 858993459) (v := 858993459) hC (by decide +kernel) (by decide +kernel) rfl ?_
  refine a_iand (pc := 14) (z := 0) hC (by decide +kernel) (by decide +kernel) ?_
  refine a_iload_n (pc := 15) (q := 0) (i := 0) (x := 4) hC (by decide +kernel) rfl 0 rfl ?_
  refine a_iconst (pc := 16) (c := 2) hC (by decide +kernel) ?_
  refine a_iushr (pc := 17) (z := 1) hC (by decide +kernel) (by decide +kernel) ?_
  refine a_ldcw (pc := 18) (idx := 266) (z := 858993459) (v := 858993459) hC (by decide +kernel) (by decide +kernel) rfl ?_
  refine a_iand (pc := 21) (z := 1) hC (by decide +kernel) (by decide +kernel) ?_
  refine a_iadd (pc := 22) hC (by decide +kernel) ?_
  refine g_top (y := 1) rfl ?_
  refine a_istore_n (pc := 23) (q := 0) (i := 0) (lv' := [(0, vi 1)]) hC (by decide +kernel) rfl (by decide) rfl ?_
  refine a_iload_n (pc := 24) (q := 0) (i := 0) (x := 1) hC (by decide +kernel) rfl 0 rfl ?_
  refine a_iload_n (pc := 25) (q := 0) (i := 0) (x := 1) hC (by decide +kernel) rfl 0 rfl ?_
  refine a_iconst (pc := 26) (c := 4) hC (by decide +kernel) ?_
  refine a_iushr (pc := 27) (z := 0) hC (by decide +kernel) (by decide +kernel) ?_
  refine a_iadd (pc := 28) hC (by decide +kernel) ?_
  refine g_top (y := 1) rfl ?_
  refine a_ldcw (pc := 29) (idx := 267) (z := 252645135) (v := 252645135) hC (by decide +kernel) (by decide +kernel) rfl ?_
  refine a_iand (pc := 32) (z := 1) hC (by decide +kernel) (by decide +kernel) ?_
  refine a_istore_n (pc := 33) (q := 0) (i := 0) (lv' := [(0, vi 1)]) hC (by decide +kernel) rfl (by decide) rfl ?_
  refine a_iload_n (pc := 34) (q := 0) (i := 0) (x := 1) hC (by decide +kernel) rfl 0 rfl ?_
  refine a_iload_n (pc := 35) (q := 0) (i := 0) (x := 1) hC (by decide +kernel) rfl 0 rfl ?_
  refine a_bipush (pc := 36) (c := 8) hC (by decide +kernel) (by decide +kernel) ?_
  refine a_iushr (pc := 38) (z := 0) hC (by decide +kernel) (by decide +kernel) ?_
  refine a_iadd (pc := 39) hC (by decide +kernel) ?_
  refine g_top (y := 1) rfl ?_
  refine a_istore_n (pc := 40) (q := 0) (i := 0) (lv' := [(0, vi 1)]) hC (by decide +kernel) rfl (by decide) rfl ?_
  refine a_iload_n (pc := 41) (q := 0) (i := 0) (x := 1) hC (by decide +kernel) rfl 0 rfl ?_
  refine a_iload_n (pc := 42) (q := 0) (i := 0) (x := 1) hC (by decide +kernel) rfl 0 rfl ?_
  refine a_bipush (pc := 43) (c := 16) hC (by decide +kernel) (by decide +kernel) ?_
  refine a_iushr (pc := 45) (z := 0) hC (by decide +kernel) (by decide +kernel) ?_
  refine a_iadd (pc := 46) hC (by decide +kernel) ?_
  refine g_top (y := 1) rfl ?_
  refine a_istore_n (pc := 47) (q := 0) (i := 0) (lv' := [(0, vi 1)]) hC (by decide +kernel) rfl (by decide) rfl ?_
  refine a_iload_n (pc := 48) (q := 0) (i := 0) (x := 1) hC (by decide +kernel) rfl 0 rfl ?_
  refine a_bipush (pc := 49) (c := 63) hC (by decide +kernel) (by decide +kernel) ?_
  refine a_iand (pc := 51) (z := 1) hC (by decide +kernel) (by decide +kernel) ?_
  exact g_iret (pc := 52) hC hE (by decide +kernel) rfl rfl

set_option maxRecDepth 100000 in
set_option maxHeartbeats 4000000 in
theorem ct_JI_bitCount_5 (l : Launch) (D : va_G) (K : K5) (G : GT)  : Ct l D K y_JI_bitCount c_JI_bitCount 1 (some .int) 0 0 [vi 5] G (some (vi 2)) G := by
  refine Ct.intro (by decide +kernel) (Nat.le_of_ble_eq_true rfl) ?_
  intro X hro hty hC hE
  refine a_iload_n (pc := 0) (q := 0) (i := 0) (x := 5) hC (by decide +kernel) rfl 0 rfl ?_
  refine a_iload_n (pc := 1) (q := 0) (i := 0) (x := 5) hC (by decide +kernel) rfl 0 rfl ?_
  refine a_iconst (pc := 2) (c := 1) hC (by decide +kernel) ?_
  refine a_iushr (pc := 3) (z := 2) hC (by decide +kernel) (by decide +kernel) ?_
  refine a_ldcw (pc := 4) (idx := 265) (z := 1431655765) (v := 1431655765) hC (by decide +kernel) (by decide +kernel) rfl ?_
  refine a_iand (pc := 7) (z := 0) hC (by decide +kernel) (by decide +kernel) ?_
  refine a_isub (pc := 8) hC (by decide +kernel) ?_
  refine g_top (y := 5) rfl ?_
  refine a_istore_n (pc := 9) (q := 0) (i := 0) (lv' := [(0, vi 5)]) hC (by decide +kernel) rfl (by decide) rfl ?_
  refine a_iload_n (pc := 10) (q := 0) (i := 0) (x := 5) hC (by decide +kernel) rfl 0 rfl ?_
  refine a_ldcw (pc := 11) (idx := 266) (z := 858993459) (v := 858993459) hC (by decide +kernel) (by decide +kernel) rfl ?_
  refine a_iand (pc := 14) (z := 1) hC (by decide +kernel) (by decide +kernel) ?_
  refine a_iload_n (pc := 15) (q := 0) (i := 0) (x := 5) hC (by decide +kernel) rfl 0 rfl ?_
  refine a_iconst (pc := 16) (c := 2) hC (by decide +kernel) ?_
  refine a_iushr (pc := 17) (z := 1) hC (by decide +kernel) (by decide +kernel) ?_
  refine a_ldcw (pc := 18) (idx := 266) (z := 858993459) (v := 858993459) hC (by decide +kernel) (by decide +kernel) rfl ?_
  refine a_iand (pc := 21) (z := 1) hC (by decide +kernel) (by decide +kernel) ?_
  refine a_iadd (pc := 22) hC (by decide +kernel) ?_
  refine g_top (y := 2) rfl ?_
  refine a_istore_n (pc := 23) (q := 0) (i := 0) (lv' := [(0, vi 2)]) hC (by decide +kernel) rfl (by decide) rfl ?_
  refine a_iload_n (pc := 24) (q := 0) (i := 0) (x := 2) hC (by decide +kernel) rfl 0 rfl ?_
  refine a_iload_n (pc := 25) (q := 0) (i := 0) (x := 2) hC (by decide +kernel) rfl 0 rfl ?_
  refine a_iconst (pc := 26) (c := 4) hC (by decide +kernel) ?_
  refine a_iushr (pc := 27) (z := 0) hC (by decide +kernel) (by decide +kernel) ?_
  refine a_iadd (pc := 28) hC (by decide +kernel) ?_
  refine g_top (y := 2) rfl ?_
  refine a_ldcw (pc := 29) (idx := 267) (z := 252645135) (v := 252645135) hC (by decide +kernel) (by decide +kernel) rfl ?_
  refine a_iand (pc := 32) (z := 2) hC (by decide +kernel) (by decide +kernel) ?_
  refine a_istore_n (pc := 33) (q := 0) (i := 0) (lv' := [(0, vi 2)]) hC (by decide +kernel) rfl (by decide) rfl ?_
  refine a_iload_n (pc := 34) (q := 0) (i := 0) (x := 2) hC (by decide +kernel) rfl 0 rfl ?_
  refine a_iload_n (pc := 35) (q := 0) (i := 0) (x := 2) hC (by decide +kernel) rfl 0 rfl ?_
  refine a_bipush (pc := 36) (c := 8) hC (by decide +kernel) (by decide +kernel) ?_
  refine a_iushr (pc := 38) (z := 0) hC (by decide +kernel) (by decide +kernel) ?_
  refine a_iadd (pc := 39) hC (by decide +kernel) ?_
  refine g_top (y := 2) rfl ?_
  refine a_istore_n (pc := 40) (q := 0) (i := 0) (lv' := [(0, vi 2)]) hC (by decide +kernel) rfl (by decide) rfl ?_
  refine a_iload_n (pc := 41) (q := 0) (i := 0) (x := 2) hC (by decide +kernel) rfl 0 rfl ?_
  refine a_iload_n (pc := 42) (q := 0) (i := 0) (x := 2) hC (by decide +kernel) rfl 0 rfl ?_
  refine a_bipush (pc := 43) (c := 16) hC (by decide +kernel) (by decide +kernel) ?_
  refine a_iushr (pc := 45) (z := 0) hC (by decide +kernel) (by decide +kernel) ?_
  refine a_iadd (pc := 46) hC (by decide +kernel) ?_
  refine g_top (y := 2) rfl ?_
  refine a_istore_n (pc := 47) (q := 0) (i := 0) (lv' := [(0, vi 2)]) hC (by decide +kernel) rfl (by decide) rfl ?_
  refine a_iload_n (pc := 48) (q := 0) (i := 0) (x := 2) hC (by decide +kernel) rfl 0 rfl ?_
  refine a_bipush (pc := 49) (c := 63) hC (by decide +kernel) (by decide +kernel) ?_
  refine a_iand (pc := 51) (z := 2) hC (by decide +kernel) (by decide +kernel) ?_
  exact g_iret (pc := 52) hC hE (by decide +kernel) rfl rfl

set_option maxRecDepth 100000 in
set_option maxHeartbeats 4000000 in
theorem ct_JI_bitCount_6 (l : Launch) (D : va_G) (K : K5) (G : GT)  : Ct l D K y_JI_bitCount c_JI_bitCount 1 (some .int) 0 0 [vi 6] G (some (vi 2)) G := by
  refine Ct.intro (by decide +kernel) (Nat.le_of_ble_eq_true rfl) ?_
  intro X hro hty hC hE
  refine a_iload_n (pc := 0) (q := 0) (i := 0) (x := 6) hC (by decide +kernel) rfl 0 rfl ?_
  refine a_iload_n (pc := 1) (q := 0) (i := 0) (x := 6) hC (by decide +kernel) rfl 0 rfl ?_
  refine a_iconst (pc := 2) (c := 1) hC (by decide +kernel) ?_
  refine a_iushr (pc := 3) (z := 3) hC (by decide +kernel) (by decide +kernel) ?_
  refine a_ldcw (pc := 4) (idx := 265) (z := 1431655765) (v := 1431655765) hC (by decide +kernel) (by decide +kernel) rfl ?_
  refine a_iand (pc := 7) (z := 1) hC (by decide +kernel) (by decide +kernel) ?_
  refine a_isub (pc := 8) hC (by decide +kernel) ?_
  refine g_top (y := 5) rfl ?_
  refine a_istore_n (pc := 9) (q := 0) (i := 0) (lv' := [(0, vi 5)]) hC (by decide +kernel) rfl (by decide) rfl ?_
  refine a_iload_n (pc := 10) (q := 0) (i := 0) (x := 5) hC (by decide +kernel) rfl 0 rfl ?_
  refine a_ldcw (pc := 11) (idx := 266) (z := 858993459) (v := 858993459) hC (by decide +kernel) (by decide +kernel) rfl ?_
  refine a_iand (pc := 14) (z := 1) hC (by decide +kernel) (by decide +kernel) ?_
  refine a_iload_n (pc := 15) (q := 0) (i := 0) (x := 5) hC (by decide +kernel) rfl 0 rfl ?_
  refine a_iconst (pc := 16) (c := 2) hC (by decide +kernel) ?_
  refine a_iushr (pc := 17) (z := 1) hC (by decide +kernel) (by decide +kernel) ?_
  refine a_ldcw (pc := 18) (idx := 266) (z := 858993459) (v := 858993459) hC (by decide +kernel) (by decide +kernel) rfl ?_
  refine a_iand (pc := 21) (z := 1) hC (by decide +kernel) (by decide +kernel) ?_
  refine a_iadd (pc := 22) hC (by decide +kernel) ?_
  refine g_top (y := 2) rfl ?_
  refine a_istore_n (pc := 23) (q := 0) (i := 0) (lv' := [(0, vi 2)]) hC (by decide +kernel) rfl (by decide) rfl ?_
  refine a_iload_n (pc := 24) (q := 0) (i := 0) (x := 2) hC (by decide +kernel) rfl 0 rfl ?_
  refine a_iload_n (pc := 25) (q := 0) (i := 0) (x := 2) hC (by decide +kernel) rfl 0 rfl ?_
  refine a_iconst (pc := 26) (c := 4) hC (by decide +kernel) ?_
  refine a_iushr (pc := 27) (z := 0) hC (by decide +kernel) (by decide +kernel) ?_
  refine a_iadd (pc := 28) hC (by decide +kernel) ?_
  refine g_top (y := 2) rfl ?_
  refine a_ldcw (pc := 29) (idx := 267) (z := 252645135) (v := 252645135) hC (by decide +kernel) (by decide +kernel) rfl ?_
  refine a_iand (pc := 32) (z := 2) hC (by decide +kernel) (by decide +kernel) ?_
  refine a_istore_n (pc := 33) (q := 0) (i := 0) (lv' := [(0, vi 2)]) hC (by decide +kernel) rfl (by decide) rfl ?_
  refine a_iload_n (pc := 34) (q := 0) (i := 0) (x := 2) hC (by decide +kernel) rfl 0 rfl ?_
  refine a_iload_n (pc := 35) (q := 0) (i := 0) (x := 2) hC (by decide +kernel) rfl 0 rfl ?_
  refine a_bipush (pc := 36) (c := 8) hC (by decide +kernel) (by decide +kernel) ?_
  refine a_iushr (pc := 38) (z := 0) hC (by decide +kernel) (by decide +kernel) ?_
  refine a_iadd (pc := 39) hC (by decide +kernel) ?_
  refine g_top (y := 2) rfl ?_
  refine a_istore_n (pc := 40) (q := 0) (i := 0) (lv' := [(0, vi 2)]) hC (by decide +kernel) rfl (by decide) rfl ?_
  refine a_iload_n (pc := 41) (q := 0) (i := 0) (x := 2) hC (by decide +kernel) rfl 0 rfl ?_
  refine a_iload_n (pc := 42) (q := 0) (i := 0) (x := 2) hC (by decide +kernel) rfl 0 rfl ?_
  refine a_bipush (pc := 43) (c := 16) hC (by decide +kernel) (by decide +kernel) ?_
  refine a_iushr (pc := 45) (z := 0) hC (by decide +kernel) (by decide +kernel) ?_
  refine a_iadd (pc := 46) hC (by decide +kernel) ?_
  refine g_top (y := 2) rfl ?_
  refine a_istore_n (pc := 47) (q := 0) (i := 0) (lv' := [(0, vi 2)]) hC (by decide +kernel) rfl (by decide) rfl ?_
  refine a_iload_n (pc := 48) (q := 0) (i := 0) (x := 2) hC (by decide +kernel) rfl 0 rfl ?_
  refine a_bipush (pc := 49) (c := 63) hC (by decide +kernel) (by decide +kernel) ?_
  refine a_iand (pc := 51) (z := 2) hC (by decide +kernel) (by decide +kernel) ?_
  exact g_iret (pc := 52) hC hE (by decide +kernel) rfl rfl

set_option maxRecDepth 100000 in
set_option maxHeartbeats 4000000 in
theorem ct_JI_bitCount_7 (l : Launch) (D : va_G) (K : K5) (G : GT)  : Ct l D K y_JI_bitCount c_JI_bitCount 1 (some .int) 0 0 [vi 7] G (some (vi 3)) G := by
  refine Ct.intro (by decide +kernel) (Nat.le_of_ble_eq_true rfl) ?_
  intro X hro hty hC hE
  refine a_iload_n (pc := 0) (q := 0) (i := 0) (x := 7) hC (by decide +kernel) rfl 0 rfl ?_
  refine a_iload_n (pc := 1) (q := 0) (i := 0) (x := 7) hC (by decide +kernel) rfl 0 rfl ?_
  refine a_iconst (pc := 2) (c := 1) hC (by decide +kernel) ?_
  refine a_iushr (pc := 3) (z := 3) hC (by decide +kernel) (by decide +kernel) ?_
  refine a_ldcw (pc := 4) (idx := 265) (z := 1431655765) (v := 1431655765) hC (by decide +kernel) (by decide +kernel) rfl ?_
  refine a_iand (pc := 7) (z := 1) hC (by decide +kernel) (by decide +kernel) ?_
  refine a_isub (pc := 8) hC (by decide +kernel) ?_
  refine g_top (y := 6) rfl ?_
  refine a_istore_n (pc := 9) (q := 0) (i := 0) (lv' := [(0, vi 6)]) hC (by decide +kernel) rfl (by decide) rfl ?_
  refine a_iload_n (pc := 10) (q := 0) (i := 0) (x := 6) hC (by decide +kernel) rfl 0 rfl ?_
  refine a_ldcw (pc := 11) (idx := 266) (z := 858993459) (v := 858993459) hC (by decide +kernel) (by decide +kernel) rfl ?_
  refine a_iand (pc := 14) (z := 2) hC (by decide +kernel) (by decide +kernel) ?_
  refine a_iload_n (pc := 15) (q := 0) (i := 0) (x := 6) hC (by decide +kernel) rfl 0 rfl ?_
  refine a_iconst (pc := 16) (c := 2) hC (by decide +kernel) ?_
  refine a_iushr (pc := 17) (z := 1) hC (by decide +kernel) (by decide +kernel) ?_
  refine a_ldcw (pc := 18) (idx := 266) (z := 858993459) (v := 858993459) hC (by decide +kernel) (by decide +kernel) rfl ?_
  refine a_iand (pc := 21) (z := 1) hC (by decide +kernel) (by decide +kernel) ?_
  refine a_iadd (pc := 22) hC (by decide +kernel) ?_
  refine g_top (y := 3) rfl ?_
  refine a_istore_n (pc := 23) (q := 0) (i := 0) (lv' := [(0, vi 3)]) hC (by decide +kernel) rfl (by decide) rfl ?_
  refine a_iload_n (pc := 24) (q := 0) (i := 0) (x := 3) hC (by decide +kernel) rfl 0 rfl ?_
  refine a_iload_n (pc := 25) (q := 0) (i := 0) (x := 3) hC (by decide +kernel) rfl 0 rfl ?_
  refine a_iconst (pc := 26) (c := 4) hC (by decide +kernel) ?_
  refine a_iushr (pc := 27) (z := 0) hC (by decide +kernel) (by decide +kernel) ?_
  refine a_iadd (pc := 28) hC (by decide +kernel) ?_
  refine g_top (y := 3) rfl ?_
  refine a_ldcw (pc := 29) (idx := 267) (z := 252645135) (v := 252645135) hC (by decide +kernel) (by decide +kernel) rfl ?_
  refine a_iand (pc := 32) (z := 3) hC (by decide +kernel) (by decide +kernel) ?_
  refine a_istore_n (pc := 33) (q := 0) (i := 0) (lv' := [(0, vi 3)]) hC (by decide +kernel) rfl (by decide) rfl ?_
  refine a_iload_n (pc := 34) (q := 0) (i := 0) (x := 3) hC (by decide +kernel) rfl 0 rfl ?_
  refine a_iload_n (pc := 35) (q := 0) (i := 0) (x := 3) hC (by decide +kernel) rfl 0 rfl ?_
  refine a_bipush (pc := 36) (c := 8) hC (by decide +kernel) (by decide +kernel) ?_
  refine a_iushr (pc := 38) (z := 0) hC (by decide +kernel) (by decide +kernel) ?_
  refine a_iadd (pc := 39) hC (by decide +kernel) ?_
  refine g_top (y := 3) rfl ?_
  refine a_istore_n (pc := 40) (q := 0) (i := 0) (lv' := [(0, vi 3)]) hC (by decide +kernel) rfl (by decide) rfl ?_
  refine a_iload_n (pc := 41) (q := 0) (i := 0) (x := 3) hC (by decide +kernel) rfl 0 rfl ?_
  refine a_iload_n (pc := 42) (q := 0) (i := 0) (x := 3) hC (by decide +kernel) rfl 0 rfl ?_
  refine a_bipush (pc := 43) (c := 16) hC (by decide +kernel) (by decide +kernel) ?_
  refine a_iushr (pc := 45) (z := 0) hC (by decide +kernel) (by decide +kernel) ?_
  refine a_iadd (pc := 46) hC (by decide +kernel) ?_
  refine g_top (y := 3) rfl ?_
  refine a_istore_n (pc := 47) (q := 0) (i := 0) (lv' := [(0, vi 3)]) hC (by decide +kernel) rfl (by decide) rfl ?_
  refine a_iload_n (pc := 48) (q := 0) (i := 0) (x := 3) hC (by decide +kernel) rfl 0 rfl ?_
  refine a_bipush (pc := 49) (c := 63) hC (by decide +kernel) (by decide +kernel) ?_
  refine a_iand (pc := 51) (z := 3) hC (by decide +kernel) (by decide +kernel) ?_
  exact g_iret (pc := 52) hC hE (by decide +kernel) rfl rfl

theorem ct_JI_bitCount (l : Launch) (D : va_G) (K : K5) (G : GT) (x : Nat) (hx : x < 8) : Ct l D K y_JI_bitCount c_JI_bitCount 1 (some .int) 0 0 [vi (x : Int)] G (some (vi (bcZ x))) G := by
  rcases (by omega : x = 0 ∨ x = 1 ∨ x = 2 ∨ x = 3 ∨ x = 4 ∨ x = 5 ∨ x = 6 ∨ x = 7) with rfl | rfl | rfl | rfl | rfl | rfl | rfl | rfl
  · exact ct_JI_bitCount_0 l D K G
  · exact ct_JI_bitCount_1 l D K G
  · exact ct_JI_bitCount_2 l D K G
  · exact ct_JI_bitCount_3 l D K G
  · exact ct_JI_bitCount_4 l D K G
  · exact ct_JI_bitCount_5 l D K G
  · exact ct_JI_bitCount_6 l D K G
  · exact ct_JI_bitCount_7 l D K G
