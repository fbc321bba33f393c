/-! bitCount as a contract -/
theorem xb_andL {a b : Nat} (ha : a < 2 ^ 64) (hb : b < 2 ^ 64) : Int64.ofInt (a : Int) &&& Int64.ofInt (b : Int) = Int64.ofInt ((a &&& b : Nat) : Int) := by
  rw [xl_n, xl_n, xl_n, wb_and ha hb]
theorem xb_andI {a b : Nat} (ha : a < 2 ^ 32) (hb : b < 2 ^ 32) : Int32.ofInt (a : Int) &&& Int32.ofInt (b : Int) = Int32.ofInt ((a &&& b : Nat) : Int) := by
  rw [xi_n, xi_n, xi_n, and_i ha hb]
theorem xb_lowI {k : Nat} (hk : k ≤ 31) (a : Nat) : Int32.ofInt (a : Int) &&& Int32.ofInt ((2 ^ k - 1 : Nat) : Int) = Int32.ofInt ((a % 2 ^ k : Nat) : Int) := by
  rw [xi_n, xi_n, xi_n]
  apply Int32.toBitVec_inj.mp
  rw [Int32.toBitVec_and]
  show BitVec.ofNat 32 a &&& BitVec.ofNat 32 (2 ^ k - 1) = BitVec.ofNat 32 (a % 2 ^ k)
  apply BitVec.eq_of_toNat_eq
  have h1 : (2 : Nat) ^ k ≤ 2 ^ 31 := xp2 hk
  have h2 : a % 2 ^ k < 2 ^ k := Nat.mod_lt _ (Nat.two_pow_pos k)
  rw [BitVec.toNat_and, BitVec.toNat_ofNat, BitVec.toNat_ofNat, BitVec.toNat_ofNat, Nat.mod_eq_of_lt (show 2 ^ k - 1 < 2 ^ 32 by omega), Nat.mod_eq_of_lt (show a % 2 ^ k < 2 ^ 32 by omega), Nat.and_two_pow_sub_one_eq_mod]
  exact Nat.mod_mod_of_dvd a (Nat.pow_dvd_pow 2 (by omega))
theorem cnt_z : ∀ b, cnt 0 b = 0
  | 0 => rfl
  | b + 1 => by show cnt 0 b + _ = 0; rw [cnt_z b, Nat.zero_testBit]; rfl
theorem cnt_hi {s a : Nat} (h : s < 2 ^ a) (b : Nat) : cnt s (a + b) = cnt s a := by rw [cnt_add, Nat.div_eq_of_lt h, cnt_z]; rfl
theorem gg_2 {x : Nat} (hx : x < 2 ^ 12) : gg 4 x = cnt x 8 + 256 * cnt (x / 256) 8 := by
  rw [gg_x, gg_x]
  simp only [Nat.div_div_eq_div_mul, Nat.reduceMul]
  rw [show x / 65536 = 0 from by rw [show (2 : Nat) ^ 12 = 4096 from rfl] at hx; omega, gg_0]
  simp only [Nat.mul_zero, Nat.add_zero]
theorem bc_I {x : Nat} (hx : x < 2 ^ 12) : h5 (h4 (gg 4 x)) % 64 = cnt x 12 := by
  have e : cnt x 12 = cnt x 8 + cnt (x / 256) 8 := by
    rw [← cnt_hi hx 4, show 12 + 4 = 8 + 8 from rfl, cnt_add]
  rw [e, gg_2 hx]
  have a0 := cnt8 x
  have a1 := cnt8 (x / 256)
  generalize cnt x 8 = c0 at *
  generalize cnt (x / 256) 8 = c1 at *
  have e4 : h4 (c0 + 256 * c1) = c0 + c1 + 256 * c1 := by unfold h4; omega
  rw [e4]
  have e5 : h5 (c0 + c1 + 256 * c1) = c0 + c1 + 256 * c1 := by unfold h5; omega
  rw [e5]
  omega
section C46
variable {g : xG} {Q : xP} {n : Nat} {f : xH}
set_option maxHeartbeats 4000000 in
theorem ct_bitL {s : Nat} (hs : s < 2 ^ 40) (hq : Q (.inl (some (vI ((cnt s 40 : Nat) : Int)))) n f) : xct g M_J13_bitCount_95d88 0 0 [vL (s : Int)] n f Q := by
  refine xct_ofF (by decide +kernel) rfl (Nat.le_of_ble_eq_true rfl) ?_
  have r85 : rp 85 8 = 6148914691236517205 := by decide +kernel
  have r51 : rp 51 8 = 3689348814741910323 := by decide +kernel
  have r15 : rp 15 8 = 1085102592571150095 := by decide +kernel
  have b64 : ∀ {x : Nat}, x < 2 ^ 62 → x < 2 ^ 64 := fun h => Nat.lt_of_lt_of_le h (xp2 (by decide))
  have hr := bc_L hs
  have hg := gg_lt hs
  obtain ⟨z1, hz1⟩ : ∃ z1, z1 = g1 (rp 85 8) s := ⟨_, rfl⟩
  obtain ⟨z2, hz2⟩ : ∃ z2, z2 = g2 (rp 51 8) z1 := ⟨_, rfl⟩
  obtain ⟨z3, hz3⟩ : ∃ z3, z3 = g3 (rp 15 8) z2 := ⟨_, rfl⟩
  have e3 : gg 8 s = z3 := by rw [hz3, hz2, hz1]; rfl
  rw [e3] at hr hg
  unfold g1 at hz1
  unfold g2 at hz2
  unfold g3 at hz3
  rw [r85] at hz1
  rw [r51] at hz2
  rw [r15] at hz3
  have q1 : s / 2 &&& 6148914691236517205 ≤ s / 2 := Nat.and_le_left
  have q2 : z1 &&& 3689348814741910323 ≤ z1 := Nat.and_le_left
  have q3 : z1 / 4 &&& 3689348814741910323 ≤ z1 / 4 := Nat.and_le_left
  rw [p40] at hs
  have c64 : (2 : Nat) ^ 64 = 18446744073709551616 := by decide
  refine xw_lload_n dJ13_bitCount_95d88_0 rfl ?_
  refine xw_lload_n dJ13_bitCount_95d88_1 rfl ?_
  refine xw_iconst dJ13_bitCount_95d88_2 ?_
  refine xw_lushr (a := s) (b := 1) dJ13_bitCount_95d88_3 (by decide) (by omega) ?_
  refine xw_ldc2 (z := 6148914691236517205) dJ13_bitCount_95d88_4 kl_J13_314 (by decide) ?_
  refine xw_land dJ13_bitCount_95d88_7 (xb_andL (a := s / 2 ^ 1) (b := 6148914691236517205) (by omega) (by omega)) ?_
  refine xw_lsub dJ13_bitCount_95d88_8 ?_
  refine xw_topl (z1 : Int) (by rw [hz1, show (2 : Nat) ^ 1 = 2 from rfl]; omega) ?_
  refine xw_lstore_n dJ13_bitCount_95d88_9 (by decide) ?_
  refine xw_lload_n dJ13_bitCount_95d88_10 rfl ?_
  refine xw_ldc2 (z := 3689348814741910323) dJ13_bitCount_95d88_11 kl_J13_316 (by decide) ?_
  refine xw_land dJ13_bitCount_95d88_14 (xb_andL (a := z1) (b := 3689348814741910323) (by omega) (by omega)) ?_
  refine xw_lload_n dJ13_bitCount_95d88_15 rfl ?_
  refine xw_iconst dJ13_bitCount_95d88_16 ?_
  refine xw_lushr (a := z1) (b := 2) dJ13_bitCount_95d88_17 (by decide) (by omega) ?_
  refine xw_ldc2 (z := 3689348814741910323) dJ13_bitCount_95d88_18 kl_J13_316 (by decide) ?_
  refine xw_land dJ13_bitCount_95d88_21 (xb_andL (a := z1 / 2 ^ 2) (b := 3689348814741910323) (by omega) (by omega)) ?_
  refine xw_ladd dJ13_bitCount_95d88_22 ?_
  refine xw_topl (z2 : Int) (by rw [hz2, show (2 : Nat) ^ 2 = 4 from rfl]; omega) ?_
  refine xw_lstore_n dJ13_bitCount_95d88_23 (by decide) ?_
  refine xw_lload_n dJ13_bitCount_95d88_24 rfl ?_
  refine xw_lload_n dJ13_bitCount_95d88_25 rfl ?_
  refine xw_iconst dJ13_bitCount_95d88_26 ?_
  refine xw_lushr (a := z2) (b := 4) dJ13_bitCount_95d88_27 (by decide) (by omega) ?_
  refine xw_ladd dJ13_bitCount_95d88_28 ?_
  refine xw_topl ((z2 + z2 / 16 : Nat) : Int) (by rw [show (2 : Nat) ^ 4 = 16 from rfl]; omega) ?_
  refine xw_ldc2 (z := 1085102592571150095) dJ13_bitCount_95d88_29 kl_J13_318 (by decide) ?_
  refine xw_land dJ13_bitCount_95d88_32 (xb_andL (a := z2 + z2 / 16) (b := 1085102592571150095) (by omega) (by omega)) ?_
  refine xw_topl (z3 : Int) (by rw [hz3]) ?_
  refine xw_lstore_n dJ13_bitCount_95d88_33 (by decide) ?_
  refine xw_lload_n dJ13_bitCount_95d88_34 rfl ?_
  refine xw_lload_n dJ13_bitCount_95d88_35 rfl ?_
  refine xw_bipush (z := 8) dJ13_bitCount_95d88_36 (by decide) ?_
  refine xw_lushr (a := z3) (b := 8) dJ13_bitCount_95d88_38 (by decide) (by omega) ?_
  refine xw_ladd dJ13_bitCount_95d88_39 ?_
  refine xw_topl ((h4 z3 : Nat) : Int) (by unfold h4; rw [show (2 : Nat) ^ 8 = 256 from rfl]; omega) ?_
  refine xw_lstore_n dJ13_bitCount_95d88_40 (by decide) ?_
  refine xw_lload_n dJ13_bitCount_95d88_41 rfl ?_
  refine xw_lload_n dJ13_bitCount_95d88_42 rfl ?_
  refine xw_bipush (z := 16) dJ13_bitCount_95d88_43 (by decide) ?_
  refine xw_lushr (a := h4 z3) (b := 16) dJ13_bitCount_95d88_45 (by decide) (by unfold h4; omega) ?_
  refine xw_ladd dJ13_bitCount_95d88_46 ?_
  refine xw_topl ((h5 (h4 z3) : Nat) : Int) (by unfold h5; rw [show (2 : Nat) ^ 16 = 65536 from rfl]; omega) ?_
  refine xw_lstore_n dJ13_bitCount_95d88_47 (by decide) ?_
  refine xw_lload_n dJ13_bitCount_95d88_48 rfl ?_
  refine xw_lload_n dJ13_bitCount_95d88_49 rfl ?_
  refine xw_bipush (z := 32) dJ13_bitCount_95d88_50 (by decide) ?_
  refine xw_lushr (a := h5 (h4 z3)) (b := 32) dJ13_bitCount_95d88_52 (by decide) (by unfold h5 h4; omega) ?_
  refine xw_ladd dJ13_bitCount_95d88_53 ?_
  refine xw_topl ((h6 (h5 (h4 z3)) : Nat) : Int) (by unfold h6; rw [show (2 : Nat) ^ 32 = 4294967296 from rfl]; omega) ?_
  refine xw_lstore_n dJ13_bitCount_95d88_54 (by decide) ?_
  refine xw_lload_n dJ13_bitCount_95d88_55 rfl ?_
  refine xw_l2i dJ13_bitCount_95d88_56 ?_
  refine xw_bipush (z := 127) dJ13_bitCount_95d88_57 (by decide) ?_
  refine xw_iand dJ13_bitCount_95d88_59 (xb_lowI (k := 7) (by decide) (h6 (h5 (h4 z3)))) ?_
  exact xw_iret dJ13_bitCount_95d88_60 rfl (by rw [show (2 : Nat) ^ 7 = 128 from rfl, hr]; exact hq)
set_option maxHeartbeats 4000000 in
theorem ct_bitI {s : Nat} (hs : s < 2 ^ 12) (hq : Q (.inl (some (vI ((cnt s 12 : Nat) : Int)))) n f) : xct g M_J6_bitCount_0f7a4 0 0 [vI (s : Int)] n f Q := by
  refine xct_ofF (by decide +kernel) rfl (Nat.le_of_ble_eq_true rfl) ?_
  have r85 : rp 85 4 = 1431655765 := by decide +kernel
  have r51 : rp 51 4 = 858993459 := by decide +kernel
  have r15 : rp 15 4 = 252645135 := by decide +kernel
  have hr := bc_I hs
  have hg := gg_2 hs
  have a0 := cnt8 s
  have a1 := cnt8 (s / 256)
  obtain ⟨z1, hz1⟩ : ∃ z1, z1 = g1 (rp 85 4) s := ⟨_, rfl⟩
  obtain ⟨z2, hz2⟩ : ∃ z2, z2 = g2 (rp 51 4) z1 := ⟨_, rfl⟩
  obtain ⟨z3, hz3⟩ : ∃ z3, z3 = g3 (rp 15 4) z2 := ⟨_, rfl⟩
  have e3 : gg 4 s = z3 := by rw [hz3, hz2, hz1]; rfl
  rw [e3] at hr hg
  unfold g1 at hz1
  unfold g2 at hz2
  unfold g3 at hz3
  rw [r85] at hz1
  rw [r51] at hz2
  rw [r15] at hz3
  have q1 : s / 2 &&& 1431655765 ≤ s / 2 := Nat.and_le_left
  have q2 : z1 &&& 858993459 ≤ z1 := Nat.and_le_left
  have q3 : z1 / 4 &&& 858993459 ≤ z1 / 4 := Nat.and_le_left
  have hs2 : s < 4096 := hs
  have c32 : (2 : Nat) ^ 32 = 4294967296 := by decide
  refine xw_iload_n dJ6_bitCount_0f7a4_0 rfl ?_
  refine xw_iload_n dJ6_bitCount_0f7a4_1 rfl ?_
  refine xw_iconst dJ6_bitCount_0f7a4_2 ?_
  refine xw_iushr (a := s) (b := 1) dJ6_bitCount_0f7a4_3 (by decide) (by omega) ?_
  refine xw_ldcw (z := 1431655765) dJ6_bitCount_0f7a4_4 kc_J6_265 (by decide) ?_
  refine xw_iand dJ6_bitCount_0f7a4_7 (xb_andI (a := s / 2 ^ 1) (b := 1431655765) (by omega) (by omega)) ?_
  refine xw_isub dJ6_bitCount_0f7a4_8 ?_
  refine xw_topi (z1 : Int) (by rw [hz1, show (2 : Nat) ^ 1 = 2 from rfl]; omega) ?_
  refine xw_istore_n dJ6_bitCount_0f7a4_9 (by decide) ?_
  refine xw_iload_n dJ6_bitCount_0f7a4_10 rfl ?_
  refine xw_ldcw (z := 858993459) dJ6_bitCount_0f7a4_11 kc_J6_266 (by decide) ?_
  refine xw_iand dJ6_bitCount_0f7a4_14 (xb_andI (a := z1) (b := 858993459) (by omega) (by omega)) ?_
  refine xw_iload_n dJ6_bitCount_0f7a4_15 rfl ?_
  refine xw_iconst dJ6_bitCount_0f7a4_16 ?_
  refine xw_iushr (a := z1) (b := 2) dJ6_bitCount_0f7a4_17 (by decide) (by omega) ?_
  refine xw_ldcw (z := 858993459) dJ6_bitCount_0f7a4_18 kc_J6_266 (by decide) ?_
  refine xw_iand dJ6_bitCount_0f7a4_21 (xb_andI (a := z1 / 2 ^ 2) (b := 858993459) (by omega) (by omega)) ?_
  refine xw_iadd dJ6_bitCount_0f7a4_22 ?_
  refine xw_topi (z2 : Int) (by rw [hz2, show (2 : Nat) ^ 2 = 4 from rfl]; omega) ?_
  refine xw_istore_n dJ6_bitCount_0f7a4_23 (by decide) ?_
  refine xw_iload_n dJ6_bitCount_0f7a4_24 rfl ?_
  refine xw_iload_n dJ6_bitCount_0f7a4_25 rfl ?_
  refine xw_iconst dJ6_bitCount_0f7a4_26 ?_
  refine xw_iushr (a := z2) (b := 4) dJ6_bitCount_0f7a4_27 (by decide) (by omega) ?_
  refine xw_iadd dJ6_bitCount_0f7a4_28 ?_
  refine xw_topi ((z2 + z2 / 16 : Nat) : Int) (by rw [show (2 : Nat) ^ 4 = 16 from rfl]; omega) ?_
  refine xw_ldcw (z := 252645135) dJ6_bitCount_0f7a4_29 kc_J6_267 (by decide) ?_
  refine xw_iand dJ6_bitCount_0f7a4_32 (xb_andI (a := z2 + z2 / 16) (b := 252645135) (by omega) (by omega)) ?_
  refine xw_topi (z3 : Int) (by rw [hz3]) ?_
  refine xw_istore_n dJ6_bitCount_0f7a4_33 (by decide) ?_
  refine xw_iload_n dJ6_bitCount_0f7a4_34 rfl ?_
  refine xw_iload_n dJ6_bitCount_0f7a4_35 rfl ?_
  refine xw_bipush (z := 8) dJ6_bitCount_0f7a4_36 (by decide) ?_
  refine xw_iushr (a := z3) (b := 8) dJ6_bitCount_0f7a4_38 (by decide) (by omega) ?_
  refine xw_iadd dJ6_bitCount_0f7a4_39 ?_
  refine xw_topi ((h4 z3 : Nat) : Int) (by unfold h4; rw [show (2 : Nat) ^ 8 = 256 from rfl]; omega) ?_
  refine xw_istore_n dJ6_bitCount_0f7a4_40 (by decide) ?_
  refine xw_iload_n dJ6_bitCount_0f7a4_41 rfl ?_
  refine xw_iload_n dJ6_bitCount_0f7a4_42 rfl ?_
  refine xw_bipush (z := 16) dJ6_bitCount_0f7a4_43 (by decide) ?_
  refine xw_iushr (a := h4 z3) (b := 16) dJ6_bitCount_0f7a4_45 (by decide) (by unfold h4; omega) ?_
  refine xw_iadd dJ6_bitCount_0f7a4_46 ?_
  refine xw_topi ((h5 (h4 z3) : Nat) : Int) (by unfold h5; rw [show (2 : Nat) ^ 16 = 65536 from rfl]; omega) ?_
  refine xw_istore_n dJ6_bitCount_0f7a4_47 (by decide) ?_
  refine xw_iload_n dJ6_bitCount_0f7a4_48 rfl ?_
  refine xw_bipush (z := 63) dJ6_bitCount_0f7a4_49 (by decide) ?_
  refine xw_iand dJ6_bitCount_0f7a4_51 (xb_lowI (k := 6) (by decide) (h5 (h4 z3))) ?_
  exact xw_iret dJ6_bitCount_0f7a4_52 rfl (by rw [show (2 : Nat) ^ 6 = 64 from rfl, hr]; exact hq)
end C46
