/-! whole numbers in their range -/
def inI (z : Int) : Prop := -2147483648 ≤ z ∧ z ≤ 2147483647
def inL (z : Int) : Prop := -9223372036854775808 ≤ z ∧ z ≤ 9223372036854775807
theorem i32_to {z : Int} (h : inI z) : (Int32.ofInt z).toInt = z := Int32.toInt_ofInt_of_le (by unfold inI at h; omega) (by unfold inI at h; omega)
theorem i64_to {z : Int} (h : inL z) : (Int64.ofInt z).toInt = z := Int64.toInt_ofInt_of_le (by unfold inL at h; omega) (by unfold inL at h; omega)
theorem i32_eq {a b : Int} (ha : inI a) (hb : inI b) : Int32.ofInt a = Int32.ofInt b ↔ a = b := by rw [← Int32.toInt_inj, i32_to ha, i32_to hb]
theorem i32_lt {a b : Int} (ha : inI a) (hb : inI b) : Int32.ofInt a < Int32.ofInt b ↔ a < b := by rw [Int32.lt_iff_toInt_lt, i32_to ha, i32_to hb]
theorem i32_le {a b : Int} (ha : inI a) (hb : inI b) : Int32.ofInt a ≤ Int32.ofInt b ↔ a ≤ b := by rw [Int32.le_iff_toInt_le, i32_to ha, i32_to hb]
theorem i64_eq {a b : Int} (ha : inL a) (hb : inL b) : Int64.ofInt a = Int64.ofInt b ↔ a = b := by rw [← Int64.toInt_inj, i64_to ha, i64_to hb]
theorem i64_lt {a b : Int} (ha : inL a) (hb : inL b) : Int64.ofInt a < Int64.ofInt b ↔ a < b := by rw [Int64.lt_iff_toInt_lt, i64_to ha, i64_to hb]
theorem i32_z : Int32.ofInt 0 = 0 := rfl
theorem inI0 : inI 0 := by unfold inI; omega
theorem i32_i2l {z : Int} (h : inI z) : (Int32.ofInt z).toInt64 = Int64.ofInt z := Int64.toInt_inj.1 (by rw [Int32.toInt_toInt64, i32_to h, i64_to (by unfold inI at h; unfold inL; omega)])
theorem i32_i2s (z : Int) : (Int32.ofInt z).toInt16.toInt32 = Int32.ofInt (z.bmod 65536) := by
  apply Int32.toInt_inj.1
  rw [Int16.toInt_toInt32, Int32.toInt_toInt16, Int32.toInt_ofInt, Int32.toInt_ofInt]
  have h1 := Int.bmod_def (z.bmod Int32.size) (2 ^ 16)
  rw [show (2 : Nat) ^ 16 = 65536 from rfl, show Int32.size = 4294967296 from rfl] at *
  simp only [Int.bmod_def] at *
  omega
theorem i32_i2b (z : Int) : (Int32.ofInt z).toInt8.toInt32 = Int32.ofInt (z.bmod 256) := by
  apply Int32.toInt_inj.1
  rw [Int8.toInt_toInt32, Int32.toInt_toInt8, Int32.toInt_ofInt, Int32.toInt_ofInt]
  rw [show (2 : Nat) ^ 8 = 256 from rfl, show Int32.size = 4294967296 from rfl]
  simp only [Int.bmod_def]
  omega
theorem i32_div {a b : Int} (ha : inI a) (hb : inI b) (h0 : 0 < b) : Int32.ofInt a / Int32.ofInt b = Int32.ofInt (a.tdiv b) := by
  apply Int32.toInt_inj.1
  have hne : Int32.ofInt b ≠ -1 := fun h => by
    have := (i32_eq hb (show inI (-1) by unfold inI; omega)).mp h
    omega
  have hq : inI (a.tdiv b) := by
    have h1 : (a.tdiv b).natAbs ≤ a.natAbs := by
      rw [Int.natAbs_tdiv]
      exact Nat.div_le_self _ _
    unfold inI at *
    by_cases hz : a = -2147483648
    · subst hz
      have h2 : (-2147483648 : Int).tdiv b ≤ 0 := by
        rw [Int.neg_tdiv]
        have := Int.tdiv_nonneg (a := 2147483648) (b := b) (by omega) (by omega)
        omega
      omega
    · omega
  rw [Int32.toInt_div_of_ne_right _ _ hne, i32_to ha, i32_to hb, i32_to hq]
theorem i64_div {a b : Int} (ha : inL a) (hb : inL b) (h0 : 0 < b) : Int64.ofInt a / Int64.ofInt b = Int64.ofInt (a.tdiv b) := by
  apply Int64.toInt_inj.1
  have hne : Int64.ofInt b ≠ -1 := fun h => by
    have := (i64_eq hb (show inL (-1) by unfold inL; omega)).mp h
    omega
  have hq : inL (a.tdiv b) := by
    have h1 : (a.tdiv b).natAbs ≤ a.natAbs := by
      rw [Int.natAbs_tdiv]
      exact Nat.div_le_self _ _
    unfold inL at *
    by_cases hz : a = -9223372036854775808
    · subst hz
      have h2 : (-9223372036854775808 : Int).tdiv b ≤ 0 := by
        rw [Int.neg_tdiv]
        have := Int.tdiv_nonneg (a := 9223372036854775808) (b := b) (by omega) (by omega)
        omega
      omega
    · omega
  rw [Int64.toInt_div_of_ne_right _ _ hne, i64_to ha, i64_to hb, i64_to hq]
theorem i32_rem {a b : Int} (ha : inI a) (hb : inI b) (h0 : 0 < b) : Int32.ofInt a - Int32.ofInt a / Int32.ofInt b * Int32.ofInt b = Int32.ofInt (a.tmod b) := by
  rw [i32_div ha hb h0, ← Int32.ofInt_mul, ← Int32.ofInt_sub]
  congr 1
  have := Int.mul_tdiv_add_tmod a b
  rw [Int.mul_comm] at this
  omega
theorem i64_rem {a b : Int} (ha : inL a) (hb : inL b) (h0 : 0 < b) : Int64.ofInt a - Int64.ofInt a / Int64.ofInt b * Int64.ofInt b = Int64.ofInt (a.tmod b) := by
  rw [i64_div ha hb h0, ← Int64.ofInt_mul, ← Int64.ofInt_sub]
  congr 1
  have := Int.mul_tdiv_add_tmod a b
  rw [Int.mul_comm] at this
  omega
def xcmp (a b : Int) : Int := if a < b then -1 else if a = b then 0 else 1
theorem xcmp_in (a b : Int) : inI (xcmp a b) := by unfold xcmp inI; split <;> (try split) <;> omega
theorem i64_cmp {a b : Int} (ha : inL a) (hb : inL b) : lg_cmp (Int64.ofInt a) (Int64.ofInt b) = Int32.ofInt (xcmp a b) := by
  unfold lg_cmp xcmp
  simp only [i64_lt ha hb, i64_lt hb ha, i64_eq ha hb]
  by_cases h1 : a < b
  · simp [h1, show ¬ b < a by omega, show ¬ a = b by omega]
  · by_cases h2 : a = b
    · simp [h2]
    · simp [h1, h2, show b < a by omega]
theorem xcmp_eq (a b : Int) : xcmp a b = 0 ↔ a = b := by unfold xcmp; split <;> (try split) <;> omega
theorem xcmp_lt (a b : Int) : xcmp a b < 0 ↔ a < b := by unfold xcmp; split <;> (try split) <;> omega
theorem xcmp_ge (a b : Int) : 0 ≤ xcmp a b ↔ b ≤ a := by unfold xcmp; split <;> (try split) <;> omega
theorem xcmp_gt (a b : Int) : 0 < xcmp a b ↔ b < a := by unfold xcmp; split <;> (try split) <;> omega
theorem xcmp_le (a b : Int) : xcmp a b ≤ 0 ↔ a ≤ b := by unfold xcmp; split <;> (try split) <;> omega
section XR
variable {g : xG} {y : xM} {Q : xP} {rc rs pc : Nat} {ls : xS} {st : List xV} {n : Nat} {f : xH}
theorem xw_iconst {z : Int} (hd : decode (mB y) pc = .ok (.iconst z, 1))  (k : xw g y Q rc rs (pc + 1) ls (vI z :: st) n f) : xw g y Q rc rs pc ls (st) n f :=
  xw_pure (fun hG p e R s m args below meth c H locs cells slots Q9 A C hl kk => lv_iconst C.1 C.2.1 hd rfl kk) k
theorem xw_bipush {b z : Int} (hd : decode (mB y) pc = .ok (.bipush b, 2)) (hz : (Int8.ofInt b).toInt32 = Int32.ofInt z) (k : xw g y Q rc rs (pc + 2) ls (vI z :: st) n f) : xw g y Q rc rs pc ls (st) n f :=
  xw_pure (fun hG p e R s m args below meth c H locs cells slots Q9 A C hl kk => lv_bipush C.1 C.2.1 hd hz kk) k
theorem xw_sipush {b z : Int} (hd : decode (mB y) pc = .ok (.sipush b, 3)) (hz : (Int16.ofInt b).toInt32 = Int32.ofInt z) (k : xw g y Q rc rs (pc + 3) ls (vI z :: st) n f) : xw g y Q rc rs pc ls (st) n f :=
  xw_pure (fun hG p e R s m args below meth c H locs cells slots Q9 A C hl kk => lv_sipush C.1 C.2.1 hd hz kk) k
theorem xw_lconst {i : Fin 2} {z : Int} (hd : decode (mB y) pc = .ok (.lconst i, 1)) (hz : Int64.ofNat (i : Nat) = Int64.ofInt z) (k : xw g y Q rc rs (pc + 1) ls (vL z :: st) n f) : xw g y Q rc rs pc ls (st) n f :=
  xw_pure (fun hG p e R s m args below meth c H locs cells slots Q9 A C hl kk => lv_lconst C.1 C.2.1 hd hz kk) k
theorem xw_ldc {i : Nat} {v : Int32} {z : Int} (hd : decode (mB y) pc = .ok (.ldc i, 2)) (hw : xin (.constant (mN y).cls i v)) (hz : v = Int32.ofInt z) (k : xw g y Q rc rs (pc + 2) ls (vI z :: st) n f) : xw g y Q rc rs pc ls (st) n f :=
  xw_pure (fun hG p e R s m args below meth c H locs cells slots Q9 A C hl kk => lv_ldc C.1 C.2.1 C.2.2.2.2.1 (xgw hG hw C.2.2.2.2.2.2.2.2.1) hd (by rw [hz]; exact kk)) k
theorem xw_ldcw {i : Nat} {v : Int32} {z : Int} (hd : decode (mB y) pc = .ok (.ldc_w i, 3)) (hw : xin (.constant (mN y).cls i v)) (hz : v = Int32.ofInt z) (k : xw g y Q rc rs (pc + 3) ls (vI z :: st) n f) : xw g y Q rc rs pc ls (st) n f :=
  xw_pure (fun hG p e R s m args below meth c H locs cells slots Q9 A C hl kk => lv_ldcw C.1 C.2.1 C.2.2.2.2.1 (xgw hG hw C.2.2.2.2.2.2.2.2.1) hd (by rw [hz]; exact kk)) k
theorem xw_ldc2 {i : Nat} {v : Int64} {z : Int} (hd : decode (mB y) pc = .ok (.ldc2_w i, 3)) (hw : xin (.constantLong (mN y).cls i v)) (hz : v = Int64.ofInt z) (k : xw g y Q rc rs (pc + 3) ls (vL z :: st) n f) : xw g y Q rc rs pc ls (st) n f :=
  xw_pure (fun hG p e R s m args below meth c H locs cells slots Q9 A C hl kk => lv_ldc2 C.1 C.2.1 C.2.2.2.2.1 (xgw hG hw C.2.2.2.2.2.2.2.2.1) hd (by rw [hz]; exact kk)) k
theorem xw_iload_n {i : Fin 4} {z : Int} (hd : decode (mB y) pc = .ok (.iload_n i, 1)) (hv : xlk ls i = some (vI z)) (k : xw g y Q rc rs (pc + 1) ls (vI z :: st) n f) : xw g y Q rc rs pc ls (st) n f :=
  xw_pure (fun hG p e R s m args below meth c H locs cells slots Q9 A C hl kk => lv_iload_n C.1 C.2.1 hd rfl (xL_at hl hv) kk) k
theorem xw_iload {i : Nat} {z : Int} (hd : decode (mB y) pc = .ok (.iload i, 2)) (hv : xlk ls i = some (vI z)) (k : xw g y Q rc rs (pc + 2) ls (vI z :: st) n f) : xw g y Q rc rs pc ls (st) n f :=
  xw_pure (fun hG p e R s m args below meth c H locs cells slots Q9 A C hl kk => lv_iload C.1 C.2.1 hd (xL_at hl hv) kk) k
theorem xw_lload_n {i : Fin 4} {z : Int} (hd : decode (mB y) pc = .ok (.lload_n i, 1)) (hv : xlk ls i = some (vL z)) (k : xw g y Q rc rs (pc + 1) ls (vL z :: st) n f) : xw g y Q rc rs pc ls (st) n f :=
  xw_pure (fun hG p e R s m args below meth c H locs cells slots Q9 A C hl kk => lv_lload_n C.1 C.2.1 hd rfl (xL_at hl hv) kk) k
theorem xw_lload {i : Nat} {z : Int} (hd : decode (mB y) pc = .ok (.lload i, 2)) (hv : xlk ls i = some (vL z)) (k : xw g y Q rc rs (pc + 2) ls (vL z :: st) n f) : xw g y Q rc rs pc ls (st) n f :=
  xw_pure (fun hG p e R s m args below meth c H locs cells slots Q9 A C hl kk => lv_lload C.1 C.2.1 hd (xL_at hl hv) kk) k
theorem xw_aload_n {i : Fin 4} {a : Nat} (hd : decode (mB y) pc = .ok (.aload_n i, 1)) (hv : xlk ls i = some (vR a)) (k : xw g y Q rc rs (pc + 1) ls (vR a :: st) n f) : xw g y Q rc rs pc ls (st) n f :=
  xw_pure (fun hG p e R s m args below meth c H locs cells slots Q9 A C hl kk => lv_aload_n C.1 C.2.1 hd rfl (xL_at hl hv) kk) k
theorem xw_aload {i : Nat} {a : Nat} (hd : decode (mB y) pc = .ok (.aload i, 2)) (hv : xlk ls i = some (vR a)) (k : xw g y Q rc rs (pc + 2) ls (vR a :: st) n f) : xw g y Q rc rs pc ls (st) n f :=
  xw_pure (fun hG p e R s m args below meth c H locs cells slots Q9 A C hl kk => lv_aload C.1 C.2.1 hd (xL_at hl hv) kk) k
theorem xw_aload_nN {i : Fin 4} (hd : decode (mB y) pc = .ok (.aload_n i, 1)) (hv : xlk ls i = some vN) (k : xw g y Q rc rs (pc + 1) ls (vN :: st) n f) : xw g y Q rc rs pc ls (st) n f :=
  xw_pure (fun hG p e R s m args below meth c H locs cells slots Q9 A C hl kk => lv_aload_nN C.1 C.2.1 hd rfl (xL_at hl hv) kk) k
theorem xw_aloadN {i : Nat} (hd : decode (mB y) pc = .ok (.aload i, 2)) (hv : xlk ls i = some vN) (k : xw g y Q rc rs (pc + 2) ls (vN :: st) n f) : xw g y Q rc rs pc ls (st) n f :=
  xw_pure (fun hG p e R s m args below meth c H locs cells slots Q9 A C hl kk => lv_aloadN C.1 C.2.1 hd (xL_at hl hv) kk) k
theorem xw_null  (hd : decode (mB y) pc = .ok (.aconst_null, 1))  (k : xw g y Q rc rs (pc + 1) ls (vN :: st) n f) : xw g y Q rc rs pc ls (st) n f :=
  xw_pure (fun hG p e R s m args below meth c H locs cells slots Q9 A C hl kk => lv_null C.1 C.2.1 hd kk) k
theorem xw_istore_n {i : Fin 4} {z : Int} (hd : decode (mB y) pc = .ok (.istore_n i, 1)) (hn : i < mL y) (k : xw g y Q rc rs (pc + 1) (xsto ls i (vI z)) st n f) : xw g y Q rc rs pc ls (vI z :: st) n f :=
  xw_stor (fun p e R s m args below meth c H locs cells slots Q9 A C hl kk => lv_istore_n C.1 C.2.1 hd rfl hl hn (xsto_map (gB g) ls i (vI z)) (fun A9 hl9 => kk A9 hl9)) k
theorem xw_istore {i : Nat} {z : Int} (hd : decode (mB y) pc = .ok (.istore i, 2)) (hn : i < mL y) (k : xw g y Q rc rs (pc + 2) (xsto ls i (vI z)) st n f) : xw g y Q rc rs pc ls (vI z :: st) n f :=
  xw_stor (fun p e R s m args below meth c H locs cells slots Q9 A C hl kk => lv_istore C.1 C.2.1 hd hl hn (xsto_map (gB g) ls i (vI z)) (fun A9 hl9 => kk A9 hl9)) k
theorem xw_lstore_n {i : Fin 4} {z : Int} (hd : decode (mB y) pc = .ok (.lstore_n i, 1)) (hn : i + 1 < mL y) (k : xw g y Q rc rs (pc + 1) (xstoL ls i (vL z)) st n f) : xw g y Q rc rs pc ls (vL z :: st) n f :=
  xw_stor (fun p e R s m args below meth c H locs cells slots Q9 A C hl kk => lv_lstore_n C.1 C.2.1 hd rfl hl hn (xstoL_map (gB g) ls i (vL z)) (fun A9 hl9 => kk A9 hl9)) k
theorem xw_lstore {i : Nat} {z : Int} (hd : decode (mB y) pc = .ok (.lstore i, 2)) (hn : i + 1 < mL y) (k : xw g y Q rc rs (pc + 2) (xstoL ls i (vL z)) st n f) : xw g y Q rc rs pc ls (vL z :: st) n f :=
  xw_stor (fun p e R s m args below meth c H locs cells slots Q9 A C hl kk => lv_lstore C.1 C.2.1 hd hl hn (xstoL_map (gB g) ls i (vL z)) (fun A9 hl9 => kk A9 hl9)) k
theorem xw_astore_n {i : Fin 4} {a : Nat} (hd : decode (mB y) pc = .ok (.astore_n i, 1)) (hn : i < mL y) (k : xw g y Q rc rs (pc + 1) (xsto ls i (vR a)) st n f) : xw g y Q rc rs pc ls (vR a :: st) n f :=
  xw_stor (fun p e R s m args below meth c H locs cells slots Q9 A C hl kk => lv_astore_n C.1 C.2.1 hd rfl hl hn (xsto_map (gB g) ls i (vR a)) (fun A9 hl9 => kk A9 hl9)) k
theorem xw_astore {i : Nat} {a : Nat} (hd : decode (mB y) pc = .ok (.astore i, 2)) (hn : i < mL y) (k : xw g y Q rc rs (pc + 2) (xsto ls i (vR a)) st n f) : xw g y Q rc rs pc ls (vR a :: st) n f :=
  xw_stor (fun p e R s m args below meth c H locs cells slots Q9 A C hl kk => lv_astore C.1 C.2.1 hd hl hn (xsto_map (gB g) ls i (vR a)) (fun A9 hl9 => kk A9 hl9)) k
theorem xw_astore_nN {i : Fin 4} (hd : decode (mB y) pc = .ok (.astore_n i, 1)) (hn : i < mL y) (k : xw g y Q rc rs (pc + 1) (xsto ls i (vN)) st n f) : xw g y Q rc rs pc ls (vN :: st) n f :=
  xw_stor (fun p e R s m args below meth c H locs cells slots Q9 A C hl kk => lv_astore_nN C.1 C.2.1 hd rfl hl hn (xsto_map (gB g) ls i (vN)) (fun A9 hl9 => kk A9 hl9)) k
theorem xw_astoreN {i : Nat} (hd : decode (mB y) pc = .ok (.astore i, 2)) (hn : i < mL y) (k : xw g y Q rc rs (pc + 2) (xsto ls i (vN)) st n f) : xw g y Q rc rs pc ls (vN :: st) n f :=
  xw_stor (fun p e R s m args below meth c H locs cells slots Q9 A C hl kk => lv_astoreN C.1 C.2.1 hd hl hn (xsto_map (gB g) ls i (vN)) (fun A9 hl9 => kk A9 hl9)) k
theorem xw_iinc {i : Nat} {z d : Int} (hd : decode (mB y) pc = .ok (.iinc i d, 3)) (hv : xlk ls i = some (vI z)) (hn : i < mL y) (k : xw g y Q rc rs (pc + 3) (xsto ls i (vI (z + d))) st n f) : xw g y Q rc rs pc ls st n f :=
  xw_stor (fun p e R s m args below meth c H locs cells slots Q9 A C hl kk => by
    obtain ⟨j, hj⟩ := List.getElem?_of_mem (List.mem_map.mpr ⟨(i, vI z), xlk_mem hv, rfl⟩ : (i, xcv (gB g) (vI z)) ∈ ls.map (fun q => (q.1, xcv (gB g) q.2)))
    exact lv_iinc C.1 C.2.1 hd hl hj (Int32.ofInt_add z d).symm hn (xsto_map (gB g) ls i (vI (z + d))) (fun A9 hl9 => kk A9 hl9)) k
theorem xw_iadd {a b : Int} (hd : decode (mB y) pc = .ok (.iadd, 1))  (k : xw g y Q rc rs (pc + 1) ls (vI (a + b) :: st) n f) : xw g y Q rc rs pc ls (vI b :: vI a :: st) n f :=
  xw_pure (fun hG p e R s m args below meth c H locs cells slots Q9 A C hl kk => lv_iadd C.1 C.2.1 hd (by rw [← Int32.ofInt_add]; exact kk)) k
theorem xw_ladd {a b : Int} (hd : decode (mB y) pc = .ok (.ladd, 1))  (k : xw g y Q rc rs (pc + 1) ls (vL (a + b) :: st) n f) : xw g y Q rc rs pc ls (vL b :: vL a :: st) n f :=
  xw_pure (fun hG p e R s m args below meth c H locs cells slots Q9 A C hl kk => lv_ladd C.1 C.2.1 hd (by rw [← Int64.ofInt_add]; exact kk)) k
theorem xw_isub {a b : Int} (hd : decode (mB y) pc = .ok (.isub, 1))  (k : xw g y Q rc rs (pc + 1) ls (vI (a - b) :: st) n f) : xw g y Q rc rs pc ls (vI b :: vI a :: st) n f :=
  xw_pure (fun hG p e R s m args below meth c H locs cells slots Q9 A C hl kk => lv_isub C.1 C.2.1 hd (by rw [← Int32.ofInt_sub]; exact kk)) k
theorem xw_lsub {a b : Int} (hd : decode (mB y) pc = .ok (.lsub, 1))  (k : xw g y Q rc rs (pc + 1) ls (vL (a - b) :: st) n f) : xw g y Q rc rs pc ls (vL b :: vL a :: st) n f :=
  xw_pure (fun hG p e R s m args below meth c H locs cells slots Q9 A C hl kk => lv_lsub C.1 C.2.1 hd (by rw [← Int64.ofInt_sub]; exact kk)) k
theorem xw_imul {a b : Int} (hd : decode (mB y) pc = .ok (.imul, 1))  (k : xw g y Q rc rs (pc + 1) ls (vI (a * b) :: st) n f) : xw g y Q rc rs pc ls (vI b :: vI a :: st) n f :=
  xw_pure (fun hG p e R s m args below meth c H locs cells slots Q9 A C hl kk => lv_imul C.1 C.2.1 hd (by rw [← Int32.ofInt_mul]; exact kk)) k
theorem xw_lmul {a b : Int} (hd : decode (mB y) pc = .ok (.lmul, 1))  (k : xw g y Q rc rs (pc + 1) ls (vL (a * b) :: st) n f) : xw g y Q rc rs pc ls (vL b :: vL a :: st) n f :=
  xw_pure (fun hG p e R s m args below meth c H locs cells slots Q9 A C hl kk => lv_lmul C.1 C.2.1 hd (by rw [← Int64.ofInt_mul]; exact kk)) k
theorem xw_ineg {a : Int} (hd : decode (mB y) pc = .ok (.ineg, 1))  (k : xw g y Q rc rs (pc + 1) ls (vI (-a) :: st) n f) : xw g y Q rc rs pc ls (vI a :: st) n f :=
  xw_pure (fun hG p e R s m args below meth c H locs cells slots Q9 A C hl kk => lv_ineg C.1 C.2.1 hd (by rw [← Int32.ofInt_neg]; exact kk)) k
theorem xw_lneg {a : Int} (hd : decode (mB y) pc = .ok (.lneg, 1))  (k : xw g y Q rc rs (pc + 1) ls (vL (-a) :: st) n f) : xw g y Q rc rs pc ls (vL a :: st) n f :=
  xw_pure (fun hG p e R s m args below meth c H locs cells slots Q9 A C hl kk => lv_lneg C.1 C.2.1 hd (by rw [← Int64.ofInt_neg]; exact kk)) k
theorem xw_idiv {a b : Int} (hd : decode (mB y) pc = .ok (.idiv, 1)) (ha : inI a) (hb : inI b) (h0 : 0 < b) (k : xw g y Q rc rs (pc + 1) ls (vI (a.tdiv b) :: st) n f) : xw g y Q rc rs pc ls (vI b :: vI a :: st) n f :=
  xw_pure (fun hG p e R s m args below meth c H locs cells slots Q9 A C hl kk => lv_idiv C.1 C.2.1 hd (fun h => by have := (i32_eq hb inI0).mp h; omega) (by rw [i32_div ha hb h0]; exact kk)) k
theorem xw_irem {a b : Int} (hd : decode (mB y) pc = .ok (.irem, 1)) (ha : inI a) (hb : inI b) (h0 : 0 < b) (k : xw g y Q rc rs (pc + 1) ls (vI (a.tmod b) :: st) n f) : xw g y Q rc rs pc ls (vI b :: vI a :: st) n f :=
  xw_pure (fun hG p e R s m args below meth c H locs cells slots Q9 A C hl kk => lv_irem C.1 C.2.1 hd (fun h => by have := (i32_eq hb inI0).mp h; omega) (by rw [i32_rem ha hb h0]; exact kk)) k
theorem xw_ldiv {a b : Int} (hd : decode (mB y) pc = .ok (.ldiv, 1)) (ha : inL a) (hb : inL b) (h0 : 0 < b) (k : xw g y Q rc rs (pc + 1) ls (vL (a.tdiv b) :: st) n f) : xw g y Q rc rs pc ls (vL b :: vL a :: st) n f :=
  xw_pure (fun hG p e R s m args below meth c H locs cells slots Q9 A C hl kk => lv_ldiv C.1 C.2.1 hd (fun h => by have := (i64_eq hb (show inL 0 by unfold inL; omega)).mp h; omega) (by rw [i64_div ha hb h0]; exact kk)) k
theorem xw_lrem {a b : Int} (hd : decode (mB y) pc = .ok (.lrem, 1)) (ha : inL a) (hb : inL b) (h0 : 0 < b) (k : xw g y Q rc rs (pc + 1) ls (vL (a.tmod b) :: st) n f) : xw g y Q rc rs pc ls (vL b :: vL a :: st) n f :=
  xw_pure (fun hG p e R s m args below meth c H locs cells slots Q9 A C hl kk => lv_lrem C.1 C.2.1 hd (fun h => by have := (i64_eq hb (show inL 0 by unfold inL; omega)).mp h; omega) (by rw [i64_rem ha hb h0]; exact kk)) k
theorem xw_i2l {a : Int} (hd : decode (mB y) pc = .ok (.i2l, 1)) (ha : inI a) (k : xw g y Q rc rs (pc + 1) ls (vL a :: st) n f) : xw g y Q rc rs pc ls (vI a :: st) n f :=
  xw_pure (fun hG p e R s m args below meth c H locs cells slots Q9 A C hl kk => lv_i2l C.1 C.2.1 hd (i32_i2l ha) kk) k
theorem xw_l2i {a : Int} (hd : decode (mB y) pc = .ok (.l2i, 1))  (k : xw g y Q rc rs (pc + 1) ls (vI a :: st) n f) : xw g y Q rc rs pc ls (vL a :: st) n f :=
  xw_pure (fun hG p e R s m args below meth c H locs cells slots Q9 A C hl kk => lv_l2i C.1 C.2.1 hd Int64.toInt32_ofInt kk) k
theorem xw_i2s {a : Int} (hd : decode (mB y) pc = .ok (.i2s, 1))  (k : xw g y Q rc rs (pc + 1) ls (vI (a.bmod 65536) :: st) n f) : xw g y Q rc rs pc ls (vI a :: st) n f :=
  xw_pure (fun hG p e R s m args below meth c H locs cells slots Q9 A C hl kk => lv_i2s C.1 C.2.1 hd (i32_i2s a) kk) k
theorem xw_i2b {a : Int} (hd : decode (mB y) pc = .ok (.i2b, 1))  (k : xw g y Q rc rs (pc + 1) ls (vI (a.bmod 256) :: st) n f) : xw g y Q rc rs pc ls (vI a :: st) n f :=
  xw_pure (fun hG p e R s m args below meth c H locs cells slots Q9 A C hl kk => lv_i2b C.1 C.2.1 hd (i32_i2b a) kk) k
theorem xw_lcmp {a b : Int} (hd : decode (mB y) pc = .ok (.lcmp, 1)) (ha : inL a) (hb : inL b) (k : xw g y Q rc rs (pc + 1) ls (vI (xcmp a b) :: st) n f) : xw g y Q rc rs pc ls (vL b :: vL a :: st) n f :=
  xw_pure (fun hG p e R s m args below meth c H locs cells slots Q9 A C hl kk => W.lcmp C.1 C.2.1 hd (by rw [i64_cmp ha hb]; exact kk)) k
theorem xw_iand {a b z : Int} (hd : decode (mB y) pc = .ok (.iand, 1)) (hz : Int32.ofInt a &&& Int32.ofInt b = Int32.ofInt z) (k : xw g y Q rc rs (pc + 1) ls (vI z :: st) n f) : xw g y Q rc rs pc ls (vI b :: vI a :: st) n f :=
  xw_pure (fun hG p e R s m args below meth c H locs cells slots Q9 A C hl kk => lv_iand C.1 C.2.1 hd (by rw [hz]; exact kk)) k
theorem xw_ior {a b z : Int} (hd : decode (mB y) pc = .ok (.ior, 1)) (hz : Int32.ofInt a ||| Int32.ofInt b = Int32.ofInt z) (k : xw g y Q rc rs (pc + 1) ls (vI z :: st) n f) : xw g y Q rc rs pc ls (vI b :: vI a :: st) n f :=
  xw_pure (fun hG p e R s m args below meth c H locs cells slots Q9 A C hl kk => lv_ior C.1 C.2.1 hd (by rw [hz]; exact kk)) k
theorem xw_ixor {a b z : Int} (hd : decode (mB y) pc = .ok (.ixor, 1)) (hz : Int32.ofInt a ^^^ Int32.ofInt b = Int32.ofInt z) (k : xw g y Q rc rs (pc + 1) ls (vI z :: st) n f) : xw g y Q rc rs pc ls (vI b :: vI a :: st) n f :=
  xw_pure (fun hG p e R s m args below meth c H locs cells slots Q9 A C hl kk => lv_ixor C.1 C.2.1 hd (by rw [hz]; exact kk)) k
theorem xw_land {a b z : Int} (hd : decode (mB y) pc = .ok (.land, 1)) (hz : Int64.ofInt a &&& Int64.ofInt b = Int64.ofInt z) (k : xw g y Q rc rs (pc + 1) ls (vL z :: st) n f) : xw g y Q rc rs pc ls (vL b :: vL a :: st) n f :=
  xw_pure (fun hG p e R s m args below meth c H locs cells slots Q9 A C hl kk => lv_land C.1 C.2.1 hd (by rw [hz]; exact kk)) k
theorem xw_lor {a b z : Int} (hd : decode (mB y) pc = .ok (.lor, 1)) (hz : Int64.ofInt a ||| Int64.ofInt b = Int64.ofInt z) (k : xw g y Q rc rs (pc + 1) ls (vL z :: st) n f) : xw g y Q rc rs pc ls (vL b :: vL a :: st) n f :=
  xw_pure (fun hG p e R s m args below meth c H locs cells slots Q9 A C hl kk => lv_lor C.1 C.2.1 hd (by rw [hz]; exact kk)) k
theorem xw_lxor {a b z : Int} (hd : decode (mB y) pc = .ok (.lxor, 1)) (hz : Int64.ofInt a ^^^ Int64.ofInt b = Int64.ofInt z) (k : xw g y Q rc rs (pc + 1) ls (vL z :: st) n f) : xw g y Q rc rs pc ls (vL b :: vL a :: st) n f :=
  xw_pure (fun hG p e R s m args below meth c H locs cells slots Q9 A C hl kk => lv_lxor C.1 C.2.1 hd (by rw [hz]; exact kk)) k
theorem xw_ishl {a b z : Int} (hd : decode (mB y) pc = .ok (.ishl, 1)) (hz : Int32.ofInt a <<< (Int32.ofInt b &&& 31) = Int32.ofInt z) (k : xw g y Q rc rs (pc + 1) ls (vI z :: st) n f) : xw g y Q rc rs pc ls (vI b :: vI a :: st) n f :=
  xw_pure (fun hG p e R s m args below meth c H locs cells slots Q9 A C hl kk => lv_ishl C.1 C.2.1 hd (by rw [hz]; exact kk)) k
theorem xw_ishr {a b z : Int} (hd : decode (mB y) pc = .ok (.ishr, 1)) (hz : Int32.ofInt a >>> (Int32.ofInt b &&& 31) = Int32.ofInt z) (k : xw g y Q rc rs (pc + 1) ls (vI z :: st) n f) : xw g y Q rc rs pc ls (vI b :: vI a :: st) n f :=
  xw_pure (fun hG p e R s m args below meth c H locs cells slots Q9 A C hl kk => lv_ishr C.1 C.2.1 hd (by rw [hz]; exact kk)) k
theorem xw_lshl {a b z : Int} (hd : decode (mB y) pc = .ok (.lshl, 1)) (hz : Int64.ofInt a <<< ((Int32.ofInt b).toInt64 &&& 63) = Int64.ofInt z) (k : xw g y Q rc rs (pc + 1) ls (vL z :: st) n f) : xw g y Q rc rs pc ls (vI b :: vL a :: st) n f :=
  xw_pure (fun hG p e R s m args below meth c H locs cells slots Q9 A C hl kk => lv_lshl C.1 C.2.1 hd hz kk) k
theorem xw_lshr {a b z : Int} (hd : decode (mB y) pc = .ok (.lshr, 1)) (hz : Int64.ofInt a >>> ((Int32.ofInt b).toInt64 &&& 63) = Int64.ofInt z) (k : xw g y Q rc rs (pc + 1) ls (vL z :: st) n f) : xw g y Q rc rs pc ls (vI b :: vL a :: st) n f :=
  xw_pure (fun hG p e R s m args below meth c H locs cells slots Q9 A C hl kk => lv_lshr C.1 C.2.1 hd hz kk) k
theorem xw_dup {v : xV} (hd : decode (mB y) pc = .ok (.dup, 1)) (hv : xcat v = 1) (k : xw g y Q rc rs (pc + 1) ls (v :: v :: st) n f) : xw g y Q rc rs pc ls (v :: st) n f :=
  xw_pure (fun hG p e R s m args below meth c H locs cells slots Q9 A C hl kk => lv_dup C.1 C.2.1 hd (by rw [xcat_eq]; exact hv) kk) k
theorem xw_pop {v : xV} (hd : decode (mB y) pc = .ok (.pop, 1)) (hv : xcat v = 1) (k : xw g y Q rc rs (pc + 1) ls (st) n f) : xw g y Q rc rs pc ls (v :: st) n f :=
  xw_pure (fun hG p e R s m args below meth c H locs cells slots Q9 A C hl kk => lv_pop C.1 C.2.1 hd (by rw [xcat_eq]; exact hv) kk) k
theorem xw_dup2 {v w : xV} (hd : decode (mB y) pc = .ok (.dup2, 1)) (hv : xcat v = 1) (hw : xcat w = 1) (k : xw g y Q rc rs (pc + 1) ls (v :: w :: v :: w :: st) n f) : xw g y Q rc rs pc ls (v :: w :: st) n f :=
  xw_pure (fun hG p e R s m args below meth c H locs cells slots Q9 A C hl kk => lv_dup2_11 C.1 C.2.1 hd (by rw [xcat_eq]; exact hv) (by rw [xcat_eq]; exact hw) kk) k
theorem xw_goto {off : Int} {tgt : Nat} (hd : decode (mB y) pc = .ok (.goto off, 3)) (ht : (pc : Int) + off = (tgt : Int)) (k : xw g y Q rc rs tgt ls st n f) : xw g y Q rc rs pc ls st n f :=
  xw_pure (fun hG p e R s m args below meth c H locs cells slots Q9 A C hl kk => lv_goto C.1 C.2.1 hd ht kk) k
theorem xw_ifeq {z off : Int} {tgt : Nat} (hd : decode (mB y) pc = .ok (.ifCond .eq off, 3)) (ht : (pc : Int) + off = (tgt : Int)) (hr : inI z) (k1 : z = 0 → xw g y Q rc rs tgt ls st n f) (k2 : ¬ z = 0 → xw g y Q rc rs (pc + 3) ls st n f) : xw g y Q rc rs pc ls (vI z :: st) n f :=
  xw_br (fun p e R s m args below meth c H locs cells slots Q9 A C w1 w2 => lv_if_eq C.1 C.2.1 hd ht (fun q => w1 ((i32_eq hr inI0).mp q)) (fun q => w2 (fun r => q ((i32_eq hr inI0).mpr r)))) k1 k2
theorem xw_icmpeq {a b off : Int} {tgt : Nat} (hd : decode (mB y) pc = .ok (.if_icmp .eq off, 3)) (ht : (pc : Int) + off = (tgt : Int)) (ha : inI a) (hb : inI b) (k1 : a = b → xw g y Q rc rs tgt ls st n f) (k2 : ¬ a = b → xw g y Q rc rs (pc + 3) ls st n f) : xw g y Q rc rs pc ls (vI b :: vI a :: st) n f :=
  xw_br (fun p e R s m args below meth c H locs cells slots Q9 A C w1 w2 => lv_icmp_eq C.1 C.2.1 hd ht (fun q => w1 ((i32_eq ha hb).mp q)) (fun q => w2 (fun r => q ((i32_eq ha hb).mpr r)))) k1 k2
theorem xw_lcmpeq {a b off : Int} {tgt : Nat} (hd : decode (mB y) pc = .ok (.lcmp, 1)) (hd2 : decode (mB y) (pc + 1) = .ok (.ifCond .eq off, 3)) (ht : ((pc + 1 : Nat) : Int) + off = (tgt : Int)) (ha : inL a) (hb : inL b) (k1 : a = b → xw g y Q rc rs tgt ls st n f) (k2 : ¬ a = b → xw g y Q rc rs (pc + 1 + 3) ls st n f) : xw g y Q rc rs pc ls (vL b :: vL a :: st) n f :=
  xw_lcmp hd ha hb (xw_ifeq hd2 ht (xcmp_in a b) (fun q => k1 ((xcmp_eq a b).mp q)) (fun q => k2 (fun r => q ((xcmp_eq a b).mpr r))))
theorem xw_ifne {z off : Int} {tgt : Nat} (hd : decode (mB y) pc = .ok (.ifCond .ne off, 3)) (ht : (pc : Int) + off = (tgt : Int)) (hr : inI z) (k1 : ¬ z = 0 → xw g y Q rc rs tgt ls st n f) (k2 : z = 0 → xw g y Q rc rs (pc + 3) ls st n f) : xw g y Q rc rs pc ls (vI z :: st) n f :=
  xw_br (fun p e R s m args below meth c H locs cells slots Q9 A C w1 w2 => lv_if_ne C.1 C.2.1 hd ht (fun q => w1 (fun r => q ((i32_eq hr inI0).mpr r))) (fun q => w2 ((i32_eq hr inI0).mp q))) k1 k2
theorem xw_icmpne {a b off : Int} {tgt : Nat} (hd : decode (mB y) pc = .ok (.if_icmp .ne off, 3)) (ht : (pc : Int) + off = (tgt : Int)) (ha : inI a) (hb : inI b) (k1 : ¬ a = b → xw g y Q rc rs tgt ls st n f) (k2 : a = b → xw g y Q rc rs (pc + 3) ls st n f) : xw g y Q rc rs pc ls (vI b :: vI a :: st) n f :=
  xw_br (fun p e R s m args below meth c H locs cells slots Q9 A C w1 w2 => lv_icmp_ne C.1 C.2.1 hd ht (fun q => w1 (fun r => q ((i32_eq ha hb).mpr r))) (fun q => w2 ((i32_eq ha hb).mp q))) k1 k2
theorem xw_lcmpne {a b off : Int} {tgt : Nat} (hd : decode (mB y) pc = .ok (.lcmp, 1)) (hd2 : decode (mB y) (pc + 1) = .ok (.ifCond .ne off, 3)) (ht : ((pc + 1 : Nat) : Int) + off = (tgt : Int)) (ha : inL a) (hb : inL b) (k1 : ¬ a = b → xw g y Q rc rs tgt ls st n f) (k2 : a = b → xw g y Q rc rs (pc + 1 + 3) ls st n f) : xw g y Q rc rs pc ls (vL b :: vL a :: st) n f :=
  xw_lcmp hd ha hb (xw_ifne hd2 ht (xcmp_in a b) (fun q => k1 (fun r => q ((xcmp_eq a b).mpr r))) (fun q => k2 ((xcmp_eq a b).mp q)))
theorem xw_iflt {z off : Int} {tgt : Nat} (hd : decode (mB y) pc = .ok (.ifCond .lt off, 3)) (ht : (pc : Int) + off = (tgt : Int)) (hr : inI z) (k1 : z < 0 → xw g y Q rc rs tgt ls st n f) (k2 : ¬ z < 0 → xw g y Q rc rs (pc + 3) ls st n f) : xw g y Q rc rs pc ls (vI z :: st) n f :=
  xw_br (fun p e R s m args below meth c H locs cells slots Q9 A C w1 w2 => lv_if_lt C.1 C.2.1 hd ht (fun q => w1 ((i32_lt hr inI0).mp q)) (fun q => w2 (fun r => q ((i32_lt hr inI0).mpr r)))) k1 k2
theorem xw_icmplt {a b off : Int} {tgt : Nat} (hd : decode (mB y) pc = .ok (.if_icmp .lt off, 3)) (ht : (pc : Int) + off = (tgt : Int)) (ha : inI a) (hb : inI b) (k1 : a < b → xw g y Q rc rs tgt ls st n f) (k2 : ¬ a < b → xw g y Q rc rs (pc + 3) ls st n f) : xw g y Q rc rs pc ls (vI b :: vI a :: st) n f :=
  xw_br (fun p e R s m args below meth c H locs cells slots Q9 A C w1 w2 => lv_icmp_lt C.1 C.2.1 hd ht (fun q => w1 ((i32_lt ha hb).mp q)) (fun q => w2 (fun r => q ((i32_lt ha hb).mpr r)))) k1 k2
theorem xw_lcmplt {a b off : Int} {tgt : Nat} (hd : decode (mB y) pc = .ok (.lcmp, 1)) (hd2 : decode (mB y) (pc + 1) = .ok (.ifCond .lt off, 3)) (ht : ((pc + 1 : Nat) : Int) + off = (tgt : Int)) (ha : inL a) (hb : inL b) (k1 : a < b → xw g y Q rc rs tgt ls st n f) (k2 : ¬ a < b → xw g y Q rc rs (pc + 1 + 3) ls st n f) : xw g y Q rc rs pc ls (vL b :: vL a :: st) n f :=
  xw_lcmp hd ha hb (xw_iflt hd2 ht (xcmp_in a b) (fun q => k1 ((xcmp_lt a b).mp q)) (fun q => k2 (fun r => q ((xcmp_lt a b).mpr r))))
theorem xw_ifge {z off : Int} {tgt : Nat} (hd : decode (mB y) pc = .ok (.ifCond .ge off, 3)) (ht : (pc : Int) + off = (tgt : Int)) (hr : inI z) (k1 : 0 ≤ z → xw g y Q rc rs tgt ls st n f) (k2 : ¬ 0 ≤ z → xw g y Q rc rs (pc + 3) ls st n f) : xw g y Q rc rs pc ls (vI z :: st) n f :=
  xw_br (fun p e R s m args below meth c H locs cells slots Q9 A C w1 w2 => lv_if_ge C.1 C.2.1 hd ht (fun q => w1 ((i32_le inI0 hr).mp q)) (fun q => w2 (fun r => q ((i32_le inI0 hr).mpr r)))) k1 k2
theorem xw_icmpge {a b off : Int} {tgt : Nat} (hd : decode (mB y) pc = .ok (.if_icmp .ge off, 3)) (ht : (pc : Int) + off = (tgt : Int)) (ha : inI a) (hb : inI b) (k1 : b ≤ a → xw g y Q rc rs tgt ls st n f) (k2 : ¬ b ≤ a → xw g y Q rc rs (pc + 3) ls st n f) : xw g y Q rc rs pc ls (vI b :: vI a :: st) n f :=
  xw_br (fun p e R s m args below meth c H locs cells slots Q9 A C w1 w2 => lv_icmp_ge C.1 C.2.1 hd ht (fun q => w1 ((i32_le hb ha).mp q)) (fun q => w2 (fun r => q ((i32_le hb ha).mpr r)))) k1 k2
theorem xw_lcmpge {a b off : Int} {tgt : Nat} (hd : decode (mB y) pc = .ok (.lcmp, 1)) (hd2 : decode (mB y) (pc + 1) = .ok (.ifCond .ge off, 3)) (ht : ((pc + 1 : Nat) : Int) + off = (tgt : Int)) (ha : inL a) (hb : inL b) (k1 : b ≤ a → xw g y Q rc rs tgt ls st n f) (k2 : ¬ b ≤ a → xw g y Q rc rs (pc + 1 + 3) ls st n f) : xw g y Q rc rs pc ls (vL b :: vL a :: st) n f :=
  xw_lcmp hd ha hb (xw_ifge hd2 ht (xcmp_in a b) (fun q => k1 ((xcmp_ge a b).mp q)) (fun q => k2 (fun r => q ((xcmp_ge a b).mpr r))))
theorem xw_ifgt {z off : Int} {tgt : Nat} (hd : decode (mB y) pc = .ok (.ifCond .gt off, 3)) (ht : (pc : Int) + off = (tgt : Int)) (hr : inI z) (k1 : 0 < z → xw g y Q rc rs tgt ls st n f) (k2 : ¬ 0 < z → xw g y Q rc rs (pc + 3) ls st n f) : xw g y Q rc rs pc ls (vI z :: st) n f :=
  xw_br (fun p e R s m args below meth c H locs cells slots Q9 A C w1 w2 => lv_if_gt C.1 C.2.1 hd ht (fun q => w1 ((i32_lt inI0 hr).mp q)) (fun q => w2 (fun r => q ((i32_lt inI0 hr).mpr r)))) k1 k2
theorem xw_icmpgt {a b off : Int} {tgt : Nat} (hd : decode (mB y) pc = .ok (.if_icmp .gt off, 3)) (ht : (pc : Int) + off = (tgt : Int)) (ha : inI a) (hb : inI b) (k1 : b < a → xw g y Q rc rs tgt ls st n f) (k2 : ¬ b < a → xw g y Q rc rs (pc + 3) ls st n f) : xw g y Q rc rs pc ls (vI b :: vI a :: st) n f :=
  xw_br (fun p e R s m args below meth c H locs cells slots Q9 A C w1 w2 => lv_icmp_gt C.1 C.2.1 hd ht (fun q => w1 ((i32_lt hb ha).mp q)) (fun q => w2 (fun r => q ((i32_lt hb ha).mpr r)))) k1 k2
theorem xw_lcmpgt {a b off : Int} {tgt : Nat} (hd : decode (mB y) pc = .ok (.lcmp, 1)) (hd2 : decode (mB y) (pc + 1) = .ok (.ifCond .gt off, 3)) (ht : ((pc + 1 : Nat) : Int) + off = (tgt : Int)) (ha : inL a) (hb : inL b) (k1 : b < a → xw g y Q rc rs tgt ls st n f) (k2 : ¬ b < a → xw g y Q rc rs (pc + 1 + 3) ls st n f) : xw g y Q rc rs pc ls (vL b :: vL a :: st) n f :=
  xw_lcmp hd ha hb (xw_ifgt hd2 ht (xcmp_in a b) (fun q => k1 ((xcmp_gt a b).mp q)) (fun q => k2 (fun r => q ((xcmp_gt a b).mpr r))))
theorem xw_ifle {z off : Int} {tgt : Nat} (hd : decode (mB y) pc = .ok (.ifCond .le off, 3)) (ht : (pc : Int) + off = (tgt : Int)) (hr : inI z) (k1 : z ≤ 0 → xw g y Q rc rs tgt ls st n f) (k2 : ¬ z ≤ 0 → xw g y Q rc rs (pc + 3) ls st n f) : xw g y Q rc rs pc ls (vI z :: st) n f :=
  xw_br (fun p e R s m args below meth c H locs cells slots Q9 A C w1 w2 => lv_if_le C.1 C.2.1 hd ht (fun q => w1 ((i32_le hr inI0).mp q)) (fun q => w2 (fun r => q ((i32_le hr inI0).mpr r)))) k1 k2
theorem xw_icmple {a b off : Int} {tgt : Nat} (hd : decode (mB y) pc = .ok (.if_icmp .le off, 3)) (ht : (pc : Int) + off = (tgt : Int)) (ha : inI a) (hb : inI b) (k1 : a ≤ b → xw g y Q rc rs tgt ls st n f) (k2 : ¬ a ≤ b → xw g y Q rc rs (pc + 3) ls st n f) : xw g y Q rc rs pc ls (vI b :: vI a :: st) n f :=
  xw_br (fun p e R s m args below meth c H locs cells slots Q9 A C w1 w2 => lv_icmp_le C.1 C.2.1 hd ht (fun q => w1 ((i32_le ha hb).mp q)) (fun q => w2 (fun r => q ((i32_le ha hb).mpr r)))) k1 k2
theorem xw_lcmple {a b off : Int} {tgt : Nat} (hd : decode (mB y) pc = .ok (.lcmp, 1)) (hd2 : decode (mB y) (pc + 1) = .ok (.ifCond .le off, 3)) (ht : ((pc + 1 : Nat) : Int) + off = (tgt : Int)) (ha : inL a) (hb : inL b) (k1 : a ≤ b → xw g y Q rc rs tgt ls st n f) (k2 : ¬ a ≤ b → xw g y Q rc rs (pc + 1 + 3) ls st n f) : xw g y Q rc rs pc ls (vL b :: vL a :: st) n f :=
  xw_lcmp hd ha hb (xw_ifle hd2 ht (xcmp_in a b) (fun q => k1 ((xcmp_le a b).mp q)) (fun q => k2 (fun r => q ((xcmp_le a b).mpr r))))
theorem xw_ifnullR {a : Nat} {off : Int} (hd : decode (mB y) pc = .ok (.ifnull off, 3)) (k : xw g y Q rc rs (pc + 3) ls st n f) : xw g y Q rc rs pc ls (vR a :: st) n f :=
  xw_pure (fun hG p e R s m args below meth c H locs cells slots Q9 A C hl kk => lv_ifnull C.1 C.2.1 hd kk) k
theorem xw_ifnullN {off : Int} {tgt : Nat} (hd : decode (mB y) pc = .ok (.ifnull off, 3)) (ht : (pc : Int) + off = (tgt : Int)) (k : xw g y Q rc rs tgt ls st n f) : xw g y Q rc rs pc ls (vN :: st) n f :=
  xw_pure (fun hG p e R s m args below meth c H locs cells slots Q9 A C hl kk => lv_ifnullN C.1 C.2.1 hd ht kk) k
theorem xw_ifnonnullR {a : Nat} {off : Int} {tgt : Nat} (hd : decode (mB y) pc = .ok (.ifnonnull off, 3)) (ht : (pc : Int) + off = (tgt : Int)) (k : xw g y Q rc rs tgt ls st n f) : xw g y Q rc rs pc ls (vR a :: st) n f :=
  xw_pure (fun hG p e R s m args below meth c H locs cells slots Q9 A C hl kk => lv_ifnonnull C.1 C.2.1 hd ht kk) k
theorem xw_ifnonnullN {off : Int} (hd : decode (mB y) pc = .ok (.ifnonnull off, 3)) (k : xw g y Q rc rs (pc + 3) ls st n f) : xw g y Q rc rs pc ls (vN :: st) n f :=
  xw_pure (fun hG p e R s m args below meth c H locs cells slots Q9 A C hl kk => lv_ifnonnullN C.1 C.2.1 hd kk) k
theorem xw_acmpeq {a b : Nat} {off : Int} {tgt : Nat} (hd : decode (mB y) pc = .ok (.if_acmp .eq off, 3)) (ht : (pc : Int) + off = (tgt : Int)) (k1 : a = b → xw g y Q rc rs tgt ls st n f) (k2 : ¬ a = b → xw g y Q rc rs (pc + 3) ls st n f) : xw g y Q rc rs pc ls (vR b :: vR a :: st) n f :=
  xw_br (fun p e R s m args below meth c H locs cells slots Q9 A C w1 w2 => lv_acmp_eq (rx := some (gB g + a)) (ry := some (gB g + b)) C.1 C.2.1 hd ht (fun q => w1 (by have := Option.some.inj q; omega)) (fun q => w2 (fun r => q (by rw [r])))) k1 k2
theorem xw_tabIn {dflt lo hi off z : Int} {offs : Array Int} {len tgt : Nat} (hd : decode (mB y) pc = .ok (.tableswitch dflt lo hi offs, len)) (hr : inI z) (h1 : lo ≤ z) (h2 : z ≤ hi) (ho : offs[(z - lo).toNat]? = some off) (ht : (pc : Int) + off = (tgt : Int)) (k : xw g y Q rc rs tgt ls st n f) : xw g y Q rc rs pc ls (vI z :: st) n f :=
  xw_pure (fun hG p e R s m args below meth c H locs cells slots Q9 A C hl kk => lv_tableIn C.1 C.2.1 hd (by rw [i32_to hr]; omega) (by rw [i32_to hr]; omega) (by rw [i32_to hr]; exact ho) ht kk) k
theorem xw_tabOut {dflt lo hi z : Int} {offs : Array Int} {len tgt : Nat} (hd : decode (mB y) pc = .ok (.tableswitch dflt lo hi offs, len)) (hr : inI z) (h : z < lo ∨ hi < z) (ht : (pc : Int) + dflt = (tgt : Int)) (k : xw g y Q rc rs tgt ls st n f) : xw g y Q rc rs pc ls (vI z :: st) n f :=
  xw_pure (fun hG p e R s m args below meth c H locs cells slots Q9 A C hl kk => lv_tableOut C.1 C.2.1 hd (by rw [i32_to hr]; exact h) ht kk) k
theorem xw_look {dflt off z : Int} {ps : Array (Int × Int)} {len tgt : Nat} (hd : decode (mB y) pc = .ok (.lookupswitch dflt ps, len)) (hr : inI z) (hp : (ps.toList.zip (ps.toList.drop 1)).all (fun (a, next) => a.1 < next.1) = true) (ho : Op.lookupswitch.offset ps.toList dflt z = off) (ht : (pc : Int) + off = (tgt : Int)) (k : xw g y Q rc rs tgt ls st n f) : xw g y Q rc rs pc ls (vI z :: st) n f :=
  xw_pure (fun hG p e R s m args below meth c H locs cells slots Q9 A C hl kk => lv_lookup C.1 C.2.1 hd hp (by rw [i32_to hr]; exact ho) ht kk) k
end XR
