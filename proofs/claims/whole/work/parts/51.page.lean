/-! what is printed -/
abbrev oPg (sz : Nat) : xE := Sum.inr (4, fX4 (sz : Int))
theorem i2c_n : ∀ a : Nat, a < 128 → ((Int32.ofInt (a : Int)).toUInt32 % 65536).toInt32 = Int32.ofInt (a : Int) := by decide +kernel
theorem xw_i2c {g : xG} {y : xM} {Q : xP} {rc rs pc : Nat} {ls : xS} {st : List xV} {n : Nat} {f : xH} {a : Nat} (hd : decode (mB y) pc = .ok (.i2c, 1)) (ha : a < 128) (k : xw g y Q rc rs (pc + 1) ls (vI (a : Int) :: st) n f) : xw g y Q rc rs pc ls (vI (a : Int) :: st) n f :=
  xw_pure (fun hG p e R s m args below meth c H locs cells slots Q9 A C hl kk => lv_i2c C.1 C.2.1 hd (i2c_n a ha) kk) k
theorem nar_b {a : Nat} (ha : a < 128) : narrow .byte (.int (Int32.ofInt (a : Int))) = .int (Int32.ofInt (a : Int)) := by
  show Value.int ((Int32.ofInt (a : Int)).toInt8.toInt32) = _
  rw [i32_i2b, show (a : Int).bmod 256 = (a : Int) by rw [Int.bmod_eq_of_le] <;> omega]
/-- how many digits follow the first -/
def dgE : Nat → Nat → Nat
  | 0, _ => 0
  | k + 1, n => if n < 10 then 0 else dgE k (n / 10) + 1
/-- k digits of n are written from place s on -/
def dws (n : Nat) : Nat → Nat → (Nat → Int) → (Nat → Int)
  | 0, _, b => b
  | k + 1, s, b => dws n k (s + 1) (xui b s ((48 + n / 10 ^ k % 10 : Nat) : Int))
theorem dgE_le : ∀ (k n : Nat), n < 10 ^ k → dgE k n < k ∨ k = 0 := by
  intro k
  induction k with
  | zero => intro n _; exact Or.inr rfl
  | succ k ih =>
    intro n hn
    refine Or.inl ?_
    unfold dgE
    split
    · omega
    · next h =>
      rw [Nat.pow_succ] at hn
      have h1 := ih (n / 10) (by omega)
      rcases h1 with h1 | h1
      · omega
      · subst h1; simp at hn; omega
theorem natL {x : Nat} (h : x ≤ 4611686018427387904) : inL (x : Int) := by unfold inL; omega
theorem natI {x : Nat} (h : x ≤ 2147483647) : inI (x : Int) := by unfold inI; omega
section C51
variable {g : xG} {Q : xP} {n : Nat} {f : xH}
set_option maxHeartbeats 4000000 in
theorem ct_add {sz c : Nat} {b : Nat → Int} (h18 : f 18 = some (oPg sz)) (h19 : f 19 = some (aB 40 b)) (hsz : sz < 40) (hc : c < 128) (hq : Q (.inl none) n (xup (xup f 19 (aB 40 (xui b sz (c : Int)))) 18 (oPg (sz + 1)))) : xct g M_X4_add 0 0 [vR 18, vI (c : Int)] n f Q := by
  refine xct_of rfl rfl (Nat.le_of_ble_eq_true rfl) ?_
  refine xw_aload_n dX4_add_0 rfl ?_
  refine xw_getfield dX4_add_1 fl_X4_23 h18 rfl ?_
  refine xw_aload_n dX4_add_4 rfl ?_
  refine xw_getfield dX4_add_5 fl_X4_9 h18 rfl ?_
  refine xw_alen (N := 40) dX4_add_8 h19 rfl ?_
  refine xw_icmpge (tgt := 33) dX4_add_9 (by decide) (by unfold inI; omega) (by unfold inI; omega) (fun c_9 => ?_) (fun c_9 => ?_)
  · skip
    exfalso; omega
  · skip
    refine xw_aload_n dX4_add_12 rfl ?_
    refine xw_getfield dX4_add_13 fl_X4_9 h18 rfl ?_
    refine xw_aload_n dX4_add_16 rfl ?_
    refine xw_getfield dX4_add_17 fl_X4_23 h18 rfl ?_
    refine xw_iload_n dX4_add_20 rfl ?_
    refine xw_i2b dX4_add_21 ?_
    refine xw_topi (c : Int) (by rw [Int.bmod_eq_of_le] <;> omega) ?_
    refine xw_bast dX4_add_22 h19 (j := sz) rfl hsz (by decide) (nar_b hc) ?_
    refine xw_aload_n dX4_add_23 rfl ?_
    refine xw_dup dX4_add_24 rfl ?_
    refine xw_getfield dX4_add_25 fl_X4_23 h18 rfl ?_
    refine xw_iconst dX4_add_28 ?_
    refine xw_iadd dX4_add_29 ?_
    refine xw_putfield dX4_add_30 (fp_X4_23 _) h18 rfl rfl ?_
    rw [fX4_1]
    exact xw_vret dX4_add_33 rfl hq
set_option maxHeartbeats 4000000 in
theorem ct_gcd {a b : Nat} (ha : a < 2 ^ 62) (hb : b < 2 ^ 40) (hq : Q (.inl (some (vL ((Nat.gcd a b : Nat) : Int)))) n f) : xct g M_X4_commonDivisor 0 0 [vL (a : Int), vL (b : Int)] n f Q := by
  refine xct_of rfl rfl (Nat.le_of_ble_eq_true rfl) ?_
  obtain ⟨G, hG⟩ : ∃ G, G = Nat.gcd a b := ⟨_, rfl⟩
  rw [← hG] at hq
  have Z : ∀ (x t : Nat), x = G → t ≤ 100 → xw g M_X4_commonDivisor Q 0 0 3 [(0, vL (x : Int)), (2, vL ((0 : Nat) : Int)), (4, vI (t : Int))] [] n f := by
    intro x t hx ht
    subst hx
    refine xw_iload dX4_commonDivisor_3 rfl ?_
    refine xw_bipush (z := 100) dX4_commonDivisor_5 (by decide) ?_
    refine xw_icmpge (tgt := 32) dX4_commonDivisor_7 (by decide) (by unfold inI; omega) (by unfold inI; omega) (fun c_7 => ?_) (fun c_7 => ?_)
    · skip
      refine xw_lload_n dX4_commonDivisor_32 rfl ?_
      exact xw_lret dX4_commonDivisor_33 rfl hq
    · skip
      refine xw_lload_n dX4_commonDivisor_10 rfl ?_
      refine xw_lconst (z := 0) dX4_commonDivisor_11 (by decide) ?_
      refine xw_lcmpeq (tgt := 32) dX4_commonDivisor_12 dX4_commonDivisor_13 (by decide) (by unfold inL; omega) (by unfold inL; omega) (fun c_12 => ?_) (fun c_12 => ?_)
      · skip
        refine xw_lload_n dX4_commonDivisor_32 rfl ?_
        exact xw_lret dX4_commonDivisor_33 rfl hq
      · skip
        exfalso; omega
  have S : ∀ (x y t : Nat), x < 4611686018427387904 → 0 < y → y < 4611686018427387904 → t < 100 → xw g M_X4_commonDivisor Q 0 0 3 [(0, vL (y : Int)), (2, vL ((x % y : Nat) : Int)), (4, vI ((t + 1 : Nat) : Int))] [] n f → xw g M_X4_commonDivisor Q 0 0 3 [(0, vL (x : Int)), (2, vL (y : Int)), (4, vI (t : Int))] [] n f := by
    intro x y t hx hy hy2 ht K
    refine xw_iload dX4_commonDivisor_3 rfl ?_
    refine xw_bipush (z := 100) dX4_commonDivisor_5 (by decide) ?_
    refine xw_icmpge (tgt := 32) dX4_commonDivisor_7 (by decide) (by unfold inI; omega) (by unfold inI; omega) (fun c_7 => ?_) (fun c_7 => ?_)
    · skip
      exfalso; omega
    · skip
      refine xw_lload_n dX4_commonDivisor_10 rfl ?_
      refine xw_lconst (z := 0) dX4_commonDivisor_11 (by decide) ?_
      refine xw_lcmpeq (tgt := 32) dX4_commonDivisor_12 dX4_commonDivisor_13 (by decide) (by unfold inL; omega) (by unfold inL; omega) (fun c_12 => ?_) (fun c_12 => ?_)
      · skip
        exfalso; omega
      · skip
        refine xw_lload_n dX4_commonDivisor_16 rfl ?_
        refine xw_lload_n dX4_commonDivisor_17 rfl ?_
        refine xw_lrem dX4_commonDivisor_18 (by unfold inL; omega) (by unfold inL; omega) (by omega) ?_
        refine xw_topl ((x % y : Nat) : Int) rfl ?_
        refine xw_lstore dX4_commonDivisor_19 (by decide) ?_
        refine xw_lload_n dX4_commonDivisor_21 rfl ?_
        refine xw_lstore_n dX4_commonDivisor_22 (by decide) ?_
        refine xw_lload dX4_commonDivisor_23 rfl ?_
        refine xw_lstore_n dX4_commonDivisor_25 (by decide) ?_
        refine xw_iinc dX4_commonDivisor_26 rfl (by decide) ?_
        refine xw_goto (tgt := 3) dX4_commonDivisor_29 (by decide) ?_
        exact xw_ls [(0, vL (y : Int)), (2, vL ((x % y : Nat) : Int)), (4, vI ((t + 1 : Nat) : Int))] ⟨rfl, rfl, rfl, trivial⟩ K
  have L : ∀ (m x y t : Nat), x < 4611686018427387904 → y < 4611686018427387904 → y < 2 ^ m → t + 2 * m ≤ 98 → Nat.gcd x y = G → xw g M_X4_commonDivisor Q 0 0 3 [(0, vL (x : Int)), (2, vL (y : Int)), (4, vI (t : Int))] [] n f := by
    intro m
    induction m with
    | zero =>
      intro x y t hx hy hy2 ht hg
      have e : y = 0 := by simpa using hy2
      subst e
      rw [Nat.gcd_zero_right] at hg
      exact Z x t hg (by omega)
    | succ m ih =>
      intro x y t hx hy hy2 ht hg
      by_cases e : y = 0
      · subst e
        rw [Nat.gcd_zero_right] at hg
        exact Z x t hg (by omega)
      · have hr : x % y < y := Nat.mod_lt _ (by omega)
        refine S x y t hx (by omega) hy (by omega) ?_
        have hg2 : Nat.gcd y (x % y) = G := by rw [← hg, Nat.gcd_comm y, ← Nat.gcd_rec y x, Nat.gcd_comm]
        by_cases e2 : x % y = 0
        · rw [e2] at hg2 ⊢
          rw [Nat.gcd_zero_right] at hg2
          exact Z y (t + 1) hg2 (by omega)
        · have hr2 : y % (x % y) < x % y := Nat.mod_lt _ (by omega)
          refine S y (x % y) (t + 1) hy (by omega) (by omega) (by omega) ?_
          have hg3 : Nat.gcd (x % y) (y % (x % y)) = G := by rw [← hg2, Nat.gcd_comm (x % y), ← Nat.gcd_rec (x % y) y, Nat.gcd_comm]
          have hd : y % (x % y) + (x % y) ≤ y := by
            have h1 := Nat.div_add_mod y (x % y)
            have h2 : 1 ≤ y / (x % y) := Nat.div_pos (by omega) (by omega)
            have h3 : x % y ≤ (x % y) * (y / (x % y)) := Nat.le_mul_of_pos_right _ h2
            omega
          rw [Nat.pow_succ] at hy2
          exact ih (x % y) (y % (x % y)) (t + 1 + 1) (by omega) (by omega) (by omega) (by omega) hg3
  refine xw_iconst dX4_commonDivisor_0 ?_
  refine xw_istore dX4_commonDivisor_1 (by decide) ?_
  exact xw_ls [(0, vL (a : Int)), (2, vL (b : Int)), (4, vI ((0 : Nat) : Int))] ⟨rfl, rfl, rfl, trivial⟩ (L 40 a b 0 (by rw [← p62]; exact ha) (by have := p40; omega) hb (by omega) hG.symm)
set_option maxHeartbeats 4000000 in
theorem ct_addNumber {sz a : Nat} {b : Nat → Int} (h18 : f 18 = some (oPg sz)) (h19 : f 19 = some (aB 40 b)) (ha : a < 10 ^ 12) (hsz : sz + 12 ≤ 40)
    (hq : ∀ f1, fr [18, 19] f f1 → f1 18 = some (oPg (sz + dgE 12 a + 1)) → f1 19 = some (aB 40 (dws a (dgE 12 a + 1) sz b)) → Q (.inl none) n f1) : xct g M_X4_addNumber 0 0 [vR 18, vL (a : Int)] n f Q := by
  refine xct_of rfl rfl (Nat.le_of_ble_eq_true rfl) ?_
  have e12 : (10 : Nat) ^ 12 = 1000000000000 := by decide
  obtain ⟨E, hE⟩ : ∃ E, E = dgE 12 a := ⟨_, rfl⟩
  have hE12 : E < 12 := by rcases dgE_le 12 a ha with h | h; rw [hE]; exact h; cases h
  rw [← hE] at hq
  have W : ∀ (m s t : Nat) (b1 : Nat → Int) (f1 : xH), m ≤ 12 → s + m = sz + E + 1 → t + m = E + 1 → dws a m s b1 = dws a (E + 1) sz b → fr [18, 19] f f1 → f1 18 = some (oPg s) → f1 19 = some (aB 40 b1) → xw g M_X4_addNumber Q 0 0 37 [(0, vR 18), (1, vL (a : Int)), (3, vL ((10 ^ m / 10 : Nat) : Int)), (5, vI (t : Int))] [] n f1 := by
    intro m
    generalize dws a (E + 1) sz b = R at *
    induction m with
    | zero =>
      intro s t b1 f1 hm hs ht he hf e18 e19
      have hR : b1 = R := he
      subst hR
      refine xw_iload dX4_addNumber_37 rfl ?_
      refine xw_bipush (z := 19) dX4_addNumber_39 (by decide) ?_
      refine xw_icmpge (tgt := 79) dX4_addNumber_41 (by decide) (by unfold inI; omega) (by unfold inI; omega) (fun c_41 => ?_) (fun c_41 => ?_)
      · skip
        exact xw_vret dX4_addNumber_79 rfl (hq f1 hf (by rw [show sz + E + 1 = s by omega]; exact e18) e19)
      · skip
        refine xw_lload_n dX4_addNumber_44 rfl ?_
        refine xw_lconst (z := 0) dX4_addNumber_45 (by decide) ?_
        refine xw_lcmple (tgt := 79) dX4_addNumber_46 dX4_addNumber_47 (by decide) (by unfold inL; rw [show (10 : Nat) ^ 0 / 10 = 0 from rfl]; omega) (by unfold inL; omega) (fun c_46 => ?_) (fun c_46 => ?_)
        · skip
          exact xw_vret dX4_addNumber_79 rfl (hq f1 hf (by rw [show sz + E + 1 = s by omega]; exact e18) e19)
        · skip
          exfalso; rw [show (10 : Nat) ^ 0 / 10 = 0 from rfl] at c_46; omega
    | succ m ih =>
      intro s t b1 f1 hm hs ht he hf e18 e19
      unfold dws at he
      have hpe : (10 : Nat) ^ (m + 1) / 10 = 10 ^ m := by rw [Nat.pow_succ]; omega
      have hp0 : 0 < (10 : Nat) ^ m := Nat.pow_pos (by decide)
      have hp2 : (10 : Nat) ^ m ≤ 10 ^ 12 := Nat.pow_le_pow_right (by decide) (by omega)
      have hdl : a / 10 ^ m ≤ a := Nat.div_le_self _ _
      rw [hpe]
      refine xw_iload dX4_addNumber_37 rfl ?_
      refine xw_bipush (z := 19) dX4_addNumber_39 (by decide) ?_
      refine xw_icmpge (tgt := 79) dX4_addNumber_41 (by decide) (by unfold inI; omega) (by unfold inI; omega) (fun c_41 => ?_) (fun c_41 => ?_)
      · skip
        exfalso; omega
      · skip
        refine xw_lload_n dX4_addNumber_44 rfl ?_
        refine xw_lconst (z := 0) dX4_addNumber_45 (by decide) ?_
        refine xw_lcmple (tgt := 79) dX4_addNumber_46 dX4_addNumber_47 (by decide) (by unfold inL; omega) (by unfold inL; omega) (fun c_46 => ?_) (fun c_46 => ?_)
        · skip
          exfalso; omega
        · skip
          refine xw_aload_n dX4_addNumber_50 rfl ?_
          refine xw_ldc2 (z := 48) dX4_addNumber_51 kl_X4_37 (by decide) ?_
          refine xw_lload_n dX4_addNumber_54 rfl ?_
          refine xw_lload_n dX4_addNumber_55 rfl ?_
          refine xw_ldiv dX4_addNumber_56 (by unfold inL; omega) (by unfold inL; omega) (by omega) ?_
          refine xw_topl ((a / 10 ^ m : Nat) : Int) rfl ?_
          refine xw_ldc2 (z := 10) dX4_addNumber_57 kl_X4_35 (by decide) ?_
          refine xw_lrem dX4_addNumber_60 (natL (x := a / 10 ^ m) (by omega)) (by unfold inL; omega) (by omega) ?_
          refine xw_topl ((a / 10 ^ m % 10 : Nat) : Int) rfl ?_
          refine xw_ladd dX4_addNumber_61 ?_
          refine xw_topl ((48 + a / 10 ^ m % 10 : Nat) : Int) (by omega) ?_
          refine xw_l2i dX4_addNumber_62 ?_
          refine xw_i2c dX4_addNumber_63 (by omega) ?_
          refine xw_callV (rc := 0) (rs := 0) (mc2 := 0) (ms2 := 0) (a := 18) (As := [vI ((48 + a / 10 ^ m % 10 : Nat) : Int)]) (st := []) dX4_addNumber_64 mv_X4_27 e18 rfl rfl (by decide) (by decide) (Nat.le_of_ble_eq_true rfl) rfl (ct_add e18 e19 (by omega) (by omega) ?_)
          refine xw_lload_n dX4_addNumber_67 rfl ?_
          refine xw_ldc2 (z := 10) dX4_addNumber_68 kl_X4_35 (by decide) ?_
          refine xw_ldiv dX4_addNumber_71 (by unfold inL; omega) (by unfold inL; omega) (by omega) ?_
          refine xw_topl ((10 ^ m / 10 : Nat) : Int) rfl ?_
          refine xw_lstore_n dX4_addNumber_72 (by decide) ?_
          refine xw_iinc dX4_addNumber_73 rfl (by decide) ?_
          refine xw_goto (tgt := 37) dX4_addNumber_76 (by decide) ?_
          exact xw_ls [(0, vR 18), (1, vL (a : Int)), (3, vL ((10 ^ m / 10 : Nat) : Int)), (5, vI ((t + 1 : Nat) : Int))] ⟨rfl, rfl, rfl, rfl, trivial⟩ (ih (s + 1) (t + 1) _ _ (by omega) (by omega) (by omega) he (fr_up (fr_up hf (by decide)) (by decide)) (xup_s _ _ _) rfl)
  have U : ∀ (m i : Nat), i + m = 12 → dgE m (a / 10 ^ i) + i = E → i ≤ E → xw g M_X4_addNumber Q 0 0 5 [(0, vR 18), (1, vL (a : Int)), (3, vL ((10 ^ i : Nat) : Int)), (5, vI ((i + 1 : Nat) : Int))] [] n f := by
    intro m
    induction m with
    | zero =>
      intro i hi he hle
      have he2 : 0 + i = E := he
      omega
    | succ m ih =>
      intro i hi he hle
      have hp0 : 0 < (10 : Nat) ^ i := Nat.pow_pos (by decide)
      have hp2 : (10 : Nat) ^ i ≤ 10 ^ 12 := Nat.pow_le_pow_right (by decide) (by omega)
      have hdl : a / 10 ^ i ≤ a := Nat.div_le_self _ _
      unfold dgE at he
      refine xw_iload dX4_addNumber_5 rfl ?_
      refine xw_bipush (z := 19) dX4_addNumber_7 (by decide) ?_
      refine xw_icmpge (tgt := 34) dX4_addNumber_9 (by decide) (by unfold inI; omega) (by unfold inI; omega) (fun c_9 => ?_) (fun c_9 => ?_)
      · skip
        exfalso; omega
      · skip
        refine xw_lload_n dX4_addNumber_12 rfl ?_
        refine xw_lload_n dX4_addNumber_13 rfl ?_
        refine xw_ldiv dX4_addNumber_14 (by unfold inL; omega) (by unfold inL; omega) (by omega) ?_
        refine xw_topl ((a / 10 ^ i : Nat) : Int) rfl ?_
        refine xw_ldc2 (z := 10) dX4_addNumber_15 kl_X4_35 (by decide) ?_
        refine xw_lcmplt (tgt := 34) dX4_addNumber_18 dX4_addNumber_19 (by decide) (natL (x := a / 10 ^ i) (by omega)) (by unfold inL; omega) (fun c_18 => ?_) (fun c_18 => ?_)
        · skip
          refine xw_iconst dX4_addNumber_34 ?_
          refine xw_istore dX4_addNumber_35 (by decide) ?_
          have hiE : i = E := by rw [if_pos (by omega)] at he; omega
          have h9 := W (E + 1) sz 0 b f (by omega) (by omega) (by omega) rfl (fr_rf _ _) h18 h19
          rw [show (10 : Nat) ^ (E + 1) / 10 = 10 ^ i by rw [Nat.pow_succ, hiE]; omega] at h9
          exact xw_ls [(0, vR 18), (1, vL (a : Int)), (3, vL ((10 ^ i : Nat) : Int)), (5, vI ((0 : Nat) : Int))] ⟨rfl, rfl, rfl, rfl, trivial⟩ h9
        · skip
          refine xw_lload_n dX4_addNumber_22 rfl ?_
          refine xw_ldc2 (z := 10) dX4_addNumber_23 kl_X4_35 (by decide) ?_
          refine xw_lmul dX4_addNumber_26 ?_
          refine xw_topl ((10 ^ (i + 1) : Nat) : Int) (by rw [Nat.pow_succ]; omega) ?_
          refine xw_lstore_n dX4_addNumber_27 (by decide) ?_
          refine xw_iinc dX4_addNumber_28 rfl (by decide) ?_
          refine xw_goto (tgt := 5) dX4_addNumber_31 (by decide) ?_
          rw [if_neg (by omega), Nat.div_div_eq_div_mul, show 10 ^ i * 10 = 10 ^ (i + 1) from rfl] at he
          exact xw_ls [(0, vR 18), (1, vL (a : Int)), (3, vL ((10 ^ (i + 1) : Nat) : Int)), (5, vI ((i + 1 + 1 : Nat) : Int))] ⟨rfl, rfl, rfl, rfl, trivial⟩ (ih (i + 1) (by omega) (by omega) (by omega))
  refine xw_lconst (z := 1) dX4_addNumber_0 (by decide) ?_
  refine xw_lstore_n dX4_addNumber_1 (by decide) ?_
  refine xw_iconst dX4_addNumber_2 ?_
  refine xw_istore dX4_addNumber_3 (by decide) ?_
  exact xw_ls [(0, vR 18), (1, vL (a : Int)), (3, vL ((10 ^ 0 : Nat) : Int)), (5, vI ((0 + 1 : Nat) : Int))] ⟨rfl, rfl, rfl, rfl, trivial⟩ (U 12 0 (by omega) (by rw [hE, Nat.pow_zero, Nat.div_one]; omega) (by omega))
end C51
