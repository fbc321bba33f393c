/-! sets as ints; the worth of sets, loose sets, better sets -/
theorem wi_tb (n : Nat) : (nI n).toBitVec = BitVec.ofNat 32 n := rfl
theorem wi_inj {a b : Int32} (h : a.toBitVec = b.toBitVec) : a = b := Int32.toBitVec_inj.mp h
theorem xb_shlI : ∀ b : Nat, b < 31 → Int32.ofInt 1 <<< (Int32.ofInt (b : Int) &&& 31) = Int32.ofInt ((2 ^ b : Nat) : Int) := by decide +kernel
theorem xb_orI {a b : Nat} (ha : a < 2 ^ 32) (hb : b < 2 ^ 32) : Int32.ofInt (a : Int) ||| Int32.ofInt (b : Int) = Int32.ofInt ((a ||| b : Nat) : Int) := by
  rw [xi_n, xi_n, xi_n]
  apply wi_inj
  rw [Int32.toBitVec_or, wi_tb, wi_tb, wi_tb]
  apply BitVec.eq_of_toNat_eq
  rw [BitVec.toNat_or, BitVec.toNat_ofNat, BitVec.toNat_ofNat, BitVec.toNat_ofNat, Nat.mod_eq_of_lt ha, Nat.mod_eq_of_lt hb, Nat.mod_eq_of_lt (Nat.or_lt_two_pow ha hb)]
theorem xb_xorI {a b : Nat} (ha : a < 2 ^ 32) (hb : b < 2 ^ 32) : Int32.ofInt (a : Int) ^^^ Int32.ofInt (b : Int) = Int32.ofInt ((a ^^^ b : Nat) : Int) := by
  rw [xi_n, xi_n, xi_n]
  apply wi_inj
  rw [Int32.toBitVec_xor, wi_tb, wi_tb, wi_tb]
  apply BitVec.eq_of_toNat_eq
  rw [BitVec.toNat_xor, BitVec.toNat_ofNat, BitVec.toNat_ofNat, BitVec.toNat_ofNat, Nat.mod_eq_of_lt ha, Nat.mod_eq_of_lt hb, Nat.mod_eq_of_lt (Nat.xor_lt_two_pow ha hb)]
theorem xb_ngI (a : Nat) : (Int32.ofInt (-(a : Int) - 1)).toBitVec = ~~~ (BitVec.ofNat 32 a) := by
  rw [Int32.toBitVec_ofInt, show -(a : Int) - 1 = Int.negSucc a by omega, BitVec.ofInt_negSucc_eq_not_ofNat]
theorem xb_notI (a : Nat) : Int32.ofInt (a : Int) ^^^ Int32.ofInt (-1) = Int32.ofInt (-(a : Int) - 1) := by
  apply wi_inj
  rw [Int32.toBitVec_xor, xb_ngI, xi_n, wi_tb, show (Int32.ofInt (-1)).toBitVec = BitVec.allOnes 32 from by decide, BitVec.xor_allOnes]
/-- what is in a and not in b -/
def xdf (a b : Nat) : Nat := a &&& (a ^^^ b)
theorem xdf_bit (a b i : Nat) : (xdf a b).testBit i = (a.testBit i && !b.testBit i) := by
  unfold xdf
  rw [Nat.testBit_and, Nat.testBit_xor]
  cases a.testBit i <;> cases b.testBit i <;> rfl
theorem xdf_le (a b : Nat) : xdf a b ≤ a := Nat.and_le_left
theorem xb_dfI {a b : Nat} (ha : a < 2 ^ 32) : Int32.ofInt (a : Int) &&& Int32.ofInt (-(b : Int) - 1) = Int32.ofInt ((xdf a b : Nat) : Int) := by
  apply wi_inj
  rw [Int32.toBitVec_and, xb_ngI, xi_n, xi_n, wi_tb, wi_tb]
  apply BitVec.eq_of_getLsbD_eq
  intro i hi
  rw [BitVec.getLsbD_and, BitVec.getLsbD_not, BitVec.getLsbD_ofNat, BitVec.getLsbD_ofNat, BitVec.getLsbD_ofNat, xdf_bit]
  simp [hi]
theorem xb_shrI {a b : Nat} (ha : a < 2 ^ 31) (hb : b < 31) : Int32.ofInt (a : Int) >>> (Int32.ofInt (b : Int) &&& 31) = Int32.ofInt ((a / 2 ^ b : Nat) : Int) := by
  have hk : ∀ b : Nat, b < 31 → ((Int32.ofInt (b : Int) &&& 31).toBitVec.smod 32).toNat = b := by decide +kernel
  have hd : a / 2 ^ b ≤ a := Nat.div_le_self _ _
  have hn : ∀ x : Nat, x < 2 ^ 31 → (nI x).toInt = (x : Int) := fun x hx => by
    rw [← xi_n]
    exact i32_to (by unfold inI; omega)
  rw [xi_n a, xi_n (a / 2 ^ b)]
  apply Int32.toInt_inj.mp
  have e : (nI a >>> (Int32.ofInt (b : Int) &&& 31)).toInt = (nI a).toInt >>> b := by
    conv => rhs; rw [← hk b hb]
    exact BitVec.toInt_sshiftRight ..
  rw [e, Int.shiftRight_eq_div_pow, hn a ha, hn _ (by omega)]
  rfl
/-- set & unlike & -unlike -/
def ahn (a b : Nat) : Nat := if a ^^^ b = 0 then 0 else xdf (a &&& (a ^^^ b)) ((a ^^^ b) - 1)
theorem xb_ahn {a b : Nat} (ha : a < 2 ^ 12) (hb : b < 2 ^ 12) : Int32.ofInt ((a &&& (a ^^^ b) : Nat) : Int) &&& Int32.ofInt (-((a ^^^ b : Nat) : Int)) = Int32.ofInt ((ahn a b : Nat) : Int) := by
  have hx : a ^^^ b < 2 ^ 12 := Nat.xor_lt_two_pow ha hb
  have h1 : a &&& (a ^^^ b) < 2 ^ 12 := Nat.and_lt_two_pow _ hx
  unfold ahn
  by_cases e : a ^^^ b = 0
  · rw [if_pos e, e]
    simp
  · rw [if_neg e, show -((a ^^^ b : Nat) : Int) = -(((a ^^^ b) - 1 : Nat) : Int) - 1 by omega]
    exact xb_dfI (by omega)
def wsm (hw : Nat → Int) (s : Nat) : Nat → Int
  | 0 => 0
  | k + 1 => wsm hw s k + (if s.testBit k = true then hw k else 0)
theorem wsm_cg {hw hw1 : Nat → Int} {s s1 : Nat} : ∀ k, (∀ j, j < k → hw j = hw1 j ∧ s.testBit j = s1.testBit j) → wsm hw s k = wsm hw1 s1 k := by
  intro k
  induction k with
  | zero => intro _; rfl
  | succ k ih =>
    intro h
    unfold wsm
    rw [ih (fun j hj => h j (by omega)), (h k (by omega)).1, (h k (by omega)).2]
theorem wsm_hi {hw : Nat → Int} {s i : Nat} (hs : s < 2 ^ i) : wsm hw s (i + 1) = wsm hw s i := by
  show wsm hw s i + _ = _
  rw [Nat.testBit_lt_two_pow hs, if_neg (by decide)]; omega
theorem wsm_add {hw : Nat → Int} {s i : Nat} (hs : s < 2 ^ i) : wsm hw (2 ^ i + s) (i + 1) = hw i + wsm hw s i := by
  show wsm hw (2 ^ i + s) i + _ = _
  have h1 : (2 ^ i + s).testBit i = true := by rw [Nat.testBit_two_pow_add_eq, Nat.testBit_lt_two_pow hs]; rfl
  rw [h1, if_pos rfl, wsm_cg (hw1 := hw) (s1 := s) i (fun j hj => ⟨rfl, Nat.testBit_two_pow_add_gt hj s⟩)]
  omega
def betb (sw : Nat → Int) (s b : Nat) : Bool := if sw s = sw b then (if cnt s 12 = cnt b 12 then decide (ahn s b ≠ 0) else decide (cnt s 12 < cnt b 12)) else decide (sw s < sw b)
def lps (ha : Nat → Nat) : Nat → Nat → Nat → Nat
  | 0, _, L => L
  | k + 1, i, L => lps ha k (i + 1) (if ha i &&& L = 0 then xdf L (2 ^ i) else L)
def lse (ha : Nat → Nat) (h : Nat) : Nat → Nat → Bool
  | 0, L => decide (L = 0)
  | m + 1, L => if L = 0 then true else if lps ha h 0 L = L then false else lse ha h m (lps ha h 0 L)
theorem lps_le (ha : Nat → Nat) : ∀ (k i L : Nat), lps ha k i L ≤ L := by
  intro k
  induction k with
  | zero => intro i L; exact Nat.le_refl _
  | succ k ih =>
    intro i L
    unfold lps
    have h1 := ih (i + 1) (if ha i &&& L = 0 then xdf L (2 ^ i) else L)
    have h2 : (if ha i &&& L = 0 then xdf L (2 ^ i) else L) ≤ L := by split; exact xdf_le _ _; exact Nat.le_refl _
    omega
abbrev oRm (w pl : Int) (h : Nat) : xE := Sum.inr (5, fX5 w pl (h : Int))
section C48
variable {g : xG} {Q : xP} {n : Nat} {f : xH}
set_option maxHeartbeats 4000000 in
theorem ct_weigh {w pl : Int} {h : Nat} {hw sw : Nat → Int} (h32 : f 32 = some (oRm w pl h)) (h34 : f 34 = some (aI 12 hw)) (h36 : f 36 = some (aI 4096 sw)) (hh : h ≤ 12)
    (hq : ∀ f1 sw1, fr [36] f f1 → f1 36 = some (aI 4096 sw1) → (∀ s, s < 2 ^ h → sw1 s = wsm hw s h) → Q (.inl none) n f1) : xct g M_X5_weighSets 0 0 [vR 32] n f Q := by
  refine xct_of rfl rfl (Nat.le_of_ble_eq_true rfl) ?_
  have I : ∀ (i : Nat), i < h → (∀ f2 sw2, fr [36] f f2 → f2 36 = some (aI 4096 sw2) → (∀ s, s < 2 ^ (i + 1) → sw2 s = wsm hw s (i + 1)) → xw g M_X5_weighSets Q 0 0 55 [(0, vR 32), (1, vI (i : Int))] [] n f2) →
      ∀ (m r : Nat) (f1 : xH) (sw1 : Nat → Int), r + m = 2 ^ i → fr [36] f f1 → f1 36 = some (aI 4096 sw1) → (∀ s, s < 2 ^ i + r → sw1 s = wsm hw s (i + 1)) → xw g M_X5_weighSets Q 0 0 23 [(0, vR 32), (1, vI (i : Int)), (2, vI ((2 ^ i : Nat) : Int)), (3, vI (r : Int))] [] n f1 := by
    intro i hi K m
    have p11 : (2 : Nat) ^ i ≤ 2 ^ 11 := xp2 (by omega)
    have e11 : (2 : Nat) ^ 11 = 2048 := by decide
    have pe : (2 : Nat) ^ (i + 1) = 2 ^ i + 2 ^ i := by rw [Nat.pow_succ]; omega
    induction m with
    | zero =>
      intro r f1 sw1 hr hf e36 hI
      refine xw_iload_n dX5_weighSets_23 rfl ?_
      refine xw_iload_n dX5_weighSets_24 rfl ?_
      refine xw_icmpge (tgt := 55) dX5_weighSets_25 (by decide) (by unfold inI; omega) (by unfold inI; omega) (fun c_25 => ?_) (fun c_25 => ?_)
      · skip
        exact xw_ls [(0, vR 32), (1, vI (i : Int))] ⟨rfl, rfl, trivial⟩ (K f1 sw1 hf e36 (fun s hs => hI s (by omega)))
      · skip
        exfalso; omega
    | succ m ih =>
      intro r f1 sw1 hr hf e36 hI
      have e32 : f1 32 = some (oRm w pl h) := fr_at hf h32 (by decide)
      have e34 : f1 34 = some (aI 12 hw) := fr_at hf h34 (by decide)
      refine xw_iload_n dX5_weighSets_23 rfl ?_
      refine xw_iload_n dX5_weighSets_24 rfl ?_
      refine xw_icmpge (tgt := 55) dX5_weighSets_25 (by decide) (by unfold inI; omega) (by unfold inI; omega) (fun c_25 => ?_) (fun c_25 => ?_)
      · skip
        exfalso; omega
      · skip
        refine xw_aload_n dX5_weighSets_28 rfl ?_
        refine xw_getfield dX5_weighSets_29 fl_X5_21 e32 rfl ?_
        refine xw_iload_n dX5_weighSets_32 rfl ?_
        refine xw_iload_n dX5_weighSets_33 rfl ?_
        refine xw_iadd dX5_weighSets_34 ?_
        refine xw_aload_n dX5_weighSets_35 rfl ?_
        refine xw_getfield dX5_weighSets_36 fl_X5_15 e32 rfl ?_
        refine xw_iload_n dX5_weighSets_39 rfl ?_
        refine xw_iald dX5_weighSets_40 e34 (j := i) rfl (by omega) (by decide) ?_
        refine xw_aload_n dX5_weighSets_41 rfl ?_
        refine xw_getfield dX5_weighSets_42 fl_X5_21 e32 rfl ?_
        refine xw_iload_n dX5_weighSets_45 rfl ?_
        refine xw_iald dX5_weighSets_46 e36 (j := r) rfl (by omega) (by decide) ?_
        refine xw_iadd dX5_weighSets_47 ?_
        refine xw_iast dX5_weighSets_48 e36 (j := 2 ^ i + r) rfl (by omega) (by decide) ?_
        refine xw_iinc dX5_weighSets_49 rfl (by decide) ?_
        refine xw_goto (tgt := 23) dX5_weighSets_52 (by decide) ?_
        exact xw_ls [(0, vR 32), (1, vI (i : Int)), (2, vI ((2 ^ i : Nat) : Int)), (3, vI ((r + 1 : Nat) : Int))] ⟨rfl, rfl, rfl, rfl, trivial⟩ (ih (r + 1) _ (xui sw1 (2 ^ i + r) (hw i + sw1 r)) (by omega) (fr_up hf (by decide)) (xup_s _ _ _) (fun s hs => by
            by_cases e : s = 2 ^ i + r
            · subst e; rw [xui_s, wsm_add (by omega), hI r (by omega), wsm_hi (by omega)]
            · rw [xui_n _ _ e]; exact hI s (by omega)))
  have O : ∀ (m i : Nat) (f1 : xH) (sw1 : Nat → Int), i + m = h → fr [36] f f1 → f1 36 = some (aI 4096 sw1) → (∀ s, s < 2 ^ i → sw1 s = wsm hw s i) → xw g M_X5_weighSets Q 0 0 9 [(0, vR 32), (1, vI (i : Int))] [] n f1 := by
    intro m
    induction m with
    | zero =>
      intro i f1 sw1 hi hf e36 hI
      have e32 : f1 32 = some (oRm w pl h) := fr_at hf h32 (by decide)
      refine xw_iload_n dX5_weighSets_9 rfl ?_
      refine xw_aload_n dX5_weighSets_10 rfl ?_
      refine xw_getfield dX5_weighSets_11 fl_X5_54 e32 rfl ?_
      refine xw_icmpge (tgt := 61) dX5_weighSets_14 (by decide) (by unfold inI; omega) (by unfold inI; omega) (fun c_14 => ?_) (fun c_14 => ?_)
      · skip
        exact xw_vret dX5_weighSets_61 rfl (hq f1 sw1 hf e36 (by rw [show i = h by omega] at hI; exact hI))
      · skip
        exfalso; omega
    | succ m ih =>
      intro i f1 sw1 hi hf e36 hI
      have e32 : f1 32 = some (oRm w pl h) := fr_at hf h32 (by decide)
      have K : ∀ f2 sw2, fr [36] f f2 → f2 36 = some (aI 4096 sw2) → (∀ s, s < 2 ^ (i + 1) → sw2 s = wsm hw s (i + 1)) → xw g M_X5_weighSets Q 0 0 55 [(0, vR 32), (1, vI (i : Int))] [] n f2 := by
        intro f2 sw2 hf2 e362 hI2
        refine xw_iinc dX5_weighSets_55 rfl (by decide) ?_
        refine xw_goto (tgt := 9) dX5_weighSets_58 (by decide) ?_
        exact xw_ls [(0, vR 32), (1, vI ((i + 1 : Nat) : Int))] ⟨rfl, rfl, trivial⟩ (ih (i + 1) f2 sw2 (by omega) hf2 e362 hI2)
      refine xw_iload_n dX5_weighSets_9 rfl ?_
      refine xw_aload_n dX5_weighSets_10 rfl ?_
      refine xw_getfield dX5_weighSets_11 fl_X5_54 e32 rfl ?_
      refine xw_icmpge (tgt := 61) dX5_weighSets_14 (by decide) (by unfold inI; omega) (by unfold inI; omega) (fun c_14 => ?_) (fun c_14 => ?_)
      · skip
        exfalso; omega
      · skip
        refine xw_iconst dX5_weighSets_17 ?_
        refine xw_iload_n dX5_weighSets_18 rfl ?_
        refine xw_ishl dX5_weighSets_19 (xb_shlI i (by omega)) ?_
        refine xw_istore_n dX5_weighSets_20 (by decide) ?_
        refine xw_iconst dX5_weighSets_21 ?_
        refine xw_istore_n dX5_weighSets_22 (by decide) ?_
        exact xw_ls [(0, vR 32), (1, vI (i : Int)), (2, vI ((2 ^ i : Nat) : Int)), (3, vI ((0 : Nat) : Int))] ⟨rfl, rfl, rfl, rfl, trivial⟩ (I i (by omega) K (2 ^ i) 0 f1 sw1 (by omega) hf e36 (fun s hs => by rw [wsm_hi (by omega)]; exact hI s (by omega)))
  refine xw_aload_n dX5_weighSets_0 rfl ?_
  refine xw_getfield dX5_weighSets_1 fl_X5_21 h32 rfl ?_
  refine xw_iconst dX5_weighSets_4 ?_
  refine xw_iconst dX5_weighSets_5 ?_
  refine xw_iast dX5_weighSets_6 h36 (j := 0) rfl (by decide) (by decide) ?_
  refine xw_iconst dX5_weighSets_7 ?_
  refine xw_istore_n dX5_weighSets_8 (by decide) ?_
  exact xw_ls [(0, vR 32), (1, vI ((0 : Nat) : Int))] ⟨rfl, rfl, trivial⟩ (O h 0 _ (xui sw 0 0) (by omega) (fr_up (fr_rf _ _) (by decide)) (xup_s _ _ _) (fun s hs => by have e9 : s = 0 := (by simpa using hs); rw [e9, xui_s]; rfl))
set_option maxHeartbeats 4000000 in
theorem ct_isBetter {w pl : Int} {h s b : Nat} {sw : Nat → Int} (h32 : f 32 = some (oRm w pl h)) (h36 : f 36 = some (aI 4096 sw)) (hs : s < 2 ^ 12) (hb : b < 2 ^ 12) (hi : inI (sw s) ∧ inI (sw b)) (h1 : betb sw s b = true → Q (.inl (some (vI 1))) n f) (h0 : betb sw s b = false → Q (.inl (some (vI 0))) n f) : xct g M_X5_isBetter 0 0 [vR 32, vI (s : Int), vI (b : Int)] n f Q := by
  refine xct_of rfl rfl (Nat.le_of_ble_eq_true rfl) ?_
  have hs2 : s < 4096 := hs
  have hb2 : b < 4096 := hb
  have hx : s ^^^ b < 2 ^ 12 := Nat.xor_lt_two_pow hs hb
  have ha := cnt_le s 12
  have hc := cnt_le b 12
  have hah : ahn s b < 4096 := by
    unfold ahn
    split
    · decide
    · exact Nat.lt_of_le_of_lt (xdf_le _ _) (Nat.and_lt_two_pow _ hx)
  unfold betb at h1 h0
  refine xw_aload_n dX5_isBetter_0 rfl ?_
  refine xw_getfield dX5_isBetter_1 fl_X5_21 h32 rfl ?_
  refine xw_iload_n dX5_isBetter_4 rfl ?_
  refine xw_iald dX5_isBetter_5 h36 (j := s) rfl hs2 (by decide) ?_
  refine xw_aload_n dX5_isBetter_6 rfl ?_
  refine xw_getfield dX5_isBetter_7 fl_X5_21 h32 rfl ?_
  refine xw_iload_n dX5_isBetter_10 rfl ?_
  refine xw_iald dX5_isBetter_11 h36 (j := b) rfl hb2 (by decide) ?_
  refine xw_icmpeq (tgt := 36) dX5_isBetter_12 (by decide) hi.1 hi.2 (fun c_12 => ?_) (fun c_12 => ?_)
  · skip
    refine xw_iload_n dX5_isBetter_36 rfl ?_
    refine xw_callS (rc := 0) (rs := 0) (mc2 := 0) (ms2 := 0) (As := [vI (s : Int)]) (st := []) dX5_isBetter_37 ms_X5_81 rfl (by decide) (by decide) (Nat.le_of_ble_eq_true rfl) rfl (ct_bitI hs ?_)
    refine xw_iload_n dX5_isBetter_40 rfl ?_
    refine xw_callS (rc := 0) (rs := 0) (mc2 := 0) (ms2 := 0) (As := [vI (b : Int)]) (st := [vI ((cnt s 12 : Nat) : Int)]) dX5_isBetter_41 ms_X5_81 rfl (by decide) (by decide) (Nat.le_of_ble_eq_true rfl) rfl (ct_bitI hb ?_)
    refine xw_isub dX5_isBetter_44 ?_
    refine xw_istore_n dX5_isBetter_45 (by decide) ?_
    refine xw_iload_n dX5_isBetter_46 rfl ?_
    refine xw_ifeq (tgt := 60) dX5_isBetter_47 (by decide) (by unfold inI; omega) (fun c_47 => ?_) (fun c_47 => ?_)
    · skip
      refine xw_iload_n dX5_isBetter_60 rfl ?_
      refine xw_iload_n dX5_isBetter_61 rfl ?_
      refine xw_ixor dX5_isBetter_62 (xb_xorI (by omega) (by omega)) ?_
      refine xw_istore dX5_isBetter_63 (by decide) ?_
      refine xw_iload_n dX5_isBetter_65 rfl ?_
      refine xw_iload dX5_isBetter_66 rfl ?_
      refine xw_iand dX5_isBetter_68 (xb_andI (by omega) (by omega)) ?_
      refine xw_iload dX5_isBetter_69 rfl ?_
      refine xw_ineg dX5_isBetter_71 ?_
      refine xw_iand dX5_isBetter_72 (xb_ahn hs hb) ?_
      refine xw_ifeq (tgt := 80) dX5_isBetter_73 (by decide) (by unfold inI; omega) (fun c_73 => ?_) (fun c_73 => ?_)
      · skip
        refine xw_iconst dX5_isBetter_80 ?_
        exact xw_zret dX5_isBetter_81 rfl rfl (by first | exact h0 (by rw [if_pos c_12, if_pos (by omega)]; exact decide_eq_false (by omega)) | exact h1 (by rw [if_pos c_12, if_pos (by omega)]; exact decide_eq_true (by omega)))
      · skip
        refine xw_iconst dX5_isBetter_76 ?_
        refine xw_goto (tgt := 81) dX5_isBetter_77 (by decide) ?_
        exact xw_zret dX5_isBetter_81 rfl rfl (by first | exact h0 (by rw [if_pos c_12, if_pos (by omega)]; exact decide_eq_false (by omega)) | exact h1 (by rw [if_pos c_12, if_pos (by omega)]; exact decide_eq_true (by omega)))
    · skip
      refine xw_iload_n dX5_isBetter_50 rfl ?_
      refine xw_ifge (tgt := 58) dX5_isBetter_51 (by decide) (by unfold inI; omega) (fun c_51 => ?_) (fun c_51 => ?_)
      · skip
        refine xw_iconst dX5_isBetter_58 ?_
        exact xw_zret dX5_isBetter_59 rfl rfl (by first | exact h0 (by rw [if_pos c_12, if_neg (by omega)]; exact decide_eq_false (by omega)) | exact h1 (by rw [if_pos c_12, if_neg (by omega)]; exact decide_eq_true (by omega)))
      · skip
        refine xw_iconst dX5_isBetter_54 ?_
        refine xw_goto (tgt := 59) dX5_isBetter_55 (by decide) ?_
        exact xw_zret dX5_isBetter_59 rfl rfl (by first | exact h0 (by rw [if_pos c_12, if_neg (by omega)]; exact decide_eq_false (by omega)) | exact h1 (by rw [if_pos c_12, if_neg (by omega)]; exact decide_eq_true (by omega)))
  · skip
    refine xw_aload_n dX5_isBetter_15 rfl ?_
    refine xw_getfield dX5_isBetter_16 fl_X5_21 h32 rfl ?_
    refine xw_iload_n dX5_isBetter_19 rfl ?_
    refine xw_iald dX5_isBetter_20 h36 (j := s) rfl hs2 (by decide) ?_
    refine xw_aload_n dX5_isBetter_21 rfl ?_
    refine xw_getfield dX5_isBetter_22 fl_X5_21 h32 rfl ?_
    refine xw_iload_n dX5_isBetter_25 rfl ?_
    refine xw_iald dX5_isBetter_26 h36 (j := b) rfl hb2 (by decide) ?_
    refine xw_icmpge (tgt := 34) dX5_isBetter_27 (by decide) hi.1 hi.2 (fun c_27 => ?_) (fun c_27 => ?_)
    · skip
      refine xw_iconst dX5_isBetter_34 ?_
      exact xw_zret dX5_isBetter_35 rfl rfl (by first | exact h0 (by rw [if_neg c_12]; exact decide_eq_false (by omega)) | exact h1 (by rw [if_neg c_12]; exact decide_eq_true (by omega)))
    · skip
      refine xw_iconst dX5_isBetter_30 ?_
      refine xw_goto (tgt := 35) dX5_isBetter_31 (by decide) ?_
      exact xw_zret dX5_isBetter_35 rfl rfl (by first | exact h0 (by rw [if_neg c_12]; exact decide_eq_false (by omega)) | exact h1 (by rw [if_neg c_12]; exact decide_eq_true (by omega)))
set_option maxHeartbeats 4000000 in
theorem ct_isLoose {w pl : Int} {h L0 : Nat} {ha : Nat → Nat} (h32 : f 32 = some (oRm w pl h)) (h35 : f 35 = some (aN 12 ha)) (hh : h ≤ 12) (hL : L0 < 2 ^ 12) (hha : ∀ j, j < h → ha j < 2 ^ 12) (h1 : lse ha h h L0 = true → Q (.inl (some (vI 1))) n f) (h0 : lse ha h h L0 = false → Q (.inl (some (vI 0))) n f) : xct g M_X5_isLoose 0 0 [vR 32, vI (L0 : Int)] n f Q := by
  refine xct_of rfl rfl (Nat.le_of_ble_eq_true rfl) ?_
  have I : ∀ (t B R : Nat), (xw g M_X5_isLoose Q 0 0 55 [(0, vR 32), (1, vI (R : Int)), (2, vI (t : Int)), (3, vI (B : Int))] [] n f) → ∀ (m i L : Nat), i + m = h → L < 4096 → lps ha m i L = R → xw g M_X5_isLoose Q 0 0 19 [(0, vR 32), (1, vI (L : Int)), (2, vI (t : Int)), (3, vI (B : Int)), (4, vI (i : Int))] [] n f := by
    intro t B R K m
    induction m with
    | zero =>
      intro i L hi hL he
      refine xw_iload dX5_isLoose_19 rfl ?_
      refine xw_aload_n dX5_isLoose_21 rfl ?_
      refine xw_getfield dX5_isLoose_22 fl_X5_54 h32 rfl ?_
      refine xw_icmpge (tgt := 55) dX5_isLoose_25 (by decide) (by unfold inI; omega) (by unfold inI; omega) (fun c_25 => ?_) (fun c_25 => ?_)
      · skip
        exact xw_ls [(0, vR 32), (1, vI (L : Int)), (2, vI (t : Int)), (3, vI (B : Int))] ⟨rfl, rfl, rfl, rfl, trivial⟩ (by rw [show L = R from he]; exact K)
      · skip
        exfalso; omega
    | succ m ih =>
      intro i L hi hL he
      unfold lps at he
      have hha2 : ha i < 4096 := hha i (by omega)
      have hal : ha i &&& L < 2 ^ 12 := Nat.and_lt_two_pow _ hL
      have hal2 : ha i &&& L < 4096 := hal
      have hdl := xdf_le L (2 ^ i)
      refine xw_iload dX5_isLoose_19 rfl ?_
      refine xw_aload_n dX5_isLoose_21 rfl ?_
      refine xw_getfield dX5_isLoose_22 fl_X5_54 h32 rfl ?_
      refine xw_icmpge (tgt := 55) dX5_isLoose_25 (by decide) (by unfold inI; omega) (by unfold inI; omega) (fun c_25 => ?_) (fun c_25 => ?_)
      · skip
        exfalso; omega
      · skip
        refine xw_aload_n dX5_isLoose_28 rfl ?_
        refine xw_getfield dX5_isLoose_29 fl_X5_18 h32 rfl ?_
        refine xw_iload dX5_isLoose_32 rfl ?_
        refine xw_iald dX5_isLoose_34 h35 (j := i) rfl (by omega) (by decide) ?_
        refine xw_iload_n dX5_isLoose_35 rfl ?_
        refine xw_iand dX5_isLoose_36 (xb_andI (by omega) (by omega)) ?_
        refine xw_ifne (tgt := 49) dX5_isLoose_37 (by decide) (by unfold inI; omega) (fun c_37 => ?_) (fun c_37 => ?_)
        · skip
          refine xw_iinc dX5_isLoose_49 rfl (by decide) ?_
          refine xw_goto (tgt := 19) dX5_isLoose_52 (by decide) ?_
          first
            | (rw [if_neg (by omega)] at he; exact xw_ls [(0, vR 32), (1, vI (L : Int)), (2, vI (t : Int)), (3, vI (B : Int)), (4, vI ((i + 1 : Nat) : Int))] ⟨rfl, rfl, rfl, rfl, rfl, trivial⟩ (ih (i + 1) L (by omega) hL he))
            | (rw [if_pos (by omega)] at he; exact xw_ls [(0, vR 32), (1, vI ((xdf L (2 ^ i) : Nat) : Int)), (2, vI (t : Int)), (3, vI (B : Int)), (4, vI ((i + 1 : Nat) : Int))] ⟨rfl, rfl, rfl, rfl, rfl, trivial⟩ (ih (i + 1) (xdf L (2 ^ i)) (by omega) (by omega) he))
        · skip
          refine xw_iload_n dX5_isLoose_40 rfl ?_
          refine xw_iconst dX5_isLoose_41 ?_
          refine xw_iload dX5_isLoose_42 rfl ?_
          refine xw_ishl dX5_isLoose_44 (xb_shlI i (by omega)) ?_
          refine xw_iconst dX5_isLoose_45 ?_
          refine xw_ixor dX5_isLoose_46 (xb_notI (2 ^ i)) ?_
          refine xw_iand dX5_isLoose_47 (xb_dfI (by omega)) ?_
          refine xw_istore_n dX5_isLoose_48 (by decide) ?_
          refine xw_iinc dX5_isLoose_49 rfl (by decide) ?_
          refine xw_goto (tgt := 19) dX5_isLoose_52 (by decide) ?_
          first
            | (rw [if_neg (by omega)] at he; exact xw_ls [(0, vR 32), (1, vI (L : Int)), (2, vI (t : Int)), (3, vI (B : Int)), (4, vI ((i + 1 : Nat) : Int))] ⟨rfl, rfl, rfl, rfl, rfl, trivial⟩ (ih (i + 1) L (by omega) hL he))
            | (rw [if_pos (by omega)] at he; exact xw_ls [(0, vR 32), (1, vI ((xdf L (2 ^ i) : Nat) : Int)), (2, vI (t : Int)), (3, vI (B : Int)), (4, vI ((i + 1 : Nat) : Int))] ⟨rfl, rfl, rfl, rfl, rfl, trivial⟩ (ih (i + 1) (xdf L (2 ^ i)) (by omega) (by omega) he))
  have O : ∀ (m t L : Nat), t + m = h → L < 4096 → lse ha h m L = lse ha h h L0 → xw g M_X5_isLoose Q 0 0 2 [(0, vR 32), (1, vI (L : Int)), (2, vI (t : Int))] [] n f := by
    intro m
    generalize lse ha h h L0 = R at *
    induction m with
    | zero =>
      intro t L ht hL he
      unfold lse at he
      refine xw_iload_n dX5_isLoose_2 rfl ?_
      refine xw_aload_n dX5_isLoose_3 rfl ?_
      refine xw_getfield dX5_isLoose_4 fl_X5_54 h32 rfl ?_
      refine xw_icmpge (tgt := 68) dX5_isLoose_7 (by decide) (by unfold inI; omega) (by unfold inI; omega) (fun c_7 => ?_) (fun c_7 => ?_)
      · skip
        refine xw_iload_n dX5_isLoose_68 rfl ?_
        refine xw_ifne (tgt := 76) dX5_isLoose_69 (by decide) (by unfold inI; omega) (fun c_69 => ?_) (fun c_69 => ?_)
        · skip
          refine xw_iconst dX5_isLoose_76 ?_
          exact xw_zret dX5_isLoose_77 rfl rfl (by first | exact h0 (by rw [← he]; exact decide_eq_false (by omega)) | exact h1 (by rw [← he]; exact decide_eq_true (by omega)))
        · skip
          refine xw_iconst dX5_isLoose_72 ?_
          refine xw_goto (tgt := 77) dX5_isLoose_73 (by decide) ?_
          exact xw_zret dX5_isLoose_77 rfl rfl (by first | exact h0 (by rw [← he]; exact decide_eq_false (by omega)) | exact h1 (by rw [← he]; exact decide_eq_true (by omega)))
      · skip
        exfalso; omega
    | succ m ih =>
      intro t L ht hL he
      unfold lse at he
      have hle := lps_le ha h 0 L
      have K : ¬ L = 0 → xw g M_X5_isLoose Q 0 0 55 [(0, vR 32), (1, vI ((lps ha h 0 L : Nat) : Int)), (2, vI (t : Int)), (3, vI (L : Int))] [] n f := by
        intro hne
        rw [if_neg hne] at he
        refine xw_iload_n dX5_isLoose_55 rfl ?_
        refine xw_iload_n dX5_isLoose_56 rfl ?_
        refine xw_icmpne (tgt := 62) dX5_isLoose_57 (by decide) (by unfold inI; omega) (by unfold inI; omega) (fun c_57 => ?_) (fun c_57 => ?_)
        · skip
          refine xw_iinc dX5_isLoose_62 rfl (by decide) ?_
          refine xw_goto (tgt := 2) dX5_isLoose_65 (by decide) ?_
          exact xw_ls [(0, vR 32), (1, vI ((lps ha h 0 L : Nat) : Int)), (2, vI ((t + 1 : Nat) : Int))] ⟨rfl, rfl, rfl, trivial⟩ (ih (t + 1) (lps ha h 0 L) (by omega) (by omega) (by rw [if_neg (by omega)] at he; exact he))
        · skip
          refine xw_iconst dX5_isLoose_60 ?_
          exact xw_zret dX5_isLoose_61 rfl rfl (h0 (by rw [if_pos (by omega)] at he; exact he.symm))
      refine xw_iload_n dX5_isLoose_2 rfl ?_
      refine xw_aload_n dX5_isLoose_3 rfl ?_
      refine xw_getfield dX5_isLoose_4 fl_X5_54 h32 rfl ?_
      refine xw_icmpge (tgt := 68) dX5_isLoose_7 (by decide) (by unfold inI; omega) (by unfold inI; omega) (fun c_7 => ?_) (fun c_7 => ?_)
      · skip
        exfalso; omega
      · skip
        refine xw_iload_n dX5_isLoose_10 rfl ?_
        refine xw_ifeq (tgt := 68) dX5_isLoose_11 (by decide) (by unfold inI; omega) (fun c_11 => ?_) (fun c_11 => ?_)
        · skip
          rw [if_pos (by omega)] at he
          refine xw_ls [(1, vI (L : Int))] ⟨rfl, trivial⟩ ?_
          refine xw_iload_n dX5_isLoose_68 rfl ?_
          refine xw_ifne (tgt := 76) dX5_isLoose_69 (by decide) (by unfold inI; omega) (fun c => absurd c_11 c) (fun _ => ?_)
          refine xw_iconst dX5_isLoose_72 ?_
          refine xw_goto (tgt := 77) dX5_isLoose_73 (by decide) ?_
          exact xw_zret dX5_isLoose_77 rfl rfl (h1 he.symm)
        · skip
          refine xw_iload_n dX5_isLoose_14 rfl ?_
          refine xw_istore_n dX5_isLoose_15 (by decide) ?_
          refine xw_iconst dX5_isLoose_16 ?_
          refine xw_istore dX5_isLoose_17 (by decide) ?_
          exact xw_ls [(0, vR 32), (1, vI (L : Int)), (2, vI (t : Int)), (3, vI (L : Int)), (4, vI ((0 : Nat) : Int))] ⟨rfl, rfl, rfl, rfl, rfl, trivial⟩ (I t L (lps ha h 0 L) (K (by omega)) h 0 L (by omega) hL rfl)
  refine xw_iconst dX5_isLoose_0 ?_
  refine xw_istore_n dX5_isLoose_1 (by decide) ?_
  exact xw_ls [(0, vR 32), (1, vI (L0 : Int)), (2, vI ((0 : Nat) : Int))] ⟨rfl, rfl, rfl, trivial⟩ (O h 0 L0 (by omega) hL rfl)
end C48
