/-! the tangle: small looks -/
abbrev oTg (sz : Nat) (ls kc : Int) : xE := Sum.inr (8, fX8 (sz : Int) ls kc)
abbrev aS (N : Nat) (s : Nat → Nat) : xE := aL N (fun j => ((s j : Nat) : Int))
abbrev aN (N : Nat) (s : Nat → Nat) : xE := aI N (fun j => ((s j : Nat) : Int))
theorem xui_cast (s : Nat → Nat) (b x : Nat) : xui (fun j => ((s j : Nat) : Int)) b (x : Int) = fun j => ((xui s b x j : Nat) : Int) := by
  funext j; unfold xui; split <;> rfl
/-- the first of the k places from a on that holds z, or -1 -/
def xidx (c : Nat → Int) (z : Int) : Nat → Nat → Int
  | _, 0 => -1
  | a, k + 1 => if c a = z then (a : Int) else xidx c z (a + 1) k
theorem xidx_in (c : Nat → Int) (z : Int) : ∀ (k a : Nat), xidx c z a k = -1 ∧ (∀ p, a ≤ p → p < a + k → c p ≠ z) ∨ ∃ p : Nat, a ≤ p ∧ p < a + k ∧ xidx c z a k = (p : Int) ∧ c p = z := by
  intro k
  induction k with
  | zero => intro a; exact Or.inl ⟨rfl, fun p h1 h2 => by omega⟩
  | succ k ih =>
    intro a
    unfold xidx
    by_cases h : c a = z
    · rw [if_pos h]; exact Or.inr ⟨a, by omega, by omega, rfl, h⟩
    · rw [if_neg h]
      rcases ih (a + 1) with ⟨h1, h2⟩ | ⟨p, h1, h2, h3, h4⟩
      · refine Or.inl ⟨h1, fun p q1 q2 => ?_⟩
        by_cases e : p = a
        · rw [e]; exact h
        · exact h2 p (by omega) (by omega)
      · exact Or.inr ⟨p, by omega, by omega, h3, h4⟩
def xnum (c : Nat → Int) (sz : Nat) (z : Int) : Int := if 0 ≤ z ∧ z < (sz : Int) then c z.toNat else -1
def abv (av : Nat → Nat) (sz : Nat) (a b : Int) : Prop := (0 ≤ a ∧ a < (sz : Int)) ∧ (0 ≤ b ∧ b < (sz : Int)) ∧ (av b.toNat).testBit a.toNat = true
theorem xtn {z : Int} (h : 0 ≤ z) : z = ((z.toNat : Nat) : Int) := by omega
section C41
variable {g : xG} {Q : xP} {n : Nat} {f : xH}
theorem ct_clear {sz : Nat} {ls kc : Int} (h22 : f 22 = some (oTg sz ls kc)) (hq : Q (.inl none) n (xup f 22 (oTg 0 ls kc))) : xct g M_X8_clear 0 0 [vR 22] n f Q := by
  refine xct_of rfl rfl (Nat.le_of_ble_eq_true rfl) ?_
  refine xw_aload_n dX8_clear_0 rfl ?_
  refine xw_iconst dX8_clear_1 ?_
  refine xw_putfield dX8_clear_2 (fp_X8_40 _) h22 rfl rfl ?_
  rw [fX8_0]
  exact xw_vret dX8_clear_5 rfl hq
theorem ct_every {sz : Nat} {ls kc : Int} (h22 : f 22 = some (oTg sz ls kc)) (hsz : sz ≤ 40) (hq : Q (.inl (some (vL ((2 ^ sz - 1 : Nat) : Int)))) n f) : xct g M_X8_everyPlace 0 0 [vR 22] n f Q := by
  refine xct_of rfl rfl (Nat.le_of_ble_eq_true rfl) ?_
  have e : ((2 ^ sz : Nat) : Int) - 1 = ((2 ^ sz - 1 : Nat) : Int) := by have := Nat.one_le_two_pow (n := sz); omega
  refine xw_lconst (z := 1) dX8_everyPlace_0 (by decide) ?_
  refine xw_aload_n dX8_everyPlace_1 rfl ?_
  refine xw_getfield dX8_everyPlace_2 fl_X8_40 h22 rfl ?_
  refine xw_lshl dX8_everyPlace_5 (xb_shl (by omega)) ?_
  refine xw_lconst (z := 1) dX8_everyPlace_6 (by decide) ?_
  refine xw_lsub dX8_everyPlace_7 ?_
  refine xw_topl _ e ?_
  exact xw_lret dX8_everyPlace_8 rfl hq
theorem ct_isPlace {sz : Nat} {ls kc z : Int} (h22 : f 22 = some (oTg sz ls kc)) (hsz : sz ≤ 40) (hz : inI z) (h1 : (0 ≤ z ∧ z < (sz : Int)) → Q (.inl (some (vI 1))) n f) (h0 : ¬ (0 ≤ z ∧ z < (sz : Int)) → Q (.inl (some (vI 0))) n f) : xct g M_X8_isPlace 0 0 [vR 22, vI z] n f Q := by
  refine xct_of rfl rfl (Nat.le_of_ble_eq_true rfl) ?_
  refine xw_iload_n dX8_isPlace_0 rfl ?_
  refine xw_iflt (tgt := 16) dX8_isPlace_1 (by decide) hz (fun c_1 => ?_) (fun c_1 => ?_)
  · skip
    refine xw_iconst dX8_isPlace_16 ?_
    exact xw_zret dX8_isPlace_17 rfl rfl (by first | exact h0 (by omega) | exact h1 (by omega))
  · skip
    refine xw_iload_n dX8_isPlace_4 rfl ?_
    refine xw_aload_n dX8_isPlace_5 rfl ?_
    refine xw_getfield dX8_isPlace_6 fl_X8_40 h22 rfl ?_
    refine xw_icmpge (tgt := 16) dX8_isPlace_9 (by decide) hz (by unfold inI; omega) (fun c_9 => ?_) (fun c_9 => ?_)
    · skip
      refine xw_iconst dX8_isPlace_16 ?_
      exact xw_zret dX8_isPlace_17 rfl rfl (by first | exact h0 (by omega) | exact h1 (by omega))
    · skip
      refine xw_iconst dX8_isPlace_12 ?_
      refine xw_goto (tgt := 17) dX8_isPlace_13 (by decide) ?_
      exact xw_zret dX8_isPlace_17 rfl rfl (by first | exact h0 (by omega) | exact h1 (by omega))
theorem ct_numberAt {sz : Nat} {ls kc z : Int} {c : Nat → Int} (h22 : f 22 = some (oTg sz ls kc)) (h23 : f 23 = some (aI 40 c)) (hsz : sz ≤ 40) (hz : inI z) (hq : Q (.inl (some (vI (xnum c sz z)))) n f) : xct g M_X8_numberAt 0 0 [vR 22, vI z] n f Q := by
  refine xct_of rfl rfl (Nat.le_of_ble_eq_true rfl) ?_
  unfold xnum at hq
  refine xw_aload_n dX8_numberAt_0 rfl ?_
  refine xw_iload_n dX8_numberAt_1 rfl ?_
  refine xw_callV (rc := 0) (rs := 0) (mc2 := 0) (ms2 := 0) (a := 22) (As := [vI z]) (st := []) dX8_numberAt_2 mv_X8_44 h22 rfl rfl (by decide) (by decide) (Nat.le_of_ble_eq_true rfl) rfl (ct_isPlace h22 hsz hz (fun h_2 => ?_) (fun h_2 => ?_))
  · skip
    refine xw_ifeq (tgt := 17) dX8_numberAt_5 (by decide) (by unfold inI; omega) (fun c => absurd c (by decide)) (fun _ => ?_)
    refine xw_aload_n dX8_numberAt_8 rfl ?_
    refine xw_getfield dX8_numberAt_9 fl_X8_9 h22 rfl ?_
    refine xw_iload_n dX8_numberAt_12 rfl ?_
    refine xw_iald dX8_numberAt_13 h23 (j := z.toNat) (xtn h_2.1) (by omega) (by decide) ?_
    refine xw_goto (tgt := 18) dX8_numberAt_14 (by decide) ?_
    exact xw_iret dX8_numberAt_18 rfl (by first | (rw [if_pos h_2] at hq; exact hq) | (rw [if_neg h_2] at hq; exact hq))
  · skip
    refine xw_ifeq (tgt := 17) dX8_numberAt_5 (by decide) (by unfold inI; omega) (fun _ => ?_) (fun c => absurd c (by decide))
    refine xw_iconst dX8_numberAt_17 ?_
    exact xw_iret dX8_numberAt_18 rfl (by first | (rw [if_pos h_2] at hq; exact hq) | (rw [if_neg h_2] at hq; exact hq))
set_option maxHeartbeats 4000000 in
theorem ct_placeOf {sz : Nat} {ls kc z : Int} {c : Nat → Int} (h22 : f 22 = some (oTg sz ls kc)) (h23 : f 23 = some (aI 40 c)) (hsz : sz ≤ 40) (hz : inI z) (hc : ∀ j, j < sz → inI (c j)) (hq : Q (.inl (some (vI (xidx c z 0 sz)))) n f) : xct g M_X8_placeOf 0 0 [vR 22, vI z] n f Q := by
  refine xct_of rfl rfl (Nat.le_of_ble_eq_true rfl) ?_
  have L : ∀ (m i : Nat), i + m = sz → Q (.inl (some (vI (xidx c z i m)))) n f → xw g M_X8_placeOf Q 0 0 2 [(0, vR 22), (1, vI z), (2, vI (i : Int))] [] n f := by
    intro m
    induction m with
    | zero =>
      intro i hi hq
      refine xw_iload_n dX8_placeOf_2 rfl ?_
      refine xw_aload_n dX8_placeOf_3 rfl ?_
      refine xw_getfield dX8_placeOf_4 fl_X8_40 h22 rfl ?_
      refine xw_icmpge (tgt := 28) dX8_placeOf_7 (by decide) (by unfold inI; omega) (by unfold inI; omega) (fun c_7 => ?_) (fun c_7 => ?_)
      · skip
        refine xw_iconst dX8_placeOf_28 ?_
        exact xw_iret dX8_placeOf_29 rfl hq
      · skip
        exfalso; omega
    | succ m ih =>
      intro i hi hq
      unfold xidx at hq
      refine xw_iload_n dX8_placeOf_2 rfl ?_
      refine xw_aload_n dX8_placeOf_3 rfl ?_
      refine xw_getfield dX8_placeOf_4 fl_X8_40 h22 rfl ?_
      refine xw_icmpge (tgt := 28) dX8_placeOf_7 (by decide) (by unfold inI; omega) (by unfold inI; omega) (fun c_7 => ?_) (fun c_7 => ?_)
      · skip
        exfalso; omega
      · skip
        refine xw_aload_n dX8_placeOf_10 rfl ?_
        refine xw_getfield dX8_placeOf_11 fl_X8_9 h22 rfl ?_
        refine xw_iload_n dX8_placeOf_14 rfl ?_
        refine xw_iald dX8_placeOf_15 h23 rfl (by omega) (by decide) ?_
        refine xw_iload_n dX8_placeOf_16 rfl ?_
        refine xw_icmpne (tgt := 22) dX8_placeOf_17 (by decide) (hc i (by omega)) hz (fun c_17 => ?_) (fun c_17 => ?_)
        · skip
          refine xw_iinc dX8_placeOf_22 rfl (by decide) ?_
          refine xw_goto (tgt := 2) dX8_placeOf_25 (by decide) ?_
          exact xw_ls [(0, vR 22), (1, vI z), (2, vI ((i + 1 : Nat) : Int))] ⟨rfl, rfl, rfl, trivial⟩ (ih (i + 1) (by omega) (by rw [if_neg c_17] at hq; exact hq))
        · skip
          refine xw_iload_n dX8_placeOf_20 rfl ?_
          exact xw_iret dX8_placeOf_21 rfl (by rw [if_pos c_17] at hq; exact hq)
  refine xw_iconst dX8_placeOf_0 ?_
  refine xw_istore_n dX8_placeOf_1 (by decide) ?_
  exact xw_ls [(0, vR 22), (1, vI z), (2, vI ((0 : Nat) : Int))] ⟨rfl, rfl, rfl, trivial⟩ (L sz 0 (by omega) hq)
set_option maxHeartbeats 4000000 in
theorem ct_isAbove {sz : Nat} {ls kc a b : Int} {av : Nat → Nat} (h22 : f 22 = some (oTg sz ls kc)) (h25 : f 25 = some (aS 40 av)) (hsz : sz ≤ 40) (ha : inI a) (hb : inI b) (hav : ∀ j, j < sz → av j < 2 ^ 40) (h1 : abv av sz a b → Q (.inl (some (vI 1))) n f) (h0 : ¬ abv av sz a b → Q (.inl (some (vI 0))) n f) : xct g M_X8_isAbove 0 0 [vR 22, vI a, vI b] n f Q := by
  refine xct_of rfl rfl (Nat.le_of_ble_eq_true rfl) ?_
  refine xw_aload_n dX8_isAbove_0 rfl ?_
  refine xw_iload_n dX8_isAbove_1 rfl ?_
  refine xw_callV (rc := 0) (rs := 0) (mc2 := 0) (ms2 := 0) (a := 22) (As := [vI a]) (st := []) dX8_isAbove_2 mv_X8_44 h22 rfl rfl (by decide) (by decide) (Nat.le_of_ble_eq_true rfl) rfl (ct_isPlace h22 hsz ha (fun h_2 => ?_) (fun h_2 => ?_))
  · skip
    refine xw_ifeq (tgt := 33) dX8_isAbove_5 (by decide) (by unfold inI; omega) (fun c => absurd c (by decide)) (fun _ => ?_)
    refine xw_aload_n dX8_isAbove_8 rfl ?_
    refine xw_iload_n dX8_isAbove_9 rfl ?_
    refine xw_callV (rc := 0) (rs := 0) (mc2 := 0) (ms2 := 0) (a := 22) (As := [vI b]) (st := []) dX8_isAbove_10 mv_X8_44 h22 rfl rfl (by decide) (by decide) (Nat.le_of_ble_eq_true rfl) rfl (ct_isPlace h22 hsz hb (fun h_10 => ?_) (fun h_10 => ?_))
    · skip
      refine xw_ifeq (tgt := 33) dX8_isAbove_13 (by decide) (by unfold inI; omega) (fun c => absurd c (by decide)) (fun _ => ?_)
      refine xw_aload_n dX8_isAbove_16 rfl ?_
      refine xw_getfield dX8_isAbove_17 fl_X8_18 h22 rfl ?_
      refine xw_iload_n dX8_isAbove_20 rfl ?_
      refine xw_lald dX8_isAbove_21 h25 (j := b.toNat) (xtn h_10.1) (by omega) (by decide) ?_
      refine xw_iload_n dX8_isAbove_22 rfl ?_
      refine xw_topi _ (xtn h_2.1) ?_
      refine xw_callSN (rc := 0) (rs := 0) (mc2 := 0) (ms2 := 0) (As := [vL ((av b.toNat : Nat) : Int), vI ((a.toNat : Nat) : Int)]) (st := []) dX8_isAbove_23 sn_X8_48 (by decide) (by decide) (Nat.le_of_ble_eq_true rfl) rfl (ct_isIn (Nat.lt_of_lt_of_le (hav b.toNat (by omega)) (xp2 (by decide))) (by omega) (fun h_23 => ?_) (fun h_23 => ?_))
      · skip
        refine xw_ifeq (tgt := 33) dX8_isAbove_26 (by decide) (by unfold inI; omega) (fun c => absurd c (by decide)) (fun _ => ?_)
        refine xw_iconst dX8_isAbove_29 ?_
        refine xw_goto (tgt := 34) dX8_isAbove_30 (by decide) ?_
        exact xw_zret dX8_isAbove_34 rfl rfl (by first | exact h1 ⟨h_2, h_10, h_23⟩ | exact h0 (fun h => by rw [h.2.2] at h_23; cases h_23) | exact h0 (fun h => h_10 h.2.1) | exact h0 (fun h => h_2 h.1))
      · skip
        refine xw_ifeq (tgt := 33) dX8_isAbove_26 (by decide) (by unfold inI; omega) (fun _ => ?_) (fun c => absurd c (by decide))
        refine xw_iconst dX8_isAbove_33 ?_
        exact xw_zret dX8_isAbove_34 rfl rfl (by first | exact h1 ⟨h_2, h_10, h_23⟩ | exact h0 (fun h => by rw [h.2.2] at h_23; cases h_23) | exact h0 (fun h => h_10 h.2.1) | exact h0 (fun h => h_2 h.1))
    · skip
      refine xw_ifeq (tgt := 33) dX8_isAbove_13 (by decide) (by unfold inI; omega) (fun _ => ?_) (fun c => absurd c (by decide))
      refine xw_iconst dX8_isAbove_33 ?_
      exact xw_zret dX8_isAbove_34 rfl rfl (by first | exact h1 ⟨h_2, h_10, h_23⟩ | exact h0 (fun h => by rw [h.2.2] at h_23; cases h_23) | exact h0 (fun h => h_10 h.2.1) | exact h0 (fun h => h_2 h.1))
  · skip
    refine xw_ifeq (tgt := 33) dX8_isAbove_5 (by decide) (by unfold inI; omega) (fun _ => ?_) (fun c => absurd c (by decide))
    refine xw_iconst dX8_isAbove_33 ?_
    exact xw_zret dX8_isAbove_34 rfl rfl (by first | exact h1 ⟨h_2, h_10, h_23⟩ | exact h0 (fun h => by rw [h.2.2] at h_23; cases h_23) | exact h0 (fun h => h_10 h.2.1) | exact h0 (fun h => h_2 h.1))
set_option maxHeartbeats 4000000 in
theorem ct_isFree {sz : Nat} {ls kc z : Int} {c : Nat → Int} {av : Nat → Nat} (h22 : f 22 = some (oTg sz ls kc)) (h23 : f 23 = some (aI 40 c)) (h25 : f 25 = some (aS 40 av)) (hsz : sz ≤ 40) (hz : inI z) (hc : ∀ j, j < sz → inI (c j)) (hav : ∀ j, j < sz → av j < 2 ^ 40) (h1 : ∀ p : Nat, p < sz → xidx c z 0 sz = (p : Int) → av p = 0 → Q (.inl (some (vI 1))) n f) (h0 : (∀ p : Nat, p < sz → xidx c z 0 sz = (p : Int) → av p ≠ 0) → Q (.inl (some (vI 0))) n f) : xct g M_X8_isFree 0 0 [vR 22, vI z] n f Q := by
  refine xct_of rfl rfl (Nat.le_of_ble_eq_true rfl) ?_
  have hi : inI (xidx c z 0 sz) := by
    rcases xidx_in c z sz 0 with ⟨h1, -⟩ | ⟨p, -, h2, h3, -⟩
    · rw [h1]; unfold inI; omega
    · rw [h3]; unfold inI; omega
  have hp : xidx c z 0 sz = -1 ∨ ∃ p : Nat, p < sz ∧ xidx c z 0 sz = (p : Int) := by
    rcases xidx_in c z sz 0 with ⟨h1, -⟩ | ⟨p, -, h2, h3, -⟩
    · exact Or.inl h1
    · exact Or.inr ⟨p, by omega, h3⟩
  generalize ew : xidx c z 0 sz = w at *
  refine xw_aload_n dX8_isFree_0 rfl ?_
  refine xw_iload_n dX8_isFree_1 rfl ?_
  refine xw_callV (rc := 0) (rs := 0) (mc2 := 0) (ms2 := 0) (a := 22) (As := [vI z]) (st := []) dX8_isFree_2 mv_X8_52 h22 rfl rfl (by decide) (by decide) (Nat.le_of_ble_eq_true rfl) rfl (ct_placeOf h22 h23 hsz hz hc ?_)
  refine xw_topi w ew ?_
  refine xw_istore_n dX8_isFree_5 (by decide) ?_
  refine xw_iload_n dX8_isFree_6 rfl ?_
  refine xw_iconst dX8_isFree_7 ?_
  refine xw_icmpeq (tgt := 26) dX8_isFree_8 (by decide) hi (by unfold inI; omega) (fun c_8 => ?_) (fun c_8 => ?_)
  · skip
    refine xw_iconst dX8_isFree_26 ?_
    exact xw_zret dX8_isFree_27 rfl rfl (h0 (fun p q1 q2 => by omega))
  · skip
    obtain ⟨p, hp1, hp2⟩ := hp.resolve_left c_8
    subst hp2
    have hb := Nat.lt_of_lt_of_le (hav p hp1) (xp2 (k := 62) (by decide))
    rw [p62] at hb
    refine xw_ls [(0, vR 22), (2, vI (p : Int))] ⟨rfl, rfl, trivial⟩ ?_
    refine xw_aload_n dX8_isFree_11 rfl ?_
    refine xw_getfield dX8_isFree_12 fl_X8_18 h22 rfl ?_
    refine xw_iload_n dX8_isFree_15 rfl ?_
    refine xw_lald dX8_isFree_16 h25 (j := p) rfl (by omega) (by decide) ?_
    refine xw_lconst (z := 0) dX8_isFree_17 (by decide) ?_
    refine xw_lcmpne (tgt := 26) dX8_isFree_18 dX8_isFree_19 (by decide) (by unfold inL; omega) (by unfold inL; omega) (fun c_18 => ?_) (fun c_18 => ?_)
    · refine xw_iconst dX8_isFree_26 ?_
      exact xw_zret dX8_isFree_27 rfl rfl (h0 (fun p' q1 q2 q3 => by have e9 : p' = p := (by omega); rw [e9] at q3; omega))
    · refine xw_iconst dX8_isFree_22 ?_
      refine xw_goto (tgt := 27) dX8_isFree_23 (by decide) ?_
      exact xw_zret dX8_isFree_27 rfl rfl (h1 p hp1 rfl (by omega))
set_option maxHeartbeats 4000000 in
theorem ct_setAbove {sz a b : Nat} {ls kc : Int} {av bv : Nat → Nat} (h22 : f 22 = some (oTg sz ls kc)) (h25 : f 25 = some (aS 40 av)) (h26 : f 26 = some (aS 40 bv)) (hsz : sz ≤ 40) (ha : a < sz) (hb : b < sz) (hav : av b < 2 ^ 62) (hbv : bv a < 2 ^ 62) (hq : Q (.inl none) n (xup (xup f 25 (aS 40 (xui av b (av b ||| 2 ^ a)))) 26 (aS 40 (xui bv a (bv a ||| 2 ^ b))))) : xct g M_X8_setAbove 0 0 [vR 22, vI (a : Int), vI (b : Int)] n f Q := by
  refine xct_of rfl rfl (Nat.le_of_ble_eq_true rfl) ?_
  have pa : (2 : Nat) ^ a < 2 ^ 62 := Nat.pow_lt_pow_right (by decide) (by omega)
  have pb : (2 : Nat) ^ b < 2 ^ 62 := Nat.pow_lt_pow_right (by decide) (by omega)
  refine xw_aload_n dX8_setAbove_0 rfl ?_
  refine xw_iload_n dX8_setAbove_1 rfl ?_
  refine xw_callV (rc := 0) (rs := 0) (mc2 := 0) (ms2 := 0) (a := 22) (As := [vI (a : Int)]) (st := []) dX8_setAbove_2 mv_X8_44 h22 rfl rfl (by decide) (by decide) (Nat.le_of_ble_eq_true rfl) rfl (ct_isPlace h22 hsz (by unfold inI; omega) (fun h_2 => ?_) (fun h_2 => absurd (by omega) h_2))
  refine xw_ifeq (tgt := 40) dX8_setAbove_5 (by decide) (by unfold inI; omega) (fun c => absurd c (by decide)) (fun _ => ?_)
  refine xw_aload_n dX8_setAbove_8 rfl ?_
  refine xw_iload_n dX8_setAbove_9 rfl ?_
  refine xw_callV (rc := 0) (rs := 0) (mc2 := 0) (ms2 := 0) (a := 22) (As := [vI (b : Int)]) (st := []) dX8_setAbove_10 mv_X8_44 h22 rfl rfl (by decide) (by decide) (Nat.le_of_ble_eq_true rfl) rfl (ct_isPlace h22 hsz (by unfold inI; omega) (fun h_10 => ?_) (fun h_10 => absurd (by omega) h_10))
  refine xw_ifeq (tgt := 40) dX8_setAbove_13 (by decide) (by unfold inI; omega) (fun c => absurd c (by decide)) (fun _ => ?_)
  refine xw_aload_n dX8_setAbove_16 rfl ?_
  refine xw_getfield dX8_setAbove_17 fl_X8_18 h22 rfl ?_
  refine xw_iload_n dX8_setAbove_20 rfl ?_
  refine xw_dup2 dX8_setAbove_21 rfl rfl ?_
  refine xw_lald dX8_setAbove_22 h25 (j := b) rfl (by omega) (by decide) ?_
  refine xw_lconst (z := 1) dX8_setAbove_23 (by decide) ?_
  refine xw_iload_n dX8_setAbove_24 rfl ?_
  refine xw_lshl dX8_setAbove_25 (xb_shl (by omega)) ?_
  refine xw_lor dX8_setAbove_26 (xb_or hav pa) ?_
  refine xw_last dX8_setAbove_27 h25 (j := b) rfl (by omega) (by decide) ?_
  rw [xui_cast]
  refine xw_aload_n dX8_setAbove_28 rfl ?_
  refine xw_getfield dX8_setAbove_29 fl_X8_22 h22 rfl ?_
  refine xw_iload_n dX8_setAbove_32 rfl ?_
  refine xw_dup2 dX8_setAbove_33 rfl rfl ?_
  refine xw_lald dX8_setAbove_34 h26 (j := a) rfl (by omega) (by decide) ?_
  refine xw_lconst (z := 1) dX8_setAbove_35 (by decide) ?_
  refine xw_iload_n dX8_setAbove_36 rfl ?_
  refine xw_lshl dX8_setAbove_37 (xb_shl (by omega)) ?_
  refine xw_lor dX8_setAbove_38 (xb_or hbv pb) ?_
  refine xw_last dX8_setAbove_39 h26 (j := a) rfl (by omega) (by decide) ?_
  rw [xui_cast]
  exact xw_vret dX8_setAbove_40 rfl hq
set_option maxHeartbeats 4000000 in
theorem ct_include {sz : Nat} {ls kc z w : Int} {c23 c24 : Nat → Int} {av bv : Nat → Nat} (h22 : f 22 = some (oTg sz ls kc)) (h23 : f 23 = some (aI 40 c23)) (h24 : f 24 = some (aI 40 c24)) (h25 : f 25 = some (aS 40 av)) (h26 : f 26 = some (aS 40 bv)) (hsz : sz < 40)
    (hq : Q (.inl none) n (xup (xup (xup (xup (xup f 23 (aI 40 (xui c23 sz z))) 24 (aI 40 (xui c24 sz w))) 25 (aS 40 (xui av sz 0))) 26 (aS 40 (xui bv sz 0))) 22 (oTg (sz + 1) ls kc))) : xct g M_X8_include 0 0 [vR 22, vI z, vI w] n f Q := by
  refine xct_of rfl rfl (Nat.le_of_ble_eq_true rfl) ?_
  refine xw_aload_n dX8_include_0 rfl ?_
  refine xw_getfield dX8_include_1 fl_X8_40 h22 rfl ?_
  refine xw_bipush (z := 40) dX8_include_4 (by decide) ?_
  refine xw_icmplt (tgt := 10) dX8_include_6 (by decide) (by unfold inI; omega) (by unfold inI; omega) (fun c_6 => ?_) (fun c_6 => ?_)
  · skip
    refine xw_aload_n dX8_include_10 rfl ?_
    refine xw_getfield dX8_include_11 fl_X8_9 h22 rfl ?_
    refine xw_aload_n dX8_include_14 rfl ?_
    refine xw_getfield dX8_include_15 fl_X8_40 h22 rfl ?_
    refine xw_iload_n dX8_include_18 rfl ?_
    refine xw_iast dX8_include_19 h23 (j := sz) rfl (by omega) (by decide) ?_
    refine xw_aload_n dX8_include_20 rfl ?_
    refine xw_getfield dX8_include_21 fl_X8_15 h22 rfl ?_
    refine xw_aload_n dX8_include_24 rfl ?_
    refine xw_getfield dX8_include_25 fl_X8_40 h22 rfl ?_
    refine xw_iload_n dX8_include_28 rfl ?_
    refine xw_iast dX8_include_29 h24 (j := sz) rfl (by omega) (by decide) ?_
    refine xw_aload_n dX8_include_30 rfl ?_
    refine xw_getfield dX8_include_31 fl_X8_18 h22 rfl ?_
    refine xw_aload_n dX8_include_34 rfl ?_
    refine xw_getfield dX8_include_35 fl_X8_40 h22 rfl ?_
    refine xw_lconst (z := 0) dX8_include_38 (by decide) ?_
    refine xw_last dX8_include_39 h25 (j := sz) rfl (by omega) (by decide) ?_
    have e25 := xui_cast av sz 0
    rw [show (((0 : Nat) : Nat) : Int) = 0 from rfl] at e25
    rw [e25]
    refine xw_aload_n dX8_include_40 rfl ?_
    refine xw_getfield dX8_include_41 fl_X8_22 h22 rfl ?_
    refine xw_aload_n dX8_include_44 rfl ?_
    refine xw_getfield dX8_include_45 fl_X8_40 h22 rfl ?_
    refine xw_lconst (z := 0) dX8_include_48 (by decide) ?_
    refine xw_last dX8_include_49 h26 (j := sz) rfl (by omega) (by decide) ?_
    have e26 := xui_cast bv sz 0
    rw [show (((0 : Nat) : Nat) : Int) = 0 from rfl] at e26
    rw [e26]
    refine xw_aload_n dX8_include_50 rfl ?_
    refine xw_dup dX8_include_51 rfl ?_
    refine xw_getfield dX8_include_52 fl_X8_40 h22 rfl ?_
    refine xw_iconst dX8_include_55 ?_
    refine xw_iadd dX8_include_56 ?_
    refine xw_putfield dX8_include_57 (fp_X8_40 _) h22 rfl rfl ?_
    rw [fX8_0]
    exact xw_vret dX8_include_60 rfl hq
  · skip
    exfalso; omega
end C41
