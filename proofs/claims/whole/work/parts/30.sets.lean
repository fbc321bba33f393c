section C30
variable {g : xG} {Q : xP} {n : Nat} {f : xH}
set_option maxHeartbeats 4000000 in
theorem ct_isIn {s p : Nat} (hs : s < 2 ^ 62) (hp : p < 62) (h1 : s.testBit p = true → Q (.inl (some (vI 1))) n f) (h0 : s.testBit p = false → Q (.inl (some (vI 0))) n f) : xct g M_X9_isIn 0 0 [vL (s : Int), vI (p : Int)] n f Q := by
  refine xct_of rfl rfl (Nat.le_of_ble_eq_true rfl) ?_
  have h2 := @xb_t s p
  have h3 := Nat.mod_two_eq_zero_or_one (s / 2 ^ p)
  refine xw_lload_n dX9_isIn_0 rfl ?_
  refine xw_iload_n dX9_isIn_1 rfl ?_
  refine xw_lshr dX9_isIn_2 (xb_shr (a := s) (b := p) hs (by omega)) ?_
  refine xw_lconst (z := 1) dX9_isIn_3 (by decide) ?_
  refine xw_land dX9_isIn_4 (xb_a1 (a := s / 2 ^ p) (Nat.lt_of_le_of_lt (Nat.div_le_self _ _) hs)) ?_
  refine xw_lconst (z := 0) dX9_isIn_5 (by decide) ?_
  refine xw_lcmpeq (tgt := 14) dX9_isIn_6 dX9_isIn_7 (by decide) (by unfold inL; omega) (by unfold inL; omega) (fun c_6 => ?_) (fun c_6 => ?_)
  · skip
    refine xw_iconst dX9_isIn_14 ?_
    exact xw_zret dX9_isIn_15 rfl rfl (h0 (h2.mp (by omega)))
  · skip
    refine xw_iconst dX9_isIn_10 ?_
    refine xw_goto (tgt := 15) dX9_isIn_11 (by decide) ?_
    refine xw_zret dX9_isIn_15 rfl rfl (h1 ?_)
    cases hb : s.testBit p with
    | false => exact absurd (h2.mpr hb) (by omega)
    | true => rfl
/-- the i-th of the k places from a on that are in s, counted from c on; -1 -/
def xnth (s : Nat → Bool) (i : Int) : Int → Nat → Nat → Int
  | _, _, 0 => -1
  | c, a, k + 1 => if s a then (if c = i then (a : Int) else xnth s i (c + 1) (a + 1) k) else xnth s i c (a + 1) k
set_option maxHeartbeats 4000000 in
theorem ct_placeInSet {s : Nat} {i : Int} (hs : s < 2 ^ 62) (hi : inI i) (hq : Q (.inl (some (vI (xnth (fun p => s.testBit p) i 0 0 40)))) n f) : xct g M_X9_placeInSet 0 0 [vL (s : Int), vI i] n f Q := by
  refine xct_of rfl rfl (Nat.le_of_ble_eq_true rfl) ?_
  refine xw_iconst dX9_placeInSet_0 ?_
  refine xw_istore_n dX9_placeInSet_1 (by decide) ?_
  refine xw_iconst dX9_placeInSet_2 ?_
  refine xw_istore dX9_placeInSet_3 (by decide) ?_
  have L : ∀ (k a : Nat) (c : Int), a + k = 40 → 0 ≤ c → c ≤ a → Q (.inl (some (vI (xnth (fun p => s.testBit p) i c a k)))) n f → xw g M_X9_placeInSet Q 0 0 5 [(0, vL (s : Int)), (2, vI i), (3, vI c), (4, vI (a : Int))] [] n f := by
    unfold inI at hi
    intro k
    induction k with
    | zero =>
      intro a c ha hc hca hq
      refine xw_iload dX9_placeInSet_5 rfl ?_
      refine xw_bipush (z := 40) dX9_placeInSet_7 (by decide) ?_
      refine xw_icmpge (tgt := 38) dX9_placeInSet_9 (by decide) (by unfold inI; omega) (by unfold inI; omega) (fun c_9 => ?_) (fun c_9 => ?_)
      · skip
        refine xw_iconst dX9_placeInSet_38 ?_
        exact xw_iret dX9_placeInSet_39 rfl hq
      · skip
        exfalso; omega
    | succ k ih =>
      intro a c ha hc hca hq
      unfold xnth at hq
      refine xw_iload dX9_placeInSet_5 rfl ?_
      refine xw_bipush (z := 40) dX9_placeInSet_7 (by decide) ?_
      refine xw_icmpge (tgt := 38) dX9_placeInSet_9 (by decide) (by unfold inI; omega) (by unfold inI; omega) (fun c_9 => ?_) (fun c_9 => ?_)
      · skip
        exfalso; omega
      · skip
        refine xw_lload_n dX9_placeInSet_12 rfl ?_
        refine xw_iload dX9_placeInSet_13 rfl ?_
        refine xw_callS (rc := 0) (rs := 0) (mc2 := 0) (ms2 := 0) (As := [vL (s : Int), vI (a : Int)]) (st := []) dX9_placeInSet_15 ms_X9_388 rfl (by decide) (by decide) (Nat.le_of_ble_eq_true rfl) rfl (ct_isIn hs (by omega) (fun hb => ?_) (fun hb => ?_))
        · skip
          refine xw_ifeq (tgt := 32) dX9_placeInSet_18 (by decide) (by unfold inI; omega) (fun c => absurd c (by decide)) (fun _ => ?_)
          refine xw_iload_n dX9_placeInSet_21 rfl ?_
          refine xw_iload_n dX9_placeInSet_22 rfl ?_
          refine xw_icmpne (tgt := 29) dX9_placeInSet_23 (by decide) (by unfold inI; omega) (by unfold inI; omega) (fun c_23 => ?_) (fun c_23 => ?_)
          · skip
            rw [if_pos hb, if_neg c_23] at hq
            refine xw_iinc dX9_placeInSet_29 rfl (by decide) ?_
            try rw [if_neg (by rw [hb]; decide)] at hq
            refine xw_iinc dX9_placeInSet_32 rfl (by decide) ?_
            refine xw_goto (tgt := 5) dX9_placeInSet_35 (by decide) ?_
            exact xw_ls [(0, vL (s : Int)), (2, vI i), (3, _), (4, vI ((a + 1 : Nat) : Int))] ⟨rfl, rfl, rfl, rfl, trivial⟩ (ih (a + 1) _ (by omega) (by omega) (by omega) hq)
          · skip
            refine xw_iload dX9_placeInSet_26 rfl ?_
            exact xw_iret dX9_placeInSet_28 rfl (by rw [if_pos hb, if_pos (by simpa using c_23)] at hq; exact hq)
        · skip
          refine xw_ifeq (tgt := 32) dX9_placeInSet_18 (by decide) (by unfold inI; omega) (fun _ => ?_) (fun c => absurd c (by decide))
          try rw [if_neg (by rw [hb]; decide)] at hq
          refine xw_iinc dX9_placeInSet_32 rfl (by decide) ?_
          refine xw_goto (tgt := 5) dX9_placeInSet_35 (by decide) ?_
          exact xw_ls [(0, vL (s : Int)), (2, vI i), (3, _), (4, vI ((a + 1 : Nat) : Int))] ⟨rfl, rfl, rfl, rfl, trivial⟩ (ih (a + 1) _ (by omega) (by omega) (by omega) hq)
  exact xw_ls [(0, vL (s : Int)), (2, vI i), (3, vI 0), (4, vI 0)] ⟨rfl, rfl, rfl, rfl, trivial⟩ (L 40 0 0 rfl (by omega) (by omega) hq)
end C30
