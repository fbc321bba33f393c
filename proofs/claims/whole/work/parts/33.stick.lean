/-! sticks -/
def fSt (kd mk wo : Int) (pc ap : Nat) (ot : Int) : Nat → xV := fun k => match k with
  | 0 => vI kd
  | 1 => vI mk
  | 2 => vI wo
  | 3 => vI (pc : Int)
  | 4 => vR ap
  | _ => vI ot
abbrev oSt (kd mk wo : Int) (pc ap : Nat) (ot : Int) : xE := Sum.inr (7, fSt kd mk wo pc ap ot)
def nr (z : Int) : Prop := -1000 ≤ z ∧ z ≤ 1000
def nearAll (pt : Nat → Int) (pc : Nat) (x y z : Int) : Prop := ∀ i : Nat, i ≤ pc → nr (pt (3 * i) + x) ∧ nr (pt (3 * i + 1) + y) ∧ nr (pt (3 * i + 2) + z)
def shf (pt : Nat → Int) (m : Nat) (x y z : Int) : Nat → Int := fun j => if j < 3 * m then pt j + (if j % 3 = 0 then x else if j % 3 = 1 then y else z) else pt j
theorem lt6 {k : Nat} (h : k < 6) : k = 0 ∨ k = 1 ∨ k = 2 ∨ k = 3 ∨ k = 4 ∨ k = 5 := by omega
section C33
variable {g : xG} {Q : xP} {n : Nat} {f : xH}
set_option maxHeartbeats 4000000 in
theorem ct_Stick {b : Nat} {kd mk wo : Int} (hb : f b = some (.inr (7, fun j => xdef (tyX7 j)))) (hbn : b < n) (hk : inI kd) (hq : Q (.inl none) (n + 1) (xup (xup f n (aI 9 (fun _ => 0))) b (oSt kd mk wo (if kd = 1 then 2 else 1) n 0))) : xct g M_X7_init 1 9 [vR b, vI kd, vI mk, vI wo] n f Q := by
  refine xct_of rfl rfl (Nat.le_of_ble_eq_true rfl) ?_
  have hb1 : b ≠ n := by omega
  unfold inI at hk
  refine xw_aload_n dX7_init_0 rfl ?_
  refine xw_objInit dX7_init_1 oi_X7 oi_2 oi_3 (by decide) (by decide) (Nat.le_of_ble_eq_true rfl) ?_
  refine xw_aload_n dX7_init_4 rfl ?_
  refine xw_bipush (z := 9) dX7_init_5 (by decide) ?_
  refine xw_newa (rc := 0) (rs := 0) (N := 9) (t := 0) (c9 := .inl (fun _ => 0)) dX7_init_7 rfl rfl (fun D h => by cases h) ac_int rfl (by decide) (by decide) (fun B cA => rfl) ?_
  refine xw_putfield dX7_init_9 fp_X7_9 ((xup_n _ _ hb1).trans hb) rfl rfl ?_
  refine xw_aload_n dX7_init_12 rfl ?_
  refine xw_iload_n dX7_init_13 rfl ?_
  refine xw_putfield dX7_init_14 fp_X7_15 (xup_s _ _ _) rfl rfl ?_
  rw [xup_up]
  refine xw_aload_n dX7_init_17 rfl ?_
  refine xw_iload_n dX7_init_18 rfl ?_
  refine xw_putfield dX7_init_19 fp_X7_19 (xup_s _ _ _) rfl rfl ?_
  rw [xup_up]
  refine xw_aload_n dX7_init_22 rfl ?_
  refine xw_iload_n dX7_init_23 rfl ?_
  refine xw_putfield dX7_init_24 fp_X7_22 (xup_s _ _ _) rfl rfl ?_
  rw [xup_up]
  refine xw_aload_n dX7_init_27 rfl ?_
  refine xw_iload_n dX7_init_28 rfl ?_
  refine xw_iconst dX7_init_29 ?_
  refine xw_icmpne (tgt := 37) dX7_init_30 (by decide) (by unfold inI; omega) (by unfold inI; omega) (fun c_30 => ?_) (fun c_30 => ?_)
  · skip
    refine xw_iconst dX7_init_37 ?_
    refine xw_putfield dX7_init_38 fp_X7_25 (xup_s _ _ _) rfl rfl ?_
    rw [xup_up]
    refine xw_cgO rfl (fs1 := fSt kd mk wo (if kd = 1 then 2 else 1) n 0) (fun k hk => by first | (rw [if_pos (by omega)]; rcases lt6 hk with rfl | rfl | rfl | rfl | rfl | rfl <;> rfl) | (rw [if_neg (by omega)]; rcases lt6 hk with rfl | rfl | rfl | rfl | rfl | rfl <;> rfl)) ?_
    exact xw_vret dX7_init_41 rfl hq
  · skip
    refine xw_iconst dX7_init_33 ?_
    refine xw_goto (tgt := 38) dX7_init_34 (by decide) ?_
    refine xw_putfield dX7_init_38 fp_X7_25 (xup_s _ _ _) rfl rfl ?_
    rw [xup_up]
    refine xw_cgO rfl (fs1 := fSt kd mk wo (if kd = 1 then 2 else 1) n 0) (fun k hk => by first | (rw [if_pos (by omega)]; rcases lt6 hk with rfl | rfl | rfl | rfl | rfl | rfl <;> rfl) | (rw [if_neg (by omega)]; rcases lt6 hk with rfl | rfl | rfl | rfl | rfl | rfl <;> rfl)) ?_
    exact xw_vret dX7_init_41 rfl hq
set_option maxHeartbeats 4000000 in
theorem ct_pointNumbers {b ap pc : Nat} {kd mk wo ot : Int} (hb : f b = some (oSt kd mk wo pc ap ot)) (hq : Q (.inl (some (vI (3 * ((pc : Int) + 1))))) n f) : xct g M_X7_pointNumbers 0 0 [vR b] n f Q := by
  refine xct_of rfl rfl (Nat.le_of_ble_eq_true rfl) ?_
  refine xw_iconst dX7_pointNumbers_0 ?_
  refine xw_aload_n dX7_pointNumbers_1 rfl ?_
  refine xw_getfield dX7_pointNumbers_2 fl_X7_25 hb rfl ?_
  refine xw_iconst dX7_pointNumbers_5 ?_
  refine xw_iadd dX7_pointNumbers_6 ?_
  refine xw_imul dX7_pointNumbers_7 ?_
  exact xw_iret dX7_pointNumbers_8 rfl hq
set_option maxHeartbeats 4000000 in
theorem ct_at {b ap pc i a : Nat} {kd mk wo ot : Int} {pt : Nat → Int} (hb : f b = some (oSt kd mk wo pc ap ot)) (hp : f ap = some (aI 9 pt)) (h9 : 3 * i + a < 9) (hq : Q (.inl (some (vI (pt (3 * i + a))))) n f) : xct g M_X7_at 0 0 [vR b, vI (i : Int), vI (a : Int)] n f Q := by
  refine xct_of rfl rfl (Nat.le_of_ble_eq_true rfl) ?_
  refine xw_iconst dX7_at_0 ?_
  refine xw_iload_n dX7_at_1 rfl ?_
  refine xw_imul dX7_at_2 ?_
  refine xw_iload_n dX7_at_3 rfl ?_
  refine xw_iadd dX7_at_4 ?_
  refine xw_istore_n dX7_at_5 (by decide) ?_
  refine xw_iload_n dX7_at_6 rfl ?_
  refine xw_iflt (tgt := 19) dX7_at_7 (by decide) (by unfold inI; omega) (fun c_7 => ?_) (fun c_7 => ?_)
  · skip
    exfalso; omega
  · skip
    refine xw_iload_n dX7_at_10 rfl ?_
    refine xw_aload_n dX7_at_11 rfl ?_
    refine xw_getfield dX7_at_12 fl_X7_9 hb rfl ?_
    refine xw_alen (t := 0) (N := 9) dX7_at_15 hp rfl ?_
    refine xw_icmplt (tgt := 23) dX7_at_16 (by decide) (by unfold inI; omega) (by unfold inI; omega) (fun c_16 => ?_) (fun c_16 => ?_)
    · skip
      refine xw_aload_n dX7_at_23 rfl ?_
      refine xw_getfield dX7_at_24 fl_X7_9 hb rfl ?_
      refine xw_iload_n dX7_at_27 rfl ?_
      refine xw_iald dX7_at_28 hp (j := 3 * i + a) (by omega) (by omega) (by decide) ?_
      exact xw_iret dX7_at_29 rfl hq
    · skip
      exfalso; omega
set_option maxHeartbeats 4000000 in
theorem ct_isNear {z : Int} (hz : inL z) (h1 : nr z → Q (.inl (some (vI 1))) n f) (h0 : ¬ nr z → Q (.inl (some (vI 0))) n f) : xct g M_X7_isNear 0 0 [vL z] n f Q := by
  refine xct_of rfl rfl (Nat.le_of_ble_eq_true rfl) ?_
  unfold nr at h1 h0
  unfold inL at hz
  refine xw_lload_n dX7_isNear_0 rfl ?_
  refine xw_ldc2 (z := -1000) dX7_isNear_1 kl_X7_50 (by decide) ?_
  refine xw_lcmplt (tgt := 20) dX7_isNear_4 dX7_isNear_5 (by decide) (by unfold inL; omega) (by unfold inL; omega) (fun c_4 => ?_) (fun c_4 => ?_)
  · skip
    refine xw_iconst dX7_isNear_20 ?_
    exact xw_zret dX7_isNear_21 rfl rfl (by first | exact h1 (by omega) | exact h0 (by omega))
  · skip
    refine xw_lload_n dX7_isNear_8 rfl ?_
    refine xw_ldc2 (z := 1000) dX7_isNear_9 kl_X7_52 (by decide) ?_
    refine xw_lcmpgt (tgt := 20) dX7_isNear_12 dX7_isNear_13 (by decide) (by unfold inL; omega) (by unfold inL; omega) (fun c_12 => ?_) (fun c_12 => ?_)
    · skip
      refine xw_iconst dX7_isNear_20 ?_
      exact xw_zret dX7_isNear_21 rfl rfl (by first | exact h1 (by omega) | exact h0 (by omega))
    · skip
      refine xw_iconst dX7_isNear_16 ?_
      refine xw_goto (tgt := 21) dX7_isNear_17 (by decide) ?_
      exact xw_zret dX7_isNear_21 rfl rfl (by first | exact h1 (by omega) | exact h0 (by omega))
set_option maxHeartbeats 4000000 in
theorem ct_staysNear {b ap pc : Nat} {kd mk wo ot x y z : Int} {pt : Nat → Int} (hb : f b = some (oSt kd mk wo pc ap ot)) (hp : f ap = some (aI 9 pt)) (hpc : pc ≤ 2) (hpt : ∀ j, j < 9 → nr (pt j)) (hx : inI x) (hy : inI y) (hz : inI z) (h1 : nearAll pt pc x y z → Q (.inl (some (vI 1))) n f) (h0 : ¬ nearAll pt pc x y z → Q (.inl (some (vI 0))) n f) : xct g M_X7_staysNear 0 0 [vR b, vI x, vI y, vI z] n f Q := by
  refine xct_of rfl rfl (Nat.le_of_ble_eq_true rfl) ?_
  unfold inI at hx hy hz
  have L : ∀ (m i : Nat), i + m = pc + 1 → (∀ j : Nat, j < i → nr (pt (3 * j) + x) ∧ nr (pt (3 * j + 1) + y) ∧ nr (pt (3 * j + 2) + z)) → xw g M_X7_staysNear Q 0 0 3 [(0, vR b), (1, vI x), (2, vI y), (3, vI z), (4, vI (i : Int))] [] n f := by
    intro m
    induction m with
    | zero =>
      intro i hi hall
      have hq := h1 (fun j hj => hall j (by omega))
      refine xw_iload dX7_staysNear_3 rfl ?_
      refine xw_aload_n dX7_staysNear_5 rfl ?_
      refine xw_getfield dX7_staysNear_6 fl_X7_25 hb rfl ?_
      refine xw_icmpgt (tgt := 71) dX7_staysNear_9 (by decide) (by unfold inI; omega) (by unfold inI; omega) (fun c_9 => ?_) (fun c_9 => ?_)
      · skip
        refine xw_iconst dX7_staysNear_71 ?_
        exact xw_zret dX7_staysNear_72 rfl rfl hq
      · skip
        exfalso; omega
    | succ m ih =>
      intro i hi hall
      have hp0 := hpt (3 * i + 0) (by omega)
      have hp1 := hpt (3 * i + 1) (by omega)
      have hp2 := hpt (3 * i + 2) (by omega)
      have hno : ¬ (nr (pt (3 * i) + x) ∧ nr (pt (3 * i + 1) + y) ∧ nr (pt (3 * i + 2) + z)) → Q (.inl (some (vI 0))) n f := fun h => h0 (fun h2 => h (h2 i (by omega)))
      unfold nr at hp0 hp1 hp2
      refine xw_iload dX7_staysNear_3 rfl ?_
      refine xw_aload_n dX7_staysNear_5 rfl ?_
      refine xw_getfield dX7_staysNear_6 fl_X7_25 hb rfl ?_
      refine xw_icmpgt (tgt := 71) dX7_staysNear_9 (by decide) (by unfold inI; omega) (by unfold inI; omega) (fun c_9 => ?_) (fun c_9 => ?_)
      · skip
        exfalso; omega
      · skip
        refine xw_aload_n dX7_staysNear_12 rfl ?_
        refine xw_iload dX7_staysNear_13 rfl ?_
        refine xw_iconst dX7_staysNear_15 ?_
        refine xw_callV (rc := 0) (rs := 0) (mc2 := 0) (ms2 := 0) (As := [vI (i : Int), vI ((0 : Nat) : Int)]) (st := []) dX7_staysNear_16 mv_X7_54 hb rfl rfl (by decide) (by decide) (Nat.le_of_ble_eq_true rfl) rfl (ct_at hb hp (by omega) ?_)
        refine xw_i2l dX7_staysNear_19 (by unfold inI; omega) ?_
        refine xw_iload_n dX7_staysNear_20 rfl ?_
        refine xw_i2l dX7_staysNear_21 (by unfold inI; omega) ?_
        refine xw_ladd dX7_staysNear_22 ?_
        refine xw_callS (rc := 0) (rs := 0) (mc2 := 0) (ms2 := 0) (As := [vL (pt (3 * i + 0) + x)]) (st := []) dX7_staysNear_23 ms_X7_42 rfl (by decide) (by decide) (Nat.le_of_ble_eq_true rfl) rfl (ct_isNear (by unfold inL; omega) (fun h_23 => ?_) (fun h_23 => ?_))
        · skip
          refine xw_ifeq (tgt := 63) dX7_staysNear_26 (by decide) (by unfold inI; omega) (fun c => absurd c (by decide)) (fun _ => ?_)
          refine xw_aload_n dX7_staysNear_29 rfl ?_
          refine xw_iload dX7_staysNear_30 rfl ?_
          refine xw_iconst dX7_staysNear_32 ?_
          refine xw_callV (rc := 0) (rs := 0) (mc2 := 0) (ms2 := 0) (As := [vI (i : Int), vI ((1 : Nat) : Int)]) (st := []) dX7_staysNear_33 mv_X7_54 hb rfl rfl (by decide) (by decide) (Nat.le_of_ble_eq_true rfl) rfl (ct_at hb hp (by omega) ?_)
          refine xw_i2l dX7_staysNear_36 (by unfold inI; omega) ?_
          refine xw_iload_n dX7_staysNear_37 rfl ?_
          refine xw_i2l dX7_staysNear_38 (by unfold inI; omega) ?_
          refine xw_ladd dX7_staysNear_39 ?_
          refine xw_callS (rc := 0) (rs := 0) (mc2 := 0) (ms2 := 0) (As := [vL (pt (3 * i + 1) + y)]) (st := []) dX7_staysNear_40 ms_X7_42 rfl (by decide) (by decide) (Nat.le_of_ble_eq_true rfl) rfl (ct_isNear (by unfold inL; omega) (fun h_40 => ?_) (fun h_40 => ?_))
          · skip
            refine xw_ifeq (tgt := 63) dX7_staysNear_43 (by decide) (by unfold inI; omega) (fun c => absurd c (by decide)) (fun _ => ?_)
            refine xw_aload_n dX7_staysNear_46 rfl ?_
            refine xw_iload dX7_staysNear_47 rfl ?_
            refine xw_iconst dX7_staysNear_49 ?_
            refine xw_callV (rc := 0) (rs := 0) (mc2 := 0) (ms2 := 0) (As := [vI (i : Int), vI ((2 : Nat) : Int)]) (st := []) dX7_staysNear_50 mv_X7_54 hb rfl rfl (by decide) (by decide) (Nat.le_of_ble_eq_true rfl) rfl (ct_at hb hp (by omega) ?_)
            refine xw_i2l dX7_staysNear_53 (by unfold inI; omega) ?_
            refine xw_iload_n dX7_staysNear_54 rfl ?_
            refine xw_i2l dX7_staysNear_55 (by unfold inI; omega) ?_
            refine xw_ladd dX7_staysNear_56 ?_
            refine xw_callS (rc := 0) (rs := 0) (mc2 := 0) (ms2 := 0) (As := [vL (pt (3 * i + 2) + z)]) (st := []) dX7_staysNear_57 ms_X7_42 rfl (by decide) (by decide) (Nat.le_of_ble_eq_true rfl) rfl (ct_isNear (by unfold inL; omega) (fun h_57 => ?_) (fun h_57 => ?_))
            · skip
              refine xw_ifne (tgt := 65) dX7_staysNear_60 (by decide) (by unfold inI; omega) (fun _ => ?_) (fun c => absurd c (by decide))
              refine xw_iinc dX7_staysNear_65 rfl (by decide) ?_
              refine xw_goto (tgt := 3) dX7_staysNear_68 (by decide) ?_
              exact xw_ls [(0, vR b), (1, vI x), (2, vI y), (3, vI z), (4, vI ((i + 1 : Nat) : Int))] ⟨rfl, rfl, rfl, rfl, rfl, trivial⟩ (ih (i + 1) (by omega) (fun j hj => (Nat.lt_or_ge j i).elim (fun h => hall j h) (fun h => by have e9 : j = i := (by omega); rw [e9]; exact ⟨h_23, h_40, h_57⟩)))
            · skip
              refine xw_ifne (tgt := 65) dX7_staysNear_60 (by decide) (by unfold inI; omega) (fun c => absurd c (by decide)) (fun _ => ?_)
              refine xw_iconst dX7_staysNear_63 ?_
              exact xw_zret dX7_staysNear_64 rfl rfl (hno (fun h => by first | exact h_57 h.2.2 | exact h_40 h.2.1 | exact h_23 h.1))
          · skip
            refine xw_ifeq (tgt := 63) dX7_staysNear_43 (by decide) (by unfold inI; omega) (fun _ => ?_) (fun c => absurd c (by decide))
            refine xw_iconst dX7_staysNear_63 ?_
            exact xw_zret dX7_staysNear_64 rfl rfl (hno (fun h => by first | exact h_57 h.2.2 | exact h_40 h.2.1 | exact h_23 h.1))
        · skip
          refine xw_ifeq (tgt := 63) dX7_staysNear_26 (by decide) (by unfold inI; omega) (fun _ => ?_) (fun c => absurd c (by decide))
          refine xw_iconst dX7_staysNear_63 ?_
          exact xw_zret dX7_staysNear_64 rfl rfl (hno (fun h => by first | exact h_57 h.2.2 | exact h_40 h.2.1 | exact h_23 h.1))
  refine xw_iconst dX7_staysNear_0 ?_
  refine xw_istore dX7_staysNear_1 (by decide) ?_
  exact xw_ls [(0, vR b), (1, vI x), (2, vI y), (3, vI z), (4, vI ((0 : Nat) : Int))] ⟨rfl, rfl, rfl, rfl, rfl, trivial⟩ (L (pc + 1) 0 (by omega) (fun j hj => by omega))
set_option maxHeartbeats 4000000 in
theorem ct_shift {b ap pc : Nat} {kd mk wo ot x y z : Int} {pt : Nat → Int} (hb : f b = some (oSt kd mk wo pc ap ot)) (hp : f ap = some (aI 9 pt)) (hpc : pc ≤ 2) (hbp : b ≠ ap) (hq : Q (.inl none) n (xup f ap (aI 9 (shf pt (pc + 1) x y z)))) : xct g M_X7_shift 0 0 [vR b, vI x, vI y, vI z] n f Q := by
  refine xct_of rfl rfl (Nat.le_of_ble_eq_true rfl) ?_
  have hb3 : ∀ e, (xup f ap e) b = some (oSt kd mk wo pc ap ot) := fun e => (xup_n _ _ hbp).trans hb
  have hb2 : ∀ i, (xup f ap (aI 9 (shf pt i x y z))) b = some (oSt kd mk wo pc ap ot) := fun i => hb3 _
  have L : ∀ (m i : Nat), i + m = pc + 1 → xw g M_X7_shift Q 0 0 3 [(0, vR b), (1, vI x), (2, vI y), (3, vI z), (4, vI (i : Int))] [] n (xup f ap (aI 9 (shf pt i x y z))) := by
    intro m
    induction m with
    | zero =>
      intro i hi
      have hi2 : i = pc + 1 := by omega
      subst hi2
      refine xw_iload dX7_shift_3 rfl ?_
      refine xw_aload_n dX7_shift_5 rfl ?_
      refine xw_getfield dX7_shift_6 fl_X7_25 (hb3 _) rfl ?_
      refine xw_icmpgt (tgt := 61) dX7_shift_9 (by decide) (by unfold inI; omega) (by unfold inI; omega) (fun c_9 => ?_) (fun c_9 => ?_)
      · skip
        exact xw_vret dX7_shift_61 rfl hq
      · skip
        exfalso; omega
    | succ m ih =>
      intro i hi
      refine xw_iload dX7_shift_3 rfl ?_
      refine xw_aload_n dX7_shift_5 rfl ?_
      refine xw_getfield dX7_shift_6 fl_X7_25 (hb2 i) rfl ?_
      refine xw_icmpgt (tgt := 61) dX7_shift_9 (by decide) (by unfold inI; omega) (by unfold inI; omega) (fun c_9 => ?_) (fun c_9 => ?_)
      · skip
        exfalso; omega
      · skip
        refine xw_aload_n dX7_shift_12 rfl ?_
        refine xw_getfield dX7_shift_13 fl_X7_9 (hb2 i) rfl ?_
        refine xw_iconst dX7_shift_16 ?_
        refine xw_iload dX7_shift_17 rfl ?_
        refine xw_imul dX7_shift_19 ?_
        refine xw_dup2 dX7_shift_20 rfl rfl ?_
        refine xw_iald dX7_shift_21 (xup_s _ _ _) (j := 3 * i) (by omega) (by omega) (by decide) ?_
        refine xw_iload_n dX7_shift_22 rfl ?_
        refine xw_iadd dX7_shift_23 ?_
        refine xw_iast dX7_shift_24 (xup_s _ _ _) (j := 3 * i) (by omega) (by omega) (by decide) ?_
        rw [xup_up]
        refine xw_aload_n dX7_shift_25 rfl ?_
        refine xw_getfield dX7_shift_26 fl_X7_9 (hb3 _) rfl ?_
        refine xw_iconst dX7_shift_29 ?_
        refine xw_iload dX7_shift_30 rfl ?_
        refine xw_imul dX7_shift_32 ?_
        refine xw_iconst dX7_shift_33 ?_
        refine xw_iadd dX7_shift_34 ?_
        refine xw_dup2 dX7_shift_35 rfl rfl ?_
        refine xw_iald dX7_shift_36 (xup_s _ _ _) (j := 3 * i + 1) (by omega) (by omega) (by decide) ?_
        refine xw_iload_n dX7_shift_37 rfl ?_
        refine xw_iadd dX7_shift_38 ?_
        refine xw_iast dX7_shift_39 (xup_s _ _ _) (j := 3 * i + 1) (by omega) (by omega) (by decide) ?_
        rw [xup_up]
        refine xw_aload_n dX7_shift_40 rfl ?_
        refine xw_getfield dX7_shift_41 fl_X7_9 (hb3 _) rfl ?_
        refine xw_iconst dX7_shift_44 ?_
        refine xw_iload dX7_shift_45 rfl ?_
        refine xw_imul dX7_shift_47 ?_
        refine xw_iconst dX7_shift_48 ?_
        refine xw_iadd dX7_shift_49 ?_
        refine xw_dup2 dX7_shift_50 rfl rfl ?_
        refine xw_iald dX7_shift_51 (xup_s _ _ _) (j := 3 * i + 2) (by omega) (by omega) (by decide) ?_
        refine xw_iload_n dX7_shift_52 rfl ?_
        refine xw_iadd dX7_shift_53 ?_
        refine xw_iast dX7_shift_54 (xup_s _ _ _) (j := 3 * i + 2) (by omega) (by omega) (by decide) ?_
        refine xw_uu (xw_cgI (c1 := shf pt (i + 1) x y z) (fun j hj => ?_) ?_)
        · have h0 : ¬ (3 * i + 1 = 3 * i) := by omega
          have h1 : ¬ (3 * i + 2 = 3 * i + 1) := by omega
          have h2 : ¬ (3 * i + 2 = 3 * i) := by omega
          have e0 : 3 * i % 3 = 0 := by omega
          have e1 : (3 * i + 1) % 3 = 1 := by omega
          have e2 : (3 * i + 2) % 3 = 2 := by omega
          unfold xui shf
          by_cases k0 : j = 3 * i
          · subst k0; simp [e0] <;> omega
          · by_cases k1 : j = 3 * i + 1
            · subst k1; simp [e1] <;> omega
            · by_cases k2 : j = 3 * i + 2
              · subst k2; simp [e2] <;> omega
              · rw [if_neg k2, if_neg k1, if_neg k0]
                by_cases k3 : j < 3 * i
                · rw [if_pos k3, if_pos (show j < 3 * (i + 1) by omega)]
                · rw [if_neg k3, if_neg (show ¬ j < 3 * (i + 1) by omega)]
        refine xw_iinc dX7_shift_55 rfl (by decide) ?_
        refine xw_goto (tgt := 3) dX7_shift_58 (by decide) ?_
        exact xw_ls [(0, vR b), (1, vI x), (2, vI y), (3, vI z), (4, vI ((i + 1 : Nat) : Int))] ⟨rfl, rfl, rfl, rfl, rfl, trivial⟩ (ih (i + 1) (by omega))
  refine xw_iconst dX7_shift_0 ?_
  refine xw_istore dX7_shift_1 (by decide) ?_
  refine xw_ls [(0, vR b), (1, vI x), (2, vI y), (3, vI z), (4, vI ((0 : Nat) : Int))] ⟨rfl, rfl, rfl, rfl, rfl, trivial⟩ (xw_eqf (xup_id hp).symm (xw_cgI (fun j _ => ?_) (L (pc + 1) 0 (by omega))))
  unfold shf
  rw [if_neg (by omega)]
end C33
