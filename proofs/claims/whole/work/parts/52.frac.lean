/-! a fraction in lowest terms, printed -/
def frG (t b : Nat) : Nat := Nat.gcd t b
def fr0 (neg : Bool) (b : Nat → Int) : Nat × (Nat → Int) := if neg then (1, xui b 0 45) else (0, b)
def fr1 (a : Nat) (p : Nat × (Nat → Int)) : Nat × (Nat → Int) := (p.1 + dgE 12 a + 1, dws a (dgE 12 a + 1) p.1 p.2)
def fr2 (d : Nat) (p : Nat × (Nat → Int)) : Nat × (Nat → Int) := if d = 1 then p else fr1 d (p.1 + 1, xui p.2 p.1 47)
/-- the number's amount over a shared divisor, and the other number's -/
def frac (neg : Bool) (a d : Nat) (b : Nat → Int) : Nat × (Nat → Int) := fr2 d (fr1 a (fr0 neg b))
section C52
variable {g : xG} {Q : xP} {n : Nat} {f : xH}
set_option maxHeartbeats 4000000 in
theorem ct_showFraction {sz : Nat} {t : Int} {d : Nat} {b : Nat → Int} (h18 : f 18 = some (oPg sz)) (h19 : f 19 = some (aB 40 b)) (ht : t.natAbs < 10 ^ 12) (hd : 0 < d) (hd2 : d < 2 ^ 39)
    (hq : ∀ f1 (r : Nat × (Nat → Int)), r = frac (decide (t < 0)) (t.natAbs / Nat.gcd t.natAbs d) (d / Nat.gcd t.natAbs d) b → fr [18, 19] f f1 → f1 18 = some (oPg r.1) → f1 19 = some (aB 40 r.2) → Q (.inl none) n f1) : xct g M_X4_showFraction 0 0 [vR 18, vL t, vL (d : Int)] n f Q := by
  refine xct_of rfl rfl (Nat.le_of_ble_eq_true rfl) ?_
  have e12 : (10 : Nat) ^ 12 = 1000000000000 := by decide
  have e39 : (2 : Nat) ^ 39 = 549755813888 := by decide
  obtain ⟨G, hG⟩ : ∃ G, G = Nat.gcd t.natAbs d := ⟨_, rfl⟩
  rw [← hG] at hq
  have hG0 : 0 < G := by rw [hG]; exact Nat.gcd_pos_of_pos_right _ hd
  have hGd : G ≤ d := by rw [hG]; exact Nat.gcd_le_right _ hd
  have hal : t.natAbs / G ≤ t.natAbs := Nat.div_le_self _ _
  have hdl : d / G ≤ d := Nat.div_le_self _ _
  obtain ⟨R, hR⟩ : ∃ R, R = frac (decide (t < 0)) (t.natAbs / G) (d / G) b := ⟨_, rfl⟩
  have hE := dgE_le 12 (t.natAbs / G) (by omega)
  have T : ∀ (f1 : xH) (p : Nat × (Nat → Int)), p = fr0 (decide (t < 0)) b → fr [18, 19] f f1 → f1 18 = some (oPg p.1) → f1 19 = some (aB 40 p.2) → p.1 ≤ 1 → xw g M_X4_showFraction Q 0 0 39 [(0, vR 18), (1, vL t), (3, vL (d : Int)), (5, vL (t.natAbs : Int)), (7, vL (G : Int))] [] n f1 := by
    intro f1 p hp hf e18 e19 hp1
    refine xw_aload_n dX4_showFraction_39 rfl ?_
    refine xw_lload dX4_showFraction_40 rfl ?_
    refine xw_lload dX4_showFraction_42 rfl ?_
    refine xw_ldiv dX4_showFraction_44 (natL (by omega)) (natL (by omega)) (by omega) ?_
    refine xw_topl ((t.natAbs / G : Nat) : Int) rfl ?_
    refine xw_callV (rc := 0) (rs := 0) (mc2 := 0) (ms2 := 0) (a := 18) (As := [vL ((t.natAbs / G : Nat) : Int)]) (st := []) dX4_showFraction_45 mv_X4_31 e18 rfl rfl (by decide) (by decide) (Nat.le_of_ble_eq_true rfl) rfl (ct_addNumber e18 e19 (by omega) (by omega) (fun f2 hf2 i18 i19 => ?_))
    refine xw_lload_n dX4_showFraction_48 rfl ?_
    refine xw_lload dX4_showFraction_49 rfl ?_
    refine xw_ldiv dX4_showFraction_51 (natL (by omega)) (natL (by omega)) (by omega) ?_
    refine xw_topl ((d / G : Nat) : Int) rfl ?_
    refine xw_lconst (z := 1) dX4_showFraction_52 (by decide) ?_
    refine xw_lcmpeq (tgt := 71) dX4_showFraction_53 dX4_showFraction_54 (by decide) (natL (x := d / G) (by omega)) (by unfold inL; omega) (fun c_53 => ?_) (fun c_53 => ?_)
    · skip
      exact xw_vret dX4_showFraction_71 rfl (hq f2 R hR (fr_tr hf hf2) (by rw [hR]; unfold frac fr2; rw [if_pos (by omega), ← hp]; exact i18) (by rw [hR]; unfold frac fr2; rw [if_pos (by omega), ← hp]; exact i19))
    · skip
      refine xw_aload_n dX4_showFraction_57 rfl ?_
      refine xw_bipush (z := 47) dX4_showFraction_58 (by decide) ?_
      refine xw_callV (rc := 0) (rs := 0) (mc2 := 0) (ms2 := 0) (a := 18) (As := [vI ((47 : Nat) : Int)]) (st := []) dX4_showFraction_60 mv_X4_27 i18 rfl rfl (by decide) (by decide) (Nat.le_of_ble_eq_true rfl) rfl (ct_add i18 i19 (by omega) (by decide) ?_)
      refine xw_aload_n dX4_showFraction_63 rfl ?_
      refine xw_lload_n dX4_showFraction_64 rfl ?_
      refine xw_lload dX4_showFraction_65 rfl ?_
      refine xw_ldiv dX4_showFraction_67 (natL (by omega)) (natL (by omega)) (by omega) ?_
      refine xw_topl ((d / G : Nat) : Int) rfl ?_
      refine xw_callV (rc := 0) (rs := 0) (mc2 := 0) (ms2 := 0) (a := 18) (As := [vL ((d / G : Nat) : Int)]) (st := []) dX4_showFraction_68 mv_X4_31 (xup_s _ _ _) rfl rfl (by decide) (by decide) (Nat.le_of_ble_eq_true rfl) rfl (ct_addNumber (xup_s _ _ _) rfl (by omega) (by omega) (fun f3 hf3 j18 j19 => ?_))
      exact xw_vret dX4_showFraction_71 rfl (hq f3 R hR (fr_tr hf (fr_tr hf2 (fr_tr (fr_up (fr_up (fr_rf _ _) (by decide)) (by decide)) hf3))) (by rw [hR]; unfold frac fr2; rw [if_neg (by omega), ← hp]; exact j18) (by rw [hR]; unfold frac fr2; rw [if_neg (by omega), ← hp]; exact j19))
  refine xw_lload_n dX4_showFraction_0 rfl ?_
  refine xw_absL dX4_showFraction_1 mm_X4_13 mm_absL_s mm_ini mm_absL_c (by decide) (by decide) (Nat.le_of_ble_eq_true rfl) (by unfold inL; omega) ?_
  refine xw_topl (t.natAbs : Int) (by split <;> omega) ?_
  refine xw_lstore dX4_showFraction_4 (by decide) ?_
  refine xw_lload dX4_showFraction_6 rfl ?_
  refine xw_lload_n dX4_showFraction_8 rfl ?_
  refine xw_callS (rc := 0) (rs := 0) (mc2 := 0) (ms2 := 0) (As := [vL (t.natAbs : Int), vL (d : Int)]) (st := []) dX4_showFraction_9 ms_X4_19 rfl (by decide) (by decide) (Nat.le_of_ble_eq_true rfl) rfl (ct_gcd (by omega) (by omega) ?_)
  refine xw_topl (G : Int) (by rw [hG]) ?_
  refine xw_lstore dX4_showFraction_12 (by decide) ?_
  refine xw_lload dX4_showFraction_14 rfl ?_
  refine xw_lconst (z := 1) dX4_showFraction_16 (by decide) ?_
  refine xw_lcmpge (tgt := 22) dX4_showFraction_17 dX4_showFraction_18 (by decide) (natL (by omega)) (by unfold inL; omega) (fun c_17 => ?_) (fun c_17 => ?_)
  · skip
    refine xw_aload_n dX4_showFraction_22 rfl ?_
    refine xw_iconst dX4_showFraction_23 ?_
    refine xw_putfield dX4_showFraction_24 (fp_X4_23 _) h18 rfl rfl ?_
    rw [fX4_1]
    rw [show (0 : Int) = ((0 : Nat) : Int) from rfl]
    refine xw_lload_n dX4_showFraction_27 rfl ?_
    refine xw_lconst (z := 0) dX4_showFraction_28 (by decide) ?_
    refine xw_lcmpge (tgt := 39) dX4_showFraction_29 dX4_showFraction_30 (by decide) (by unfold inL; omega) (by unfold inL; omega) (fun c_29 => ?_) (fun c_29 => ?_)
    · skip
      first
        | exact xw_ls [(0, vR 18), (1, vL t), (3, vL (d : Int)), (5, vL (t.natAbs : Int)), (7, vL (G : Int))] ⟨rfl, rfl, rfl, rfl, rfl, trivial⟩ (T _ (0, b) (by unfold fr0; rw [decide_eq_false (by omega)]; rfl) (fr_up (fr_rf _ _) (by decide)) (xup_s _ _ _) h19 (Nat.zero_le 1))
        | exact xw_ls [(0, vR 18), (1, vL t), (3, vL (d : Int)), (5, vL (t.natAbs : Int)), (7, vL (G : Int))] ⟨rfl, rfl, rfl, rfl, rfl, trivial⟩ (T _ (1, xui b 0 45) (by unfold fr0; rw [decide_eq_true (by omega)]; rfl) (fr_up (fr_up (fr_up (fr_rf _ _) (by decide)) (by decide)) (by decide)) (xup_s _ _ _) rfl (Nat.le_refl 1))
    · skip
      refine xw_aload_n dX4_showFraction_33 rfl ?_
      refine xw_bipush (z := 45) dX4_showFraction_34 (by decide) ?_
      refine xw_callV (rc := 0) (rs := 0) (mc2 := 0) (ms2 := 0) (a := 18) (As := [vI ((45 : Nat) : Int)]) (st := []) dX4_showFraction_36 mv_X4_27 (xup_s _ _ _) rfl rfl (by decide) (by decide) (Nat.le_of_ble_eq_true rfl) rfl (ct_add (sz := 0) (xup_s _ _ _) h19 (by decide) (by decide) ?_)
      first
        | exact xw_ls [(0, vR 18), (1, vL t), (3, vL (d : Int)), (5, vL (t.natAbs : Int)), (7, vL (G : Int))] ⟨rfl, rfl, rfl, rfl, rfl, trivial⟩ (T _ (0, b) (by unfold fr0; rw [decide_eq_false (by omega)]; rfl) (fr_up (fr_rf _ _) (by decide)) (xup_s _ _ _) h19 (Nat.zero_le 1))
        | exact xw_ls [(0, vR 18), (1, vL t), (3, vL (d : Int)), (5, vL (t.natAbs : Int)), (7, vL (G : Int))] ⟨rfl, rfl, rfl, rfl, rfl, trivial⟩ (T _ (1, xui b 0 45) (by unfold fr0; rw [decide_eq_true (by omega)]; rfl) (fr_up (fr_up (fr_up (fr_rf _ _) (by decide)) (by decide)) (by decide)) (xup_s _ _ _) rfl (Nat.le_refl 1))
  · skip
    exfalso; omega
end C52
