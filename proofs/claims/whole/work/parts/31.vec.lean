/-! vectors of three: what the class reckons with them -/
def cr (a b : Nat → Int) (k : Nat) : Int := match k with
  | 0 => a 1 * b 2 - a 2 * b 1
  | 1 => a 2 * b 0 - a 0 * b 2
  | _ => a 0 * b 1 - a 1 * b 0
def dt (a b : Nat → Int) : Int := a 0 * b 0 + a 1 * b 1 + a 2 * b 2
def de (a b c : Nat → Int) : Int := a 0 * (b 1 * c 2 - b 2 * c 1) + a 1 * (b 2 * c 0 - b 0 * c 2) + a 2 * (b 0 * c 1 - b 1 * c 0)
abbrev aL (N : Nat) (c : Nat → Int) : xE := Sum.inl (1, N, Sum.inr (Sum.inl c))
abbrev aI (N : Nat) (c : Nat → Int) : xE := Sum.inl (0, N, Sum.inl c)
abbrev aZ (N : Nat) (c : Nat → Int) : xE := Sum.inl (2, N, Sum.inl c)
abbrev aB (N : Nat) (c : Nat → Int) : xE := Sum.inl (3, N, Sum.inl c)
def in3 (v : Nat → Int) : Prop := inL (v 0) ∧ inL (v 1) ∧ inL (v 2)
theorem lt3 {k : Nat} (h : k < 3) : k = 0 ∨ k = 1 ∨ k = 2 := by omega
section C31
variable {g : xG} {Q : xP} {n : Nat} {f : xH}
set_option maxHeartbeats 4000000 in
theorem ct_cross {a b c : Nat} {va vb vc : Nat → Int} (ha : f a = some (aL 3 va)) (hb : f b = some (aL 3 vb)) (hc : f c = some (aL 3 vc)) (hac : a ≠ c) (hbc : b ≠ c) (hq : Q (.inl none) n (xup f c (aL 3 (cr va vb)))) : xct g M_X6_cross 0 0 [vR a, vR b, vR c] n f Q := by
  refine xct_of rfl rfl (Nat.le_of_ble_eq_true rfl) ?_
  refine xw_aload_n dX6_cross_0 rfl ?_
  refine xw_iconst dX6_cross_1 ?_
  refine xw_aload_n dX6_cross_2 rfl ?_
  refine xw_iconst dX6_cross_3 ?_
  refine xw_lald dX6_cross_4 ha (j := 1) rfl (by decide) (by decide) ?_
  refine xw_aload_n dX6_cross_5 rfl ?_
  refine xw_iconst dX6_cross_6 ?_
  refine xw_lald dX6_cross_7 hb (j := 2) rfl (by decide) (by decide) ?_
  refine xw_lmul dX6_cross_8 ?_
  refine xw_aload_n dX6_cross_9 rfl ?_
  refine xw_iconst dX6_cross_10 ?_
  refine xw_lald dX6_cross_11 ha (j := 2) rfl (by decide) (by decide) ?_
  refine xw_aload_n dX6_cross_12 rfl ?_
  refine xw_iconst dX6_cross_13 ?_
  refine xw_lald dX6_cross_14 hb (j := 1) rfl (by decide) (by decide) ?_
  refine xw_lmul dX6_cross_15 ?_
  refine xw_lsub dX6_cross_16 ?_
  refine xw_last dX6_cross_17 hc (j := 0) rfl (by decide) (by decide) ?_
  refine xw_aload_n dX6_cross_18 rfl ?_
  refine xw_iconst dX6_cross_19 ?_
  refine xw_aload_n dX6_cross_20 rfl ?_
  refine xw_iconst dX6_cross_21 ?_
  refine xw_lald dX6_cross_22 ((xup_n f _ hac).trans ha) (j := 2) rfl (by decide) (by decide) ?_
  refine xw_aload_n dX6_cross_23 rfl ?_
  refine xw_iconst dX6_cross_24 ?_
  refine xw_lald dX6_cross_25 ((xup_n f _ hbc).trans hb) (j := 0) rfl (by decide) (by decide) ?_
  refine xw_lmul dX6_cross_26 ?_
  refine xw_aload_n dX6_cross_27 rfl ?_
  refine xw_iconst dX6_cross_28 ?_
  refine xw_lald dX6_cross_29 ((xup_n f _ hac).trans ha) (j := 0) rfl (by decide) (by decide) ?_
  refine xw_aload_n dX6_cross_30 rfl ?_
  refine xw_iconst dX6_cross_31 ?_
  refine xw_lald dX6_cross_32 ((xup_n f _ hbc).trans hb) (j := 2) rfl (by decide) (by decide) ?_
  refine xw_lmul dX6_cross_33 ?_
  refine xw_lsub dX6_cross_34 ?_
  refine xw_last dX6_cross_35 (xup_s _ _ _) (j := 1) rfl (by decide) (by decide) ?_
  refine xw_uu ?_
  refine xw_aload_n dX6_cross_36 rfl ?_
  refine xw_iconst dX6_cross_37 ?_
  refine xw_aload_n dX6_cross_38 rfl ?_
  refine xw_iconst dX6_cross_39 ?_
  refine xw_lald dX6_cross_40 ((xup_n f _ hac).trans ha) (j := 0) rfl (by decide) (by decide) ?_
  refine xw_aload_n dX6_cross_41 rfl ?_
  refine xw_iconst dX6_cross_42 ?_
  refine xw_lald dX6_cross_43 ((xup_n f _ hbc).trans hb) (j := 1) rfl (by decide) (by decide) ?_
  refine xw_lmul dX6_cross_44 ?_
  refine xw_aload_n dX6_cross_45 rfl ?_
  refine xw_iconst dX6_cross_46 ?_
  refine xw_lald dX6_cross_47 ((xup_n f _ hac).trans ha) (j := 1) rfl (by decide) (by decide) ?_
  refine xw_aload_n dX6_cross_48 rfl ?_
  refine xw_iconst dX6_cross_49 ?_
  refine xw_lald dX6_cross_50 ((xup_n f _ hbc).trans hb) (j := 0) rfl (by decide) (by decide) ?_
  refine xw_lmul dX6_cross_51 ?_
  refine xw_lsub dX6_cross_52 ?_
  refine xw_last dX6_cross_53 (xup_s _ _ _) (j := 2) rfl (by decide) (by decide) ?_
  refine xw_uu ?_
  refine xw_cgL (c1 := cr va vb) (fun k hk => by rcases lt3 hk with rfl | rfl | rfl <;> rfl) ?_
  exact xw_vret dX6_cross_54 rfl hq
set_option maxHeartbeats 4000000 in
theorem ct_dot {a b : Nat} {va vb : Nat → Int} (ha : f a = some (aL 3 va)) (hb : f b = some (aL 3 vb)) (hq : Q (.inl (some (vL (dt va vb)))) n f) : xct g M_X6_dot 0 0 [vR a, vR b] n f Q := by
  refine xct_of rfl rfl (Nat.le_of_ble_eq_true rfl) ?_
  refine xw_aload_n dX6_dot_0 rfl ?_
  refine xw_iconst dX6_dot_1 ?_
  refine xw_lald dX6_dot_2 ha (j := 0) rfl (by decide) (by decide) ?_
  refine xw_aload_n dX6_dot_3 rfl ?_
  refine xw_iconst dX6_dot_4 ?_
  refine xw_lald dX6_dot_5 hb (j := 0) rfl (by decide) (by decide) ?_
  refine xw_lmul dX6_dot_6 ?_
  refine xw_aload_n dX6_dot_7 rfl ?_
  refine xw_iconst dX6_dot_8 ?_
  refine xw_lald dX6_dot_9 ha (j := 1) rfl (by decide) (by decide) ?_
  refine xw_aload_n dX6_dot_10 rfl ?_
  refine xw_iconst dX6_dot_11 ?_
  refine xw_lald dX6_dot_12 hb (j := 1) rfl (by decide) (by decide) ?_
  refine xw_lmul dX6_dot_13 ?_
  refine xw_ladd dX6_dot_14 ?_
  refine xw_aload_n dX6_dot_15 rfl ?_
  refine xw_iconst dX6_dot_16 ?_
  refine xw_lald dX6_dot_17 ha (j := 2) rfl (by decide) (by decide) ?_
  refine xw_aload_n dX6_dot_18 rfl ?_
  refine xw_iconst dX6_dot_19 ?_
  refine xw_lald dX6_dot_20 hb (j := 2) rfl (by decide) (by decide) ?_
  refine xw_lmul dX6_dot_21 ?_
  refine xw_ladd dX6_dot_22 ?_
  exact xw_lret dX6_dot_23 rfl hq
set_option maxHeartbeats 4000000 in
theorem ct_det {a b c : Nat} {va vb vc : Nat → Int} (ha : f a = some (aL 3 va)) (hb : f b = some (aL 3 vb)) (hc : f c = some (aL 3 vc)) (hq : Q (.inl (some (vL (de va vb vc)))) n f) : xct g M_X6_det 0 0 [vR a, vR b, vR c] n f Q := by
  refine xct_of rfl rfl (Nat.le_of_ble_eq_true rfl) ?_
  refine xw_aload_n dX6_det_0 rfl ?_
  refine xw_iconst dX6_det_1 ?_
  refine xw_lald dX6_det_2 ha (j := 0) rfl (by decide) (by decide) ?_
  refine xw_aload_n dX6_det_3 rfl ?_
  refine xw_iconst dX6_det_4 ?_
  refine xw_lald dX6_det_5 hb (j := 1) rfl (by decide) (by decide) ?_
  refine xw_aload_n dX6_det_6 rfl ?_
  refine xw_iconst dX6_det_7 ?_
  refine xw_lald dX6_det_8 hc (j := 2) rfl (by decide) (by decide) ?_
  refine xw_lmul dX6_det_9 ?_
  refine xw_aload_n dX6_det_10 rfl ?_
  refine xw_iconst dX6_det_11 ?_
  refine xw_lald dX6_det_12 hb (j := 2) rfl (by decide) (by decide) ?_
  refine xw_aload_n dX6_det_13 rfl ?_
  refine xw_iconst dX6_det_14 ?_
  refine xw_lald dX6_det_15 hc (j := 1) rfl (by decide) (by decide) ?_
  refine xw_lmul dX6_det_16 ?_
  refine xw_lsub dX6_det_17 ?_
  refine xw_lmul dX6_det_18 ?_
  refine xw_aload_n dX6_det_19 rfl ?_
  refine xw_iconst dX6_det_20 ?_
  refine xw_lald dX6_det_21 ha (j := 1) rfl (by decide) (by decide) ?_
  refine xw_aload_n dX6_det_22 rfl ?_
  refine xw_iconst dX6_det_23 ?_
  refine xw_lald dX6_det_24 hb (j := 2) rfl (by decide) (by decide) ?_
  refine xw_aload_n dX6_det_25 rfl ?_
  refine xw_iconst dX6_det_26 ?_
  refine xw_lald dX6_det_27 hc (j := 0) rfl (by decide) (by decide) ?_
  refine xw_lmul dX6_det_28 ?_
  refine xw_aload_n dX6_det_29 rfl ?_
  refine xw_iconst dX6_det_30 ?_
  refine xw_lald dX6_det_31 hb (j := 0) rfl (by decide) (by decide) ?_
  refine xw_aload_n dX6_det_32 rfl ?_
  refine xw_iconst dX6_det_33 ?_
  refine xw_lald dX6_det_34 hc (j := 2) rfl (by decide) (by decide) ?_
  refine xw_lmul dX6_det_35 ?_
  refine xw_lsub dX6_det_36 ?_
  refine xw_lmul dX6_det_37 ?_
  refine xw_ladd dX6_det_38 ?_
  refine xw_aload_n dX6_det_39 rfl ?_
  refine xw_iconst dX6_det_40 ?_
  refine xw_lald dX6_det_41 ha (j := 2) rfl (by decide) (by decide) ?_
  refine xw_aload_n dX6_det_42 rfl ?_
  refine xw_iconst dX6_det_43 ?_
  refine xw_lald dX6_det_44 hb (j := 0) rfl (by decide) (by decide) ?_
  refine xw_aload_n dX6_det_45 rfl ?_
  refine xw_iconst dX6_det_46 ?_
  refine xw_lald dX6_det_47 hc (j := 1) rfl (by decide) (by decide) ?_
  refine xw_lmul dX6_det_48 ?_
  refine xw_aload_n dX6_det_49 rfl ?_
  refine xw_iconst dX6_det_50 ?_
  refine xw_lald dX6_det_51 hb (j := 1) rfl (by decide) (by decide) ?_
  refine xw_aload_n dX6_det_52 rfl ?_
  refine xw_iconst dX6_det_53 ?_
  refine xw_lald dX6_det_54 hc (j := 0) rfl (by decide) (by decide) ?_
  refine xw_lmul dX6_det_55 ?_
  refine xw_lsub dX6_det_56 ?_
  refine xw_lmul dX6_det_57 ?_
  refine xw_ladd dX6_det_58 ?_
  exact xw_lret dX6_det_59 rfl hq
set_option maxHeartbeats 4000000 in
theorem ct_isZero {a : Nat} {va : Nat → Int} (ha : f a = some (aL 3 va)) (hr : in3 va) (h1 : (va 0 = 0 ∧ va 1 = 0 ∧ va 2 = 0) → Q (.inl (some (vI 1))) n f) (h0 : ¬ (va 0 = 0 ∧ va 1 = 0 ∧ va 2 = 0) → Q (.inl (some (vI 0))) n f) : xct g M_X6_isZero 0 0 [vR a] n f Q := by
  refine xct_of rfl rfl (Nat.le_of_ble_eq_true rfl) ?_
  obtain ⟨r0, r1, r2⟩ := hr
  unfold inL at r0 r1 r2
  refine xw_aload_n dX6_isZero_0 rfl ?_
  refine xw_iconst dX6_isZero_1 ?_
  refine xw_lald dX6_isZero_2 ha (j := 0) rfl (by decide) (by decide) ?_
  refine xw_lconst (z := 0) dX6_isZero_3 (by decide) ?_
  refine xw_lcmpne (tgt := 28) dX6_isZero_4 dX6_isZero_5 (by decide) (by unfold inL; omega) (by unfold inL; omega) (fun c_4 => ?_) (fun c_4 => ?_)
  · skip
    refine xw_iconst dX6_isZero_28 ?_
    exact xw_zret dX6_isZero_29 rfl rfl (by first | exact h1 (by omega) | exact h0 (by omega))
  · skip
    refine xw_aload_n dX6_isZero_8 rfl ?_
    refine xw_iconst dX6_isZero_9 ?_
    refine xw_lald dX6_isZero_10 ha (j := 1) rfl (by decide) (by decide) ?_
    refine xw_lconst (z := 0) dX6_isZero_11 (by decide) ?_
    refine xw_lcmpne (tgt := 28) dX6_isZero_12 dX6_isZero_13 (by decide) (by unfold inL; omega) (by unfold inL; omega) (fun c_12 => ?_) (fun c_12 => ?_)
    · skip
      refine xw_iconst dX6_isZero_28 ?_
      exact xw_zret dX6_isZero_29 rfl rfl (by first | exact h1 (by omega) | exact h0 (by omega))
    · skip
      refine xw_aload_n dX6_isZero_16 rfl ?_
      refine xw_iconst dX6_isZero_17 ?_
      refine xw_lald dX6_isZero_18 ha (j := 2) rfl (by decide) (by decide) ?_
      refine xw_lconst (z := 0) dX6_isZero_19 (by decide) ?_
      refine xw_lcmpne (tgt := 28) dX6_isZero_20 dX6_isZero_21 (by decide) (by unfold inL; omega) (by unfold inL; omega) (fun c_20 => ?_) (fun c_20 => ?_)
      · skip
        refine xw_iconst dX6_isZero_28 ?_
        exact xw_zret dX6_isZero_29 rfl rfl (by first | exact h1 (by omega) | exact h0 (by omega))
      · skip
        refine xw_iconst dX6_isZero_24 ?_
        refine xw_goto (tgt := 29) dX6_isZero_25 (by decide) ?_
        exact xw_zret dX6_isZero_29 rfl rfl (by first | exact h1 (by omega) | exact h0 (by omega))
set_option maxHeartbeats 4000000 in
theorem ct_isPart {a b : Int} (ha : inL a) (hb : inL b) (h1 : (0 ≤ a ∧ a ≤ b) → Q (.inl (some (vI 1))) n f) (h0 : ¬ (0 ≤ a ∧ a ≤ b) → Q (.inl (some (vI 0))) n f) : xct g M_X6_isPart 0 0 [vL a, vL b] n f Q := by
  refine xct_of rfl rfl (Nat.le_of_ble_eq_true rfl) ?_
  unfold inL at ha hb
  refine xw_lload_n dX6_isPart_0 rfl ?_
  refine xw_lconst (z := 0) dX6_isPart_1 (by decide) ?_
  refine xw_lcmplt (tgt := 16) dX6_isPart_2 dX6_isPart_3 (by decide) (by unfold inL; omega) (by unfold inL; omega) (fun c_2 => ?_) (fun c_2 => ?_)
  · skip
    refine xw_iconst dX6_isPart_16 ?_
    exact xw_zret dX6_isPart_17 rfl rfl (by first | exact h1 (by omega) | exact h0 (by omega))
  · skip
    refine xw_lload_n dX6_isPart_6 rfl ?_
    refine xw_lload_n dX6_isPart_7 rfl ?_
    refine xw_lcmpgt (tgt := 16) dX6_isPart_8 dX6_isPart_9 (by decide) (by unfold inL; omega) (by unfold inL; omega) (fun c_8 => ?_) (fun c_8 => ?_)
    · skip
      refine xw_iconst dX6_isPart_16 ?_
      exact xw_zret dX6_isPart_17 rfl rfl (by first | exact h1 (by omega) | exact h0 (by omega))
    · skip
      refine xw_iconst dX6_isPart_12 ?_
      refine xw_goto (tgt := 17) dX6_isPart_13 (by decide) ?_
      exact xw_zret dX6_isPart_17 rfl rfl (by first | exact h1 (by omega) | exact h0 (by omega))
/-- the first of the widest of three -/
def ab (z : Int) : Int := if 0 < z then z else -z
def wide1 (v : Nat → Int) : Nat := if ab (v 0) < ab (v 1) then 1 else 0
def wide (v : Nat → Int) : Nat := if ab (v (wide1 v)) < ab (v 2) then 2 else wide1 v
theorem wide1_lt (v : Nat → Int) : wide1 v < 2 := by unfold wide1; split <;> omega
theorem wide_lt (v : Nat → Int) : wide v < 3 := by have := wide1_lt v; unfold wide; split <;> omega
theorem ab_in {z : Int} (h : inL z) (h1 : z ≠ -9223372036854775808) : inL (ab z) := by unfold ab inL at *; split <;> omega
def in3s (v : Nat → Int) : Prop := ∀ k, k < 3 → -4611686018427387904 ≤ v k ∧ v k ≤ 4611686018427387904
theorem in3s_3 {v : Nat → Int} (h : in3s v) : in3 v := ⟨by have := h 0 (by decide); unfold inL; omega, by have := h 1 (by decide); unfold inL; omega, by have := h 2 (by decide); unfold inL; omega⟩
theorem in3s_ab {v : Nat → Int} (h : in3s v) {k : Nat} (hk : k < 3) : inL (ab (v k)) := by have := h k hk; unfold ab inL; split <;> omega
theorem in3s_L {v : Nat → Int} (h : in3s v) {k : Nat} (hk : k < 3) : inL (v k) := by have := h k hk; unfold inL; omega
set_option maxHeartbeats 4000000 in
theorem ct_widest {a : Nat} {v : Nat → Int} (ha : f a = some (aL 3 v)) (hr : in3s v) (hq : Q (.inl (some (vI (wide v : Int)))) n f) : xct g M_X6_widestAxis 0 0 [vR a] n f Q := by
  refine xct_of rfl rfl (Nat.le_of_ble_eq_true rfl) ?_
  refine xw_iconst dX6_widestAxis_0 ?_
  refine xw_istore_n dX6_widestAxis_1 (by decide) ?_
  refine xw_iconst dX6_widestAxis_2 ?_
  refine xw_istore_n dX6_widestAxis_3 (by decide) ?_
  have E : ∀ w : Nat, w < 3 → Q (.inl (some (vI (w : Int)))) n f → xw g M_X6_widestAxis Q 0 0 4 [(0, vR a), (1, vI (w : Int)), (2, vI 3)] [] n f := by
    intro w hw hq
    refine xw_iload_n dX6_widestAxis_4 rfl ?_
    refine xw_iconst dX6_widestAxis_5 ?_
    refine xw_icmpge (tgt := 33) dX6_widestAxis_6 (by decide) (by unfold inI; omega) (by unfold inI; omega) (fun c_6 => ?_) (fun c_6 => ?_)
    · skip
      refine xw_iload_n dX6_widestAxis_33 rfl ?_
      exact xw_iret dX6_widestAxis_34 rfl hq
    · skip
      exfalso; omega
  have S : ∀ (i w : Nat), i < 3 → w < 3 → (ab (v w) < ab (v i) → xw g M_X6_widestAxis Q 0 0 4 [(0, vR a), (1, vI (i : Int)), (2, vI ((i + 1 : Nat) : Int))] [] n f) → (¬ ab (v w) < ab (v i) → xw g M_X6_widestAxis Q 0 0 4 [(0, vR a), (1, vI (w : Int)), (2, vI ((i + 1 : Nat) : Int))] [] n f) → xw g M_X6_widestAxis Q 0 0 4 [(0, vR a), (1, vI (w : Int)), (2, vI (i : Int))] [] n f := by
    intro i w hi hw k1 k2
    refine xw_iload_n dX6_widestAxis_4 rfl ?_
    refine xw_iconst dX6_widestAxis_5 ?_
    refine xw_icmpge (tgt := 33) dX6_widestAxis_6 (by decide) (by unfold inI; omega) (by unfold inI; omega) (fun c_6 => ?_) (fun c_6 => ?_)
    · skip
      exfalso; omega
    · skip
      refine xw_aload_n dX6_widestAxis_9 rfl ?_
      refine xw_iload_n dX6_widestAxis_10 rfl ?_
      refine xw_lald dX6_widestAxis_11 ha rfl (by omega) (by decide) ?_
      refine xw_absL dX6_widestAxis_12 mm_X6_127 mm_absL_s mm_ini mm_absL_c (by decide) (by decide) (Nat.le_of_ble_eq_true rfl) (in3s_L hr hi) ?_
      refine xw_aload_n dX6_widestAxis_15 rfl ?_
      refine xw_iload_n dX6_widestAxis_16 rfl ?_
      refine xw_lald dX6_widestAxis_17 ha rfl (by omega) (by decide) ?_
      refine xw_absL dX6_widestAxis_18 mm_X6_127 mm_absL_s mm_ini mm_absL_c (by decide) (by decide) (Nat.le_of_ble_eq_true rfl) (in3s_L hr hw) ?_
      refine xw_lcmple (tgt := 27) dX6_widestAxis_21 dX6_widestAxis_22 (by decide) (in3s_ab hr hi) (in3s_ab hr hw) (fun c_21 => ?_) (fun c_21 => ?_)
      · skip
        refine xw_iinc dX6_widestAxis_27 rfl (by decide) ?_
        refine xw_goto (tgt := 4) dX6_widestAxis_30 (by decide) ?_
        first | exact xw_ls [(0, vR a), (1, vI (w : Int)), (2, vI ((i + 1 : Nat) : Int))] ⟨rfl, rfl, rfl, trivial⟩ (k2 (fun h => absurd (show ab (v i) ≤ ab (v w) from c_21) (by omega))) | exact xw_ls [(0, vR a), (1, vI (i : Int)), (2, vI ((i + 1 : Nat) : Int))] ⟨rfl, rfl, rfl, trivial⟩ (k1 (by have : ¬ ab (v i) ≤ ab (v w) := c_21; omega))
      · skip
        refine xw_iload_n dX6_widestAxis_25 rfl ?_
        refine xw_istore_n dX6_widestAxis_26 (by decide) ?_
        refine xw_iinc dX6_widestAxis_27 rfl (by decide) ?_
        refine xw_goto (tgt := 4) dX6_widestAxis_30 (by decide) ?_
        first | exact xw_ls [(0, vR a), (1, vI (w : Int)), (2, vI ((i + 1 : Nat) : Int))] ⟨rfl, rfl, rfl, trivial⟩ (k2 (fun h => absurd (show ab (v i) ≤ ab (v w) from c_21) (by omega))) | exact xw_ls [(0, vR a), (1, vI (i : Int)), (2, vI ((i + 1 : Nat) : Int))] ⟨rfl, rfl, rfl, trivial⟩ (k1 (by have : ¬ ab (v i) ≤ ab (v w) := c_21; omega))
  unfold wide wide1 at hq
  refine xw_ls [(0, vR a), (1, vI ((0 : Nat) : Int)), (2, vI ((1 : Nat) : Int))] ⟨rfl, rfl, rfl, trivial⟩ ?_
  refine S 1 0 (by decide) (by decide) (fun h => ?_) (fun h => ?_)
  · rw [if_pos h] at hq
    refine S 2 1 (by decide) (by decide) (fun h2 => ?_) (fun h2 => ?_)
    · rw [if_pos h2] at hq
      exact E 2 (by decide) hq
    · rw [if_neg h2] at hq
      exact E 1 (by decide) hq
  · rw [if_neg h] at hq
    refine S 2 0 (by decide) (by decide) (fun h2 => ?_) (fun h2 => ?_)
    · rw [if_pos h2] at hq
      exact E 2 (by decide) hq
    · rw [if_neg h2] at hq
      exact E 0 (by decide) hq
end C31
