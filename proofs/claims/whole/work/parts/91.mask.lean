/-! the model: bars, free, lift -/
section C91
variable {g : xG} {y : xM} {Q : xP} {n : Nat} {f : xH} {th : Int} {bn : Nat} {β : Nat → xBx} {gn : Nat} {σ : Nat → xSt} {d : Nat → Int} {as : List xAc} {ps : Nat} {pb : Nat → Int} {pu : Nat} {pr : Nat → Int}
theorem hre_no {z : Int} {s : Nat} (e1 : z = (s : Int)) (e2 : s < gn) (e3 : hrS (σ s) = 1) : hre gn σ z := ⟨s, e1, e2, e3⟩
set_option maxHeartbeats 4000000 in
theorem mct_bars {a b : Int} (h : MS f th bn β gn σ d as ps pb pu pr) (ha : inI a) (hb : inI b) (h1 : ∀ (s t : Nat) (r : Int) f1, a = (s : Int) → b = (t : Int) → s < gn → t < gn → hrS (σ s) = 1 → hrS (σ t) = 1 → MS f1 0 bn β gn σ d as ps pb pu pr → kC f f1 → ((r = 1 ∧ mBar d σ s t) ∨ (r = 0 ∧ ¬ mBar d σ s t)) → Q (.inl (some (vI r))) n f1) (hx1 : ¬ (hre gn σ a ∧ hre gn σ b) → ∀ f1, MS f1 1 bn β gn σ d as ps pb pu pr → kC f f1 → Q (.inl (some (vI 0))) n f1) : xct g M_X10_bars 0 0 [vR 38, vI a, vI b] n f Q := by
  refine xct_of rfl rfl (Nat.le_of_ble_eq_true rfl) ?_
  have S : ∀ F, MS F 0 bn β gn σ d as ps pb pu pr → kC f F → xw g M_X10_bars Q 0 0 5 [(0, vR 38), (1, vI a), (2, vI b)] [] n F := by
    intro F hF kF
    obtain ⟨m, hm, hE⟩ := MS_E hF
    obtain ⟨h38, m6, _, hst, _⟩ := id hE
    have m0 : m 0 = 0 := hm.1
    have T9 := MS_th 1 hF h38 hm
    refine xw_aload_n dX10_bars_5 rfl ?_
    refine xw_iload_n dX10_bars_6 rfl ?_
    refine xw_callV (rc := 0) (rs := 0) (mc2 := 0) (ms2 := 0) (a := 38) (As := [vI a]) (st := []) dX10_bars_7 mv_X10_213 h38 rfl rfl (by decide) (by decide) (Nat.le_of_ble_eq_true rfl) rfl (ct_isThere h38 m0 m6 hst ha (fun s e1 e2 e3 => ?_) (fun q1 => ?_))
    · skip
      refine xw_ifeq (tgt := 34) dX10_bars_10 (by decide) (by unfold inI; omega) (fun c => absurd c (by decide)) (fun _ => ?_)
      refine xw_aload_n dX10_bars_13 rfl ?_
      refine xw_iload_n dX10_bars_14 rfl ?_
      refine xw_callV (rc := 0) (rs := 0) (mc2 := 0) (ms2 := 0) (a := 38) (As := [vI b]) (st := []) dX10_bars_15 mv_X10_213 h38 rfl rfl (by decide) (by decide) (Nat.le_of_ble_eq_true rfl) rfl (ct_isThere h38 m0 m6 hst hb (fun t t1 t2 t3 => ?_) (fun q2 => ?_))
      · skip
        refine xw_ifeq (tgt := 34) dX10_bars_18 (by decide) (by unfold inI; omega) (fun c => absurd c (by decide)) (fun _ => ?_)
        refine xw_aload_n dX10_bars_21 rfl ?_
        refine xw_iload_n dX10_bars_22 rfl ?_
        subst e1 t1
        refine xw_iload_n dX10_bars_23 rfl ?_
        refine xw_callV (rc := 0) (rs := 0) (mc2 := 0) (ms2 := 0) (a := 38) (As := [vI (s : Int), vI (t : Int)]) (st := []) dX10_bars_24 mv_X10_261 h38 rfl rfl (by decide) (by decide) (Nat.le_of_ble_eq_true rfl) rfl (ct_isBar hE e2 t2 (fun F2 m2 c1 c2 => ?_) (fun F2 m2 c1 c2 => ?_))
        · skip
          refine xw_ifeq (tgt := 34) dX10_bars_27 (by decide) (by unfold inI; omega) (fun c => absurd c (by decide)) (fun _ => ?_)
          refine xw_iconst dX10_bars_30 ?_
          refine xw_goto (tgt := 35) dX10_bars_31 (by decide) ?_
          exact xw_zret dX10_bars_35 rfl rfl (by first
            | exact h1 s t 1 F2 rfl rfl e2 t2 e3 t3 (MS_cr hF hm c2).1 (kC_tr kF (MS_cr hF hm c2).2.1) (Or.inl ⟨rfl, c1⟩)
            | exact h1 s t 0 F2 rfl rfl e2 t2 e3 t3 (MS_cr hF hm c2).1 (kC_tr kF (MS_cr hF hm c2).2.1) (Or.inr ⟨rfl, c1⟩)
            | exact hx1 (fun k => q2 k.2) _ T9.1 (kC_tr kF T9.2)
            | exact hx1 (fun k => q1 k.1) _ T9.1 (kC_tr kF T9.2))
        · skip
          refine xw_ifeq (tgt := 34) dX10_bars_27 (by decide) (by unfold inI; omega) (fun _ => ?_) (fun c => absurd c (by decide))
          refine xw_iconst dX10_bars_34 ?_
          exact xw_zret dX10_bars_35 rfl rfl (by first
            | exact h1 s t 1 F2 rfl rfl e2 t2 e3 t3 (MS_cr hF hm c2).1 (kC_tr kF (MS_cr hF hm c2).2.1) (Or.inl ⟨rfl, c1⟩)
            | exact h1 s t 0 F2 rfl rfl e2 t2 e3 t3 (MS_cr hF hm c2).1 (kC_tr kF (MS_cr hF hm c2).2.1) (Or.inr ⟨rfl, c1⟩)
            | exact hx1 (fun k => q2 k.2) _ T9.1 (kC_tr kF T9.2)
            | exact hx1 (fun k => q1 k.1) _ T9.1 (kC_tr kF T9.2))
      · skip
        refine xw_ifeq (tgt := 34) dX10_bars_18 (by decide) (by unfold inI; omega) (fun _ => ?_) (fun c => absurd c (by decide))
        refine xw_iconst dX10_bars_34 ?_
        exact xw_zret dX10_bars_35 rfl rfl (by first
          | exact h1 s t 1 F2 rfl rfl e2 t2 e3 t3 (MS_cr hF hm c2).1 (kC_tr kF (MS_cr hF hm c2).2.1) (Or.inl ⟨rfl, c1⟩)
          | exact h1 s t 0 F2 rfl rfl e2 t2 e3 t3 (MS_cr hF hm c2).1 (kC_tr kF (MS_cr hF hm c2).2.1) (Or.inr ⟨rfl, c1⟩)
          | exact hx1 (fun k => q2 k.2) _ T9.1 (kC_tr kF T9.2)
          | exact hx1 (fun k => q1 k.1) _ T9.1 (kC_tr kF T9.2))
    · skip
      refine xw_ifeq (tgt := 34) dX10_bars_10 (by decide) (by unfold inI; omega) (fun _ => ?_) (fun c => absurd c (by decide))
      refine xw_iconst dX10_bars_34 ?_
      exact xw_zret dX10_bars_35 rfl rfl (by first
        | exact h1 s t 1 F2 rfl rfl e2 t2 e3 t3 (MS_cr hF hm c2).1 (kC_tr kF (MS_cr hF hm c2).2.1) (Or.inl ⟨rfl, c1⟩)
        | exact h1 s t 0 F2 rfl rfl e2 t2 e3 t3 (MS_cr hF hm c2).1 (kC_tr kF (MS_cr hF hm c2).2.1) (Or.inr ⟨rfl, c1⟩)
        | exact hx1 (fun k => q2 k.2) _ T9.1 (kC_tr kF T9.2)
        | exact hx1 (fun k => q1 k.1) _ T9.1 (kC_tr kF T9.2))
  obtain ⟨m, h38, hm, _⟩ := id h
  refine xw_aload_n dX10_bars_0 rfl ?_
  refine xw_iconst dX10_bars_1 ?_
  refine xw_putfield dX10_bars_2 (fp_X10_1 _) h38 rfl rfl ?_
  rw [xmd_0]
  exact S _ (MS_th 0 h h38 hm).1 (MS_th 0 h h38 hm).2
set_option maxHeartbeats 4000000 in
theorem mct_free {a : Int} (h : MS f th bn β gn σ d as ps pb pu pr) (ha : inI a) (h1 : ∀ (s : Nat) (r : Int) f1, a = (s : Int) → s < gn → hrS (σ s) = 1 → MS f1 0 bn β gn σ d as ps pb pu pr → kC f f1 → ((r = 1 ∧ ∀ o, o < gn → hrS (σ o) = 1 → ¬ mBar d σ o s) ∨ (r = 0 ∧ ¬ ∀ o, o < gn → hrS (σ o) = 1 → ¬ mBar d σ o s)) → Q (.inl (some (vI r))) n f1) (hx1 : ¬ hre gn σ a → ∀ f1, MS f1 1 bn β gn σ d as ps pb pu pr → kC f f1 → Q (.inl (some (vI 0))) n f1) : xct g M_X10_free 0 0 [vR 38, vI a] n f Q := by
  refine xct_of rfl rfl (Nat.le_of_ble_eq_true rfl) ?_
  have S : ∀ F, MS F 0 bn β gn σ d as ps pb pu pr → kC f F → xw g M_X10_free Q 0 0 5 [(0, vR 38), (1, vI a)] [] n F := by
    intro F hF kF
    obtain ⟨m, hm, hE⟩ := MS_E hF
    obtain ⟨h38, m6, _, hst, _⟩ := id hE
    have m0 : m 0 = 0 := hm.1
    have T9 := MS_th 1 hF h38 hm
    refine xw_aload_n dX10_free_5 rfl ?_
    refine xw_iload_n dX10_free_6 rfl ?_
    refine xw_callV (rc := 0) (rs := 0) (mc2 := 0) (ms2 := 0) (a := 38) (As := [vI a]) (st := []) dX10_free_7 mv_X10_213 h38 rfl rfl (by decide) (by decide) (Nat.le_of_ble_eq_true rfl) rfl (ct_isThere h38 m0 m6 hst ha (fun s e1 e2 e3 => ?_) (fun q1 => ?_))
    · skip
      refine xw_ifeq (tgt := 25) dX10_free_10 (by decide) (by unfold inI; omega) (fun c => absurd c (by decide)) (fun _ => ?_)
      refine xw_aload_n dX10_free_13 rfl ?_
      refine xw_iload_n dX10_free_14 rfl ?_
      subst e1
      refine xw_callV (rc := 0) (rs := 0) (mc2 := 0) (ms2 := 0) (a := 38) (As := [vI (s : Int)]) (st := []) dX10_free_15 mv_X10_221 h38 rfl rfl (by decide) (by decide) (Nat.le_of_ble_eq_true rfl) rfl (mct_isFree hE e2 (fun F2 m2 c1 c2 => ?_) (fun F2 m2 c1 c2 => ?_))
      · skip
        refine xw_ifeq (tgt := 25) dX10_free_18 (by decide) (by unfold inI; omega) (fun c => absurd c (by decide)) (fun _ => ?_)
        refine xw_iconst dX10_free_21 ?_
        refine xw_goto (tgt := 26) dX10_free_22 (by decide) ?_
        exact xw_zret dX10_free_26 rfl rfl (by first
          | exact h1 s 1 F2 rfl e2 e3 (MS_cr hF hm c2).1 (kC_tr kF (MS_cr hF hm c2).2.1) (Or.inl ⟨rfl, c1⟩)
          | exact h1 s 0 F2 rfl e2 e3 (MS_cr hF hm c2).1 (kC_tr kF (MS_cr hF hm c2).2.1) (Or.inr ⟨rfl, c1⟩)
          | exact hx1 q1 _ T9.1 (kC_tr kF T9.2))
      · skip
        refine xw_ifeq (tgt := 25) dX10_free_18 (by decide) (by unfold inI; omega) (fun _ => ?_) (fun c => absurd c (by decide))
        refine xw_iconst dX10_free_25 ?_
        exact xw_zret dX10_free_26 rfl rfl (by first
          | exact h1 s 1 F2 rfl e2 e3 (MS_cr hF hm c2).1 (kC_tr kF (MS_cr hF hm c2).2.1) (Or.inl ⟨rfl, c1⟩)
          | exact h1 s 0 F2 rfl e2 e3 (MS_cr hF hm c2).1 (kC_tr kF (MS_cr hF hm c2).2.1) (Or.inr ⟨rfl, c1⟩)
          | exact hx1 q1 _ T9.1 (kC_tr kF T9.2))
    · skip
      refine xw_ifeq (tgt := 25) dX10_free_10 (by decide) (by unfold inI; omega) (fun _ => ?_) (fun c => absurd c (by decide))
      refine xw_iconst dX10_free_25 ?_
      exact xw_zret dX10_free_26 rfl rfl (by first
        | exact h1 s 1 F2 rfl e2 e3 (MS_cr hF hm c2).1 (kC_tr kF (MS_cr hF hm c2).2.1) (Or.inl ⟨rfl, c1⟩)
        | exact h1 s 0 F2 rfl e2 e3 (MS_cr hF hm c2).1 (kC_tr kF (MS_cr hF hm c2).2.1) (Or.inr ⟨rfl, c1⟩)
        | exact hx1 q1 _ T9.1 (kC_tr kF T9.2))
  obtain ⟨m, h38, hm, _⟩ := id h
  refine xw_aload_n dX10_free_0 rfl ?_
  refine xw_iconst dX10_free_1 ?_
  refine xw_putfield dX10_free_2 (fp_X10_1 _) h38 rfl rfl ?_
  rw [xmd_0]
  exact S _ (MS_th 0 h h38 hm).1 (MS_th 0 h h38 hm).2
set_option maxHeartbeats 4000000 in
theorem mct_lift {a : Int} (h : MS f th bn β gn σ d as ps pb pu pr) (hch : ∀ x ∈ as, x.2.1.toNat < gn) (ha : inI a)
    (h1 : ∀ (s : Nat) f1, a = (s : Int) → s < gn → hrS (σ s) = 1 → (∀ o, o < gn → hrS (σ o) = 1 → ¬ mBar d σ o s) → MS f1 0 bn β gn (xui σ s (stS (σ s) 0)) d (aCt 3 (s : Int) 0 0 0 :: as.take 7) ps pb pu pr → kC f f1 → Q (.inl (some (vI 1))) n f1)
    (h0 : ∀ (s : Nat) f1, a = (s : Int) → s < gn → hrS (σ s) = 1 → ¬ (∀ o, o < gn → hrS (σ o) = 1 → ¬ mBar d σ o s) → MS f1 0 bn β gn σ d as ps pb pu pr → kC f f1 → Q (.inl (some (vI 0))) n f1)
    (hx1 : ¬ hre gn σ a → ∀ f1, MS f1 1 bn β gn σ d as ps pb pu pr → kC f f1 → Q (.inl (some (vI 0))) n f1) : xct g M_X10_lift 0 0 [vR 38, vI a] n f Q := by
  refine xct_of rfl rfl (Nat.le_of_ble_eq_true rfl) ?_
  have S : ∀ F, MS F 0 bn β gn σ d as ps pb pu pr → kC f F → xw g M_X10_lift Q 0 0 5 [(0, vR 38), (1, vI a)] [] n F := by
    intro F hF kF
    obtain ⟨m, hm, hE⟩ := MS_E hF
    obtain ⟨h38, m6, _, hst, _⟩ := id hE
    have m0 : m 0 = 0 := hm.1
    have T9 := MS_th 1 hF h38 hm
    refine xw_aload_n dX10_lift_5 rfl ?_
    refine xw_iload_n dX10_lift_6 rfl ?_
    refine xw_callV (rc := 0) (rs := 0) (mc2 := 0) (ms2 := 0) (a := 38) (As := [vI a]) (st := []) dX10_lift_7 mv_X10_213 h38 rfl rfl (by decide) (by decide) (Nat.le_of_ble_eq_true rfl) rfl (ct_isThere h38 m0 m6 hst ha (fun s e1 e2 e3 => ?_) (fun q1 => ?_))
    · skip
      refine xw_ifeq (tgt := 21) dX10_lift_10 (by decide) (by unfold inI; omega) (fun c => absurd c (by decide)) (fun _ => ?_)
      refine xw_aload_n dX10_lift_13 rfl ?_
      refine xw_iload_n dX10_lift_14 rfl ?_
      subst e1
      refine xw_callV (rc := 0) (rs := 0) (mc2 := 0) (ms2 := 0) (a := 38) (As := [vI (s : Int)]) (st := []) dX10_lift_15 mv_X10_221 h38 rfl rfl (by decide) (by decide) (Nat.le_of_ble_eq_true rfl) rfl (mct_isFree hE e2 (fun F2 m2 c1 c2 => ?_) (fun F2 m2 c1 c2 => ?_))
      · skip
        refine xw_ifne (tgt := 23) dX10_lift_18 (by decide) (by unfold inI; omega) (fun _ => ?_) (fun c => absurd c (by decide))
        refine xw_aload_n dX10_lift_23 rfl ?_
        refine xw_iload_n dX10_lift_24 rfl ?_
        refine xw_callV (rc := 0) (rs := 0) (mc2 := 0) (ms2 := 0) (a := 38) (As := [vI (s : Int)]) (st := []) dX10_lift_25 mv_X10_217 c2.2.1 rfl rfl (by decide) (by decide) (Nat.le_of_ble_eq_true rfl) rfl (ct_mtake (MS_cr hF hm c2).1 hch e2 e3 (fun f3 hf3 k3 => ?_))
        refine xw_iconst dX10_lift_28 ?_
        exact xw_zret dX10_lift_29 rfl rfl (h1 s f3 rfl e2 e3 c1 hf3 (kC_tr (kC_tr kF (MS_cr hF hm c2).2.1) k3))
      · skip
        refine xw_ifne (tgt := 23) dX10_lift_18 (by decide) (by unfold inI; omega) (fun c => absurd c (by decide)) (fun _ => ?_)
        refine xw_iconst dX10_lift_21 ?_
        exact xw_zret dX10_lift_22 rfl rfl (by first
          | exact h0 s F2 rfl e2 e3 c1 (MS_cr hF hm c2).1 (kC_tr kF (MS_cr hF hm c2).2.1)
          | exact hx1 q1 _ T9.1 (kC_tr kF T9.2))
    · skip
      refine xw_ifeq (tgt := 21) dX10_lift_10 (by decide) (by unfold inI; omega) (fun _ => ?_) (fun c => absurd c (by decide))
      refine xw_iconst dX10_lift_21 ?_
      exact xw_zret dX10_lift_22 rfl rfl (by first
        | exact h0 s F2 rfl e2 e3 c1 (MS_cr hF hm c2).1 (kC_tr kF (MS_cr hF hm c2).2.1)
        | exact hx1 q1 _ T9.1 (kC_tr kF T9.2))
  obtain ⟨m, h38, hm, _⟩ := id h
  refine xw_aload_n dX10_lift_0 rfl ?_
  refine xw_iconst dX10_lift_1 ?_
  refine xw_putfield dX10_lift_2 (fp_X10_1 _) h38 rfl rfl ?_
  rw [xmd_0]
  exact S _ (MS_th 0 h h38 hm).1 (MS_th 0 h h38 hm).2
end C91
