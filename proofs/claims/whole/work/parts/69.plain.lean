/-! plain calls -/
def tgD (gn : Nat) (σ : Nat → xSt) (d : Nat → Int) (sz : Nat) (ls kc : Int) (c w : Nat → Int) (av bv rv : Nat → Nat) (lf ly : Nat → Int) (ks : Nat → Nat) (N : Nat → Nat) : Prop := tgB av bv ly ∧ tgG gn σ d sz N c w av bv ∧ tgR sz av ls kc rv lf ly ks
def cntA (bn gn : Nat) (σ : Nat → xSt) (d : Nat → Int) (as : List xAc) (ps : Nat) (z r : Int) : Prop := (z = 0 ∧ r = (bn : Int)) ∨ (z = 1 ∧ r = (hc σ gn : Int)) ∨ (z = 2 ∧ r = (gn : Int)) ∨ (z = 3 ∧ r = (ps : Int)) ∨ (z = 4 ∧ r = (as.length : Int)) ∨ (z = 5 ∧ ∃ sz ls kc c w av bv rv lf ly ks N, tgD gn σ d sz ls kc c w av bv rv lf ly ks N ∧ r = ((psum av sz : Nat) : Int)) ∨ ((z < 0 ∨ 5 < z) ∧ r = -1)
def aftR (gn : Nat) (σ : Nat → xSt) (z r : Int) : Prop := (r = -1 ∧ ∀ o : Nat, o < gn → z < (o : Int) → hrS (σ o) ≠ 1) ∨ ∃ o : Nat, o < gn ∧ r = (o : Int) ∧ z < (o : Int) ∧ hrS (σ o) = 1 ∧ ∀ t : Nat, t < o → z < (t : Int) → hrS (σ t) ≠ 1
def tldA (X : xSt) (w r : Int) : Prop := (w = 0 ∧ r = X.1) ∨ (w = 1 ∧ r = X.2.1) ∨ (w = 2 ∧ r = woS X) ∨ (w = 3 ∧ r = (pcS X : Int)) ∨ ((4 ≤ w ∧ w < 4 + 3 * ((pcS X : Int) + 1)) ∧ r = ptS X (w - 4).toNat)
theorem oLs_inj {sz sz9 : Nat} {ow ow9 : Int} (h : some (oLs sz ow) = some (oLs sz9 ow9)) : sz = sz9 := by
  have h1 : oLs sz ow = oLs sz9 ow9 := Option.some.inj h
  have h2 := congrArg (fun e : xE => match e with | .inr o => o.2 1 | .inl _ => vN) h1
  have h3 : vI (sz : Int) = vI (sz9 : Int) := h2
  have h4 := Sum.inl.inj h3
  omega
section C69
variable {g : xG} {y : xM} {Q : xP} {n : Nat} {f : xH} {bn : Nat} {β : Nat → xBx} {gn : Nat} {σ : Nat → xSt} {d : Nat → Int} {as : List xAc} {ps : Nat} {pb : Nat → Int} {pu : Nat} {pr : Nat → Int}
set_option maxHeartbeats 4000000 in
theorem ct_push {z : Int} (h : CS n f bn β gn σ d as ps pb pu pr) (hz : inI z) (h1 : pu < 40 → ∀ f1, CS n f1 bn β gn σ d as ps pb (pu + 1) (xui pr pu z) → kM f f1 → Q (.inl (some (vI ((pu : Int) + 1)))) n f1) (h2 : ¬ pu < 40 → Q (.inl (some (vI (-1)))) n f) : xct g M_X9_push 0 0 [vR 0, vI z] n f Q := by
  refine xct_of rfl rfl (Nat.le_of_ble_eq_true rfl) ?_
  obtain ⟨bo, so, tk, rk, h0, hb, hs, hg, ha, hp, hl, ht, hr, h40, hrk, hw, hx⟩ := h
  have hpu := hr.2.1
  have h37 := hr.1
  have hn := n79 hw hx
  refine xw_aload_n dX9_push_0 rfl ?_
  refine xw_getfield dX9_push_1 fl_X9_309 h0 rfl ?_
  refine xw_aload_n dX9_push_4 rfl ?_
  refine xw_getfield dX9_push_5 fl_X9_63 h0 rfl ?_
  refine xw_alen (N := 40) dX9_push_8 hr.1 rfl ?_
  refine xw_icmplt (tgt := 14) dX9_push_9 (by decide) (by first | assumption | (unfold inI; omega) | (unfold inI at *; omega)) (by first | assumption | (unfold inI; omega) | (unfold inI at *; omega)) (fun c_9 => ?_) (fun c_9 => ?_)
  · skip
    refine xw_aload_n dX9_push_14 rfl ?_
    refine xw_getfield dX9_push_15 fl_X9_63 h0 rfl ?_
    refine xw_aload_n dX9_push_18 rfl ?_
    refine xw_getfield dX9_push_19 fl_X9_309 h0 rfl ?_
    refine xw_iload_n dX9_push_22 rfl ?_
    refine xw_iast dX9_push_23 h37 (j := pu) rfl (by omega) (by decide) ?_
    refine xw_aload_n dX9_push_24 rfl ?_
    refine xw_dup dX9_push_25 rfl ?_
    refine xw_getfield dX9_push_26 fl_X9_309 h0 rfl ?_
    refine xw_iconst dX9_push_29 ?_
    refine xw_iadd dX9_push_30 ?_
    refine xw_putfield dX9_push_31 (fp_X9_309 _) h0 rfl rfl ?_
    rw [fX9_14]
    refine xw_aload_n dX9_push_34 rfl ?_
    refine xw_getfield dX9_push_35 fl_X9_309 rfl rfl ?_
    exact xw_iret dX9_push_38 rfl (h1 (by omega) _ (CS_pp (f := f) (tk := tk) (rk := rk) rfl hb hs hg ha ⟨hp.1, hp.2⟩ hl ht ⟨rfl, by omega, fun j hj => by
        unfold xui; split
        · exact hz
        · exact hr.2.2 j (by omega)⟩ h40 hrk (wf_up (wf_up hw (by omega)) (by omega)) hx (fun k a _ _ c => (xup_n _ _ a).trans (xup_n _ _ c))) (fun k e a b q => (xup_n _ _ (by omega)).trans ((xup_n _ _ (by omega)).trans q)))
  · skip
    refine xw_iconst dX9_push_12 ?_
    exact xw_iret dX9_push_13 rfl (h2 (by omega))
set_option maxHeartbeats 4000000 in
theorem ct_octet {z : Int} (h : CS n f bn β gn σ d as ps pb pu pr) (hz : inI z) (hq : Q (.inl (some (vI (if 0 ≤ z ∧ z < (ps : Int) then pb z.toNat else -1)))) n f) : xct g M_X9_octet 0 0 [vR 0, vI z] n f Q := by
  refine xct_of rfl rfl (Nat.le_of_ble_eq_true rfl) ?_
  obtain ⟨bo, so, tk, rk, h0, hb, hs, hg, ha, hp, hl, ht, hr, h40, hrk, hw, hx⟩ := h
  obtain ⟨h18, h19, h40p⟩ := hp
  by_cases hc9 : 0 ≤ z ∧ z < (ps : Int)
  · rw [if_pos hc9] at hq
    obtain ⟨j, rfl⟩ : ∃ j : Nat, z = (j : Int) := ⟨z.toNat, by omega⟩
    rw [Int.toNat_natCast] at hq
    refine xw_iload_n dX9_octet_0 rfl ?_
    refine xw_iflt (tgt := 15) dX9_octet_1 (by decide) (by first | assumption | (unfold inI; omega) | (unfold inI at *; omega)) (fun c_1 => ?_) (fun c_1 => ?_)
    · skip
      exfalso; omega
    · skip
      refine xw_iload_n dX9_octet_4 rfl ?_
      refine xw_aload_n dX9_octet_5 rfl ?_
      refine xw_getfield dX9_octet_6 fl_X9_38 h0 rfl ?_
      refine xw_getfield dX9_octet_9 fl_X9_225 h18 rfl ?_
      refine xw_icmplt (tgt := 19) dX9_octet_12 (by decide) (by first | assumption | (unfold inI; omega) | (unfold inI at *; omega)) (by first | assumption | (unfold inI; omega) | (unfold inI at *; omega)) (fun c_12 => ?_) (fun c_12 => ?_)
      · skip
        refine xw_aload_n dX9_octet_19 rfl ?_
        refine xw_getfield dX9_octet_20 fl_X9_38 h0 rfl ?_
        refine xw_getfield dX9_octet_23 fl_X9_321 h18 rfl ?_
        refine xw_iload_n dX9_octet_26 rfl ?_
        refine xw_bald dX9_octet_27 h19 (j := j) rfl (by omega) (by decide) ?_
        exact xw_iret dX9_octet_28 rfl hq
      · skip
        exfalso; omega
  · rw [if_neg hc9] at hq
    refine xw_iload_n dX9_octet_0 rfl ?_
    refine xw_iflt (tgt := 15) dX9_octet_1 (by decide) (by first | assumption | (unfold inI; omega) | (unfold inI at *; omega)) (fun c_1 => ?_) (fun c_1 => ?_)
    · skip
      refine xw_iconst dX9_octet_15 ?_
      refine xw_goto (tgt := 28) dX9_octet_16 (by decide) ?_
      exact xw_iret dX9_octet_28 rfl hq
    · skip
      refine xw_iload_n dX9_octet_4 rfl ?_
      refine xw_aload_n dX9_octet_5 rfl ?_
      refine xw_getfield dX9_octet_6 fl_X9_38 h0 rfl ?_
      refine xw_getfield dX9_octet_9 fl_X9_225 h18 rfl ?_
      refine xw_icmplt (tgt := 19) dX9_octet_12 (by decide) (by first | assumption | (unfold inI; omega) | (unfold inI at *; omega)) (by first | assumption | (unfold inI; omega) | (unfold inI at *; omega)) (fun c_12 => ?_) (fun c_12 => ?_)
      · skip
        exfalso; omega
      · skip
        refine xw_iconst dX9_octet_15 ?_
        refine xw_goto (tgt := 28) dX9_octet_16 (by decide) ?_
        exact xw_iret dX9_octet_28 rfl hq
set_option maxHeartbeats 4000000 in
theorem ct_after {z : Int} (h : CS n f bn β gn σ d as ps pb pu pr) (hz : inI z) (hq : ∀ r, aftR gn σ z r → Q (.inl (some (vI r))) n f) : xct g M_X9_after 0 0 [vR 0, vI z] n f Q := by
  refine xct_of rfl rfl (Nat.le_of_ble_eq_true rfl) ?_
  obtain ⟨bo, so, tk, rk, h0, hb, hs, hg, ha, hp, hl, ht, hr, h40, hrk, hw, hx⟩ := h
  have hgn := hs.2.1
  have L : ∀ (m s : Nat), s + m = gn → (∀ t : Nat, t < s → z < (t : Int) → hrS (σ t) ≠ 1) → xw g M_X9_after Q 0 0 2 [(0, vR 0), (1, vI z), (2, vI (s : Int))] [] n f := by
    intro m
    induction m with
    | zero =>
      intro s hm hi
      refine xw_iload_n dX9_after_2 rfl ?_
      refine xw_aload_n dX9_after_3 rfl ?_
      refine xw_getfield dX9_after_4 fl_X9_134 h0 rfl ?_
      refine xw_icmpge (tgt := 31) dX9_after_7 (by decide) (by first | assumption | (unfold inI; omega) | (unfold inI at *; omega)) (by first | assumption | (unfold inI; omega) | (unfold inI at *; omega)) (fun c_7 => ?_) (fun c_7 => ?_)
      · skip
        refine xw_iconst dX9_after_31 ?_
        exact xw_iret dX9_after_32 rfl (hq (-1) (Or.inl ⟨rfl, fun o ho => hi o (by omega)⟩))
      · skip
        exfalso; omega
    | succ m ih =>
      intro s hm hi
      have N : (z < (s : Int) → hrS (σ s) ≠ 1) → xw g M_X9_after Q 0 0 25 [(0, vR 0), (1, vI z), (2, vI (s : Int))] [] n f := by
        intro hn2
        refine xw_iinc dX9_after_25 rfl (by decide) ?_
        refine xw_goto (tgt := 2) dX9_after_28 (by decide) ?_
        exact xw_ls [(0, vR 0), (1, vI z), (2, vI ((s + 1 : Nat) : Int))] ⟨rfl, rfl, rfl, trivial⟩ (ih (s + 1) (by omega) (fun t ht => by
            by_cases e : t = s
            · subst e; exact hn2
            · exact hi t (by omega)))
      refine xw_iload_n dX9_after_2 rfl ?_
      refine xw_aload_n dX9_after_3 rfl ?_
      refine xw_getfield dX9_after_4 fl_X9_134 h0 rfl ?_
      refine xw_icmpge (tgt := 31) dX9_after_7 (by decide) (by first | assumption | (unfold inI; omega) | (unfold inI at *; omega)) (by first | assumption | (unfold inI; omega) | (unfold inI at *; omega)) (fun c_7 => ?_) (fun c_7 => ?_)
      · skip
        exfalso; omega
      · skip
        refine xw_iload_n dX9_after_10 rfl ?_
        refine xw_iload_n dX9_after_11 rfl ?_
        refine xw_icmple (tgt := 25) dX9_after_12 (by decide) (by first | assumption | (unfold inI; omega) | (unfold inI at *; omega)) (by first | assumption | (unfold inI; omega) | (unfold inI at *; omega)) (fun c_12 => ?_) (fun c_12 => ?_)
        · skip
          first
            | exact xw_ls [(0, vR 0), (1, vI z), (2, vI (s : Int))] ⟨rfl, rfl, rfl, trivial⟩ (N (fun _ q => hn ⟨s, rfl, by omega, q⟩))
            | exact xw_ls [(0, vR 0), (1, vI z), (2, vI (s : Int))] ⟨rfl, rfl, rfl, trivial⟩ (N (fun q _ => by omega))
        · skip
          refine xw_aload_n dX9_after_15 rfl ?_
          refine xw_iload_n dX9_after_16 rfl ?_
          refine xw_callV (rc := 0) (rs := 0) (mc2 := 0) (ms2 := 0) (a := 0) (As := [vI (s : Int)]) (st := []) dX9_after_17 mv_X9_229 h0 rfl rfl (by decide) (by decide) (Nat.le_of_ble_eq_true rfl) rfl (ct_isHere h0 hs (by unfold inI; omega) (fun t ht9 hlt2 hr9 => ?_) (fun hn => ?_))
          · skip
            refine xw_ifeq (tgt := 25) dX9_after_20 (by decide) (by unfold inI; omega) (fun c => absurd c (by decide)) (fun _ => ?_)
            refine xw_iload_n dX9_after_23 rfl ?_
            exact xw_iret dX9_after_24 rfl (hq s (Or.inr ⟨s, by omega, rfl, by omega, by rw [show s = t by omega]; exact hr9, hi⟩))
          · skip
            refine xw_ifeq (tgt := 25) dX9_after_20 (by decide) (by unfold inI; omega) (fun _ => ?_) (fun c => absurd c (by decide))
            first
              | exact xw_ls [(0, vR 0), (1, vI z), (2, vI (s : Int))] ⟨rfl, rfl, rfl, trivial⟩ (N (fun _ q => hn ⟨s, rfl, by omega, q⟩))
              | exact xw_ls [(0, vR 0), (1, vI z), (2, vI (s : Int))] ⟨rfl, rfl, rfl, trivial⟩ (N (fun q _ => by omega))
  refine xw_iconst dX9_after_0 ?_
  refine xw_istore_n dX9_after_1 (by decide) ?_
  exact xw_ls [(0, vR 0), (1, vI z), (2, vI ((0 : Nat) : Int))] ⟨rfl, rfl, rfl, trivial⟩ (L gn 0 (by omega) (fun t ht => absurd ht (by omega)))
set_option maxHeartbeats 4000000 in
theorem ct_told {z w : Int} (h : CS n f bn β gn σ d as ps pb pu pr) (hz : inI z) (hw9 : inI w) (h1 : ∀ (s : Nat) r, z = (s : Int) → s < gn → hrS (σ s) = 1 → tldA (σ s) w r → Q (.inl (some (vI r))) n f) (hx1 : ¬ hre gn σ z → ∀ n', n ≤ n' → Q (.inr eNSE) n' f) (hx2 : ∀ s : Nat, z = (s : Int) → s < gn → hrS (σ s) = 1 → ¬ (0 ≤ w ∧ w < 4 + 3 * ((pcS (σ s) : Int) + 1)) → ∀ n', n ≤ n' → Q (.inr eIAE) n' f) : xct g M_X9_told 2 12 [vR 0, vI z, vI w] n f Q := by
  refine xct_of rfl rfl (Nat.le_of_ble_eq_true rfl) ?_
  obtain ⟨bo, so, tk, rk, h0, hb, hs, hg, ha, hp, hl, ht, hr, h40, hrk, hw, hx⟩ := h
  have F : ∀ s : Nat, z = (s : Int) → s < gn → hrS (σ s) = 1 → xw g M_X9_told Q 1 6 6 [(0, vR 0), (1, vI z), (2, vI w), (3, vR (so s))] [] n f := by
    intro s e1 e2 e3
    have hk := hs.2.2.1 s e2
    have hp2 := pcS_in (σ s)
    have q1 := h1 s
    rcases (by omega : w = 0 ∨ w = 1 ∨ w = 2 ∨ w = 3 ∨ (w < 0 ∨ 3 < w)) with rfl | rfl | rfl | rfl | hw3
    · refine xw_iload_n dX9_told_6 rfl ?_
      refine xw_tin (tgt := 36) dX9_told_7 hw9 (by decide) (by decide) rfl (by decide) ?_
      refine xw_aload_n dX9_told_36 rfl ?_
      refine xw_getfield dX9_told_37 fl_X9_205 hk.2.1 rfl ?_
      exact xw_iret dX9_told_40 rfl (q1 _ e1 e2 e3 (Or.inl ⟨rfl, rfl⟩))
    · refine xw_iload_n dX9_told_6 rfl ?_
      refine xw_tin (tgt := 41) dX9_told_7 hw9 (by decide) (by decide) rfl (by decide) ?_
      refine xw_aload_n dX9_told_41 rfl ?_
      refine xw_getfield dX9_told_42 fl_X9_208 hk.2.1 rfl ?_
      exact xw_iret dX9_told_45 rfl (q1 _ e1 e2 e3 (Or.inr (Or.inl ⟨rfl, rfl⟩)))
    · refine xw_iload_n dX9_told_6 rfl ?_
      refine xw_tin (tgt := 46) dX9_told_7 hw9 (by decide) (by decide) rfl (by decide) ?_
      refine xw_aload_n dX9_told_46 rfl ?_
      refine xw_getfield dX9_told_47 fl_X9_211 hk.2.1 rfl ?_
      exact xw_iret dX9_told_50 rfl (q1 _ e1 e2 e3 (Or.inr (Or.inr (Or.inl ⟨rfl, rfl⟩))))
    · refine xw_iload_n dX9_told_6 rfl ?_
      refine xw_tin (tgt := 51) dX9_told_7 hw9 (by decide) (by decide) rfl (by decide) ?_
      refine xw_aload_n dX9_told_51 rfl ?_
      refine xw_getfield dX9_told_52 fl_X9_214 hk.2.1 rfl ?_
      exact xw_iret dX9_told_55 rfl (q1 _ e1 e2 e3 (Or.inr (Or.inr (Or.inr (Or.inl ⟨rfl, rfl⟩)))))
    · refine xw_iload_n dX9_told_6 rfl ?_
      refine xw_tout (tgt := 56) dX9_told_7 hw9 hw3 (by decide) ?_
      refine xw_iload_n dX9_told_56 rfl ?_
      refine xw_iconst dX9_told_57 ?_
      refine xw_icmplt (tgt := 71) dX9_told_58 (by decide) (by first | assumption | (unfold inI; omega) | (unfold inI at *; omega)) (by first | assumption | (unfold inI; omega) | (unfold inI at *; omega)) (fun c_58 => ?_) (fun c_58 => ?_)
      · skip
        exact xw_throwS (rc := 0) (rs := 0) th_220 rfl dX9_told_71 dX9_told_74 dX9_told_75 dX9_told_77 dX9_told_80 (by decide) (by decide) (hx2 s e1 e2 e3 (by omega))
      · skip
        refine xw_iload_n dX9_told_61 rfl ?_
        refine xw_iconst dX9_told_62 ?_
        refine xw_aload_n dX9_told_63 rfl ?_
        refine xw_callV (rc := 1) (rs := 6) (mc2 := 0) (ms2 := 0) (a := (so s)) (As := []) (st := [vI 4, vI w]) dX9_told_64 mv_X9_217 hk.2.1 rfl rfl (by decide) (by decide) (Nat.le_of_ble_eq_true rfl) rfl (ct_pointNumbers hk.2.1 ?_)
        refine xw_iadd dX9_told_67 ?_
        refine xw_icmplt (tgt := 81) dX9_told_68 (by decide) (by first | assumption | (unfold inI; omega) | (unfold inI at *; omega)) (by first | assumption | (unfold inI; omega) | (unfold inI at *; omega)) (fun c_68 => ?_) (fun c_68 => ?_)
        · skip
          refine xw_aload_n dX9_told_81 rfl ?_
          refine xw_getfield dX9_told_82 fl_X9_222 hk.2.1 rfl ?_
          refine xw_iload_n dX9_told_85 rfl ?_
          refine xw_iconst dX9_told_86 ?_
          refine xw_isub dX9_told_87 ?_
          refine xw_iald dX9_told_88 hk.2.2.1 (j := (w - 4).toNat) (by omega) (by omega) (by decide) ?_
          exact xw_iret dX9_told_89 rfl (q1 _ e1 e2 e3 (Or.inr (Or.inr (Or.inr (Or.inr ⟨by omega, rfl⟩)))))
        · skip
          exact xw_throwS (rc := 0) (rs := 0) th_220 rfl dX9_told_71 dX9_told_74 dX9_told_75 dX9_told_77 dX9_told_80 (by decide) (by decide) (hx2 s e1 e2 e3 (by omega))
  refine xw_aload_n dX9_told_0 rfl ?_
  refine xw_iload_n dX9_told_1 rfl ?_
  refine xw_callV (rc := 1) (rs := 6) (mc2 := 1) (ms2 := 6) (a := 0) (As := [vI z]) (st := []) dX9_told_2 mv_X9_149 h0 rfl rfl (by decide) (by decide) (Nat.le_of_ble_eq_true rfl) rfl (ct_stickOnTable h0 hs hz (fun s e1 e2 e3 => ?_) hx1)
  refine xw_astore_n dX9_told_5 (by decide) ?_
  exact xw_ls [(0, vR 0), (1, vI z), (2, vI w), (3, vR (so s))] ⟨rfl, rfl, rfl, rfl, trivial⟩ (F s e1 e2 e3)
set_option maxHeartbeats 4000000 in
theorem ct_turn {a b c : Int} (h : CS n f bn β gn σ d as ps pb pu pr) (ha9 : inI a) (hb9 : inI b) (hc9 : inI c) (h1 : nb a 100 ∧ nb b 100 ∧ nb c 100 → ¬ (a = 0 ∧ b = 0 ∧ c = 0) → ∀ f1, CS n f1 bn β gn σ (v3 a b c) as ps pb pu pr → kM f f1 → Q (.inl none) n f1) (hx1 : ¬ ((nb a 100 ∧ nb b 100 ∧ nb c 100) ∧ ¬ (a = 0 ∧ b = 0 ∧ c = 0)) → ∀ n', n ≤ n' → Q (.inr eIAE) n' f) : xct g M_X9_turn 1 6 [vR 0, vI a, vI b, vI c] n f Q := by
  refine xct_of rfl rfl (Nat.le_of_ble_eq_true rfl) ?_
  obtain ⟨bo, so, tk, rk, h0, hb, hs, hg, ha, hp, hl, ht, hr, h40, hrk, hw, hx⟩ := h
  obtain ⟨sg, g3, g4, g5, g6, g7, g8⟩ := id hg
  obtain ⟨szl, ow, L, l20, l21, l22, l23, l24⟩ := id hl
  have hn := n79 hw hx
  have T : ¬ ((nb a 100 ∧ nb b 100 ∧ nb c 100) ∧ ¬ (a = 0 ∧ b = 0 ∧ c = 0)) → xw g M_X9_turn Q 1 6 33 [(0, vR 0), (1, vI a), (2, vI b), (3, vI c)] [] n f := fun q => xw_throwS (rc := 0) (rs := 0) th_176 rfl dX9_turn_33 dX9_turn_36 dX9_turn_37 dX9_turn_39 dX9_turn_42 (by decide) (by decide) (hx1 q)
  have F : nb a 100 ∧ nb b 100 ∧ nb c 100 → ¬ (a = 0 ∧ b = 0 ∧ c = 0) → xw g M_X9_turn Q 0 0 43 [(0, vR 0), (1, vI a), (2, vI b), (3, vI c)] [] n f := by
    intro k1 k2
    have hz3 : ¬ z3 (v3 a b c) := fun q => k2 ⟨q.1, q.2.1, q.2.2⟩
    obtain ⟨F, hF⟩ : ∃ F, F = xup (xup (xup (xup f 4 (aL 3 (v3 a b c))) 3 (oSs (wide (v3 a b c) : Int) sg)) 0 (oTb bn gn (hc σ gn : Int) 0 0 pu)) 20 (oLs szl (-1)) := ⟨_, rfl⟩
    have Fk : ∀ k, k ≠ 0 → k ≠ 3 → k ≠ 4 → k ≠ 20 → F k = f k := fun k q1 q2 q3 q4 => by rw [hF, xup_n _ _ q4, xup_n _ _ q1, xup_n _ _ q2, xup_n _ _ q3]
    have F0 : F 0 = some (oTb bn gn (hc σ gn : Int) 0 0 pu) := by rw [hF]; rfl
    have F3 : F 3 = some (oSs (wide (v3 a b c) : Int) sg) := by rw [hF]; rfl
    have F4 : F 4 = some (aL 3 (v3 a b c)) := by rw [hF]; rfl
    have F20 : F 20 = some (oLs szl (-1)) := by rw [hF]; rfl
    have Fw : wf n F := by rw [hF]; exact wf_up (wf_up (wf_up (wf_up hw (by omega)) (by omega)) (by omega)) (by omega)
    have hcs : CS n F bn β gn σ (v3 a b c) as ps pb pu pr := CS_st (n := n) (f := f) (tk := tk) (rk := rk) F0 hb (stk_fr hs (Fk 2 (by omega) (by omega) (by omega) (by omega)) (fun k q => Fk k (by omega) (by omega) (by omega) (by omega))) ⟨sg, F3, F4, fun j j1 j2 => by rw [Fk j (by omega) (by omega) (by omega) (by omega)]; exact g5 j j1 j2, g6, ⟨k1.1, k1.2.1, k1.2.2⟩, hz3⟩ (acs_fr ha (fun k q1 q2 => Fk k (by omega) (by omega) (by omega) (by omega))) hp hl (fun sz9 ow9 q => by rw [← oLs_inj (l20.symm.trans q)]; exact F20) ht hr h40 Fw hx (fun k q1 q2 q3 => Fk k (by omega) (by omega) (by omega) (by omega)) (fun k e q1 q2 q3 => (Fk k (by omega) (by omega) (by omega) (by omega)).trans q2)
    have hkm : kM f F := fun k e q1 q2 q3 => (Fk k (by omega) (by omega) (by omega) (by omega)).trans q3
    refine xw_aload_n dX9_turn_43 rfl ?_
    refine xw_getfield dX9_turn_44 fl_X9_24 h0 rfl ?_
    refine xw_iload_n dX9_turn_47 rfl ?_
    refine xw_iload_n dX9_turn_48 rfl ?_
    refine xw_iload_n dX9_turn_49 rfl ?_
    refine xw_callV (rc := 0) (rs := 0) (mc2 := 0) (ms2 := 0) (a := 3) (As := [vI a, vI b, vI c]) (st := []) dX9_turn_50 mv_X9_178 g3 rfl rfl (by decide) (by decide) (Nat.le_of_ble_eq_true rfl) rfl (ct_lookAlong g3 g4 k1.1 k1.2.1 k1.2.2 ?_)
    refine xw_aload_n dX9_turn_53 rfl ?_
    refine xw_callV (rc := 0) (rs := 0) (mc2 := 0) (ms2 := 0) (a := 0) (As := []) (st := []) dX9_turn_54 mv_X9_159 h0 rfl rfl (by decide) (by decide) (Nat.le_of_ble_eq_true rfl) rfl (ct_forget (f := xup (xup f 4 (aL 3 (v3 a b c))) 3 (oSs (wide (v3 a b c) : Int) sg)) h0 l20 ?_)
    rw [← hF]
    exact xw_vret dX9_turn_57 rfl (h1 k1 k2 F hcs hkm)
  refine xw_iload_n dX9_turn_0 rfl ?_
  refine xw_callS (rc := 1) (rs := 6) (mc2 := 0) (ms2 := 0) (As := [vI a]) (st := []) dX9_turn_1 ms_X9_173 rfl (by decide) (by decide) (Nat.le_of_ble_eq_true rfl) rfl (ct_isSlope ha9 (fun q1 => ?_) (fun q1 => ?_))
  · skip
    refine xw_ifeq (tgt := 33) dX9_turn_4 (by decide) (by unfold inI; omega) (fun c => absurd c (by decide)) (fun _ => ?_)
    refine xw_iload_n dX9_turn_7 rfl ?_
    refine xw_callS (rc := 1) (rs := 6) (mc2 := 0) (ms2 := 0) (As := [vI b]) (st := []) dX9_turn_8 ms_X9_173 rfl (by decide) (by decide) (Nat.le_of_ble_eq_true rfl) rfl (ct_isSlope hb9 (fun q2 => ?_) (fun q2 => ?_))
    · skip
      refine xw_ifeq (tgt := 33) dX9_turn_11 (by decide) (by unfold inI; omega) (fun c => absurd c (by decide)) (fun _ => ?_)
      refine xw_iload_n dX9_turn_14 rfl ?_
      refine xw_callS (rc := 1) (rs := 6) (mc2 := 0) (ms2 := 0) (As := [vI c]) (st := []) dX9_turn_15 ms_X9_173 rfl (by decide) (by decide) (Nat.le_of_ble_eq_true rfl) rfl (ct_isSlope hc9 (fun q3 => ?_) (fun q3 => ?_))
      · skip
        refine xw_ifeq (tgt := 33) dX9_turn_18 (by decide) (by unfold inI; omega) (fun c => absurd c (by decide)) (fun _ => ?_)
        refine xw_iload_n dX9_turn_21 rfl ?_
        refine xw_ifne (tgt := 43) dX9_turn_22 (by decide) (by first | assumption | (unfold inI; omega) | (unfold inI at *; omega)) (fun c_22 => ?_) (fun c_22 => ?_)
        · skip
          exact xw_room (Nat.zero_le _) (Nat.zero_le _) (xw_ls [(0, vR 0), (1, vI a), (2, vI b), (3, vI c)] ⟨rfl, rfl, rfl, rfl, trivial⟩ (F ⟨q1, q2, q3⟩ (by omega)))
        · skip
          refine xw_iload_n dX9_turn_25 rfl ?_
          refine xw_ifne (tgt := 43) dX9_turn_26 (by decide) (by first | assumption | (unfold inI; omega) | (unfold inI at *; omega)) (fun c_26 => ?_) (fun c_26 => ?_)
          · skip
            exact xw_room (Nat.zero_le _) (Nat.zero_le _) (xw_ls [(0, vR 0), (1, vI a), (2, vI b), (3, vI c)] ⟨rfl, rfl, rfl, rfl, trivial⟩ (F ⟨q1, q2, q3⟩ (by omega)))
          · skip
            refine xw_iload_n dX9_turn_29 rfl ?_
            refine xw_ifne (tgt := 43) dX9_turn_30 (by decide) (by first | assumption | (unfold inI; omega) | (unfold inI at *; omega)) (fun c_30 => ?_) (fun c_30 => ?_)
            · skip
              exact xw_room (Nat.zero_le _) (Nat.zero_le _) (xw_ls [(0, vR 0), (1, vI a), (2, vI b), (3, vI c)] ⟨rfl, rfl, rfl, rfl, trivial⟩ (F ⟨q1, q2, q3⟩ (by omega)))
            · skip
              first
                | exact xw_ls [(0, vR 0), (1, vI a), (2, vI b), (3, vI c)] ⟨rfl, rfl, rfl, rfl, trivial⟩ (T (fun q => q.2 ⟨c_22, c_26, c_30⟩))
                | exact xw_ls [(0, vR 0), (1, vI a), (2, vI b), (3, vI c)] ⟨rfl, rfl, rfl, rfl, trivial⟩ (T (fun q => q3 q.1.2.2))
                | exact xw_ls [(0, vR 0), (1, vI a), (2, vI b), (3, vI c)] ⟨rfl, rfl, rfl, rfl, trivial⟩ (T (fun q => q2 q.1.2.1))
                | exact xw_ls [(0, vR 0), (1, vI a), (2, vI b), (3, vI c)] ⟨rfl, rfl, rfl, rfl, trivial⟩ (T (fun q => q1 q.1.1))
      · skip
        refine xw_ifeq (tgt := 33) dX9_turn_18 (by decide) (by unfold inI; omega) (fun _ => ?_) (fun c => absurd c (by decide))
        first
          | exact xw_ls [(0, vR 0), (1, vI a), (2, vI b), (3, vI c)] ⟨rfl, rfl, rfl, rfl, trivial⟩ (T (fun q => q.2 ⟨c_22, c_26, c_30⟩))
          | exact xw_ls [(0, vR 0), (1, vI a), (2, vI b), (3, vI c)] ⟨rfl, rfl, rfl, rfl, trivial⟩ (T (fun q => q3 q.1.2.2))
          | exact xw_ls [(0, vR 0), (1, vI a), (2, vI b), (3, vI c)] ⟨rfl, rfl, rfl, rfl, trivial⟩ (T (fun q => q2 q.1.2.1))
          | exact xw_ls [(0, vR 0), (1, vI a), (2, vI b), (3, vI c)] ⟨rfl, rfl, rfl, rfl, trivial⟩ (T (fun q => q1 q.1.1))
    · skip
      refine xw_ifeq (tgt := 33) dX9_turn_11 (by decide) (by unfold inI; omega) (fun _ => ?_) (fun c => absurd c (by decide))
      first
        | exact xw_ls [(0, vR 0), (1, vI a), (2, vI b), (3, vI c)] ⟨rfl, rfl, rfl, rfl, trivial⟩ (T (fun q => q.2 ⟨c_22, c_26, c_30⟩))
        | exact xw_ls [(0, vR 0), (1, vI a), (2, vI b), (3, vI c)] ⟨rfl, rfl, rfl, rfl, trivial⟩ (T (fun q => q3 q.1.2.2))
        | exact xw_ls [(0, vR 0), (1, vI a), (2, vI b), (3, vI c)] ⟨rfl, rfl, rfl, rfl, trivial⟩ (T (fun q => q2 q.1.2.1))
        | exact xw_ls [(0, vR 0), (1, vI a), (2, vI b), (3, vI c)] ⟨rfl, rfl, rfl, rfl, trivial⟩ (T (fun q => q1 q.1.1))
  · skip
    refine xw_ifeq (tgt := 33) dX9_turn_4 (by decide) (by unfold inI; omega) (fun _ => ?_) (fun c => absurd c (by decide))
    first
      | exact xw_ls [(0, vR 0), (1, vI a), (2, vI b), (3, vI c)] ⟨rfl, rfl, rfl, rfl, trivial⟩ (T (fun q => q.2 ⟨c_22, c_26, c_30⟩))
      | exact xw_ls [(0, vR 0), (1, vI a), (2, vI b), (3, vI c)] ⟨rfl, rfl, rfl, rfl, trivial⟩ (T (fun q => q3 q.1.2.2))
      | exact xw_ls [(0, vR 0), (1, vI a), (2, vI b), (3, vI c)] ⟨rfl, rfl, rfl, rfl, trivial⟩ (T (fun q => q2 q.1.2.1))
      | exact xw_ls [(0, vR 0), (1, vI a), (2, vI b), (3, vI c)] ⟨rfl, rfl, rfl, rfl, trivial⟩ (T (fun q => q1 q.1.1))
end C69
