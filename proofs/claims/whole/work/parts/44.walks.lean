/-! settle; walks -/
section C44
variable {g : xG} {Q : xP} {n : Nat} {f : xH}
set_option maxHeartbeats 4000000 in
theorem ct_settle {sz : Nat} {ls kc : Int} {av rv ks : Nat → Nat} {lf ly : Nat → Int} (h22 : f 22 = some (oTg sz ls kc)) (h25 : f 25 = some (aS 40 av)) (h27 : f 27 = some (aS 40 rv)) (h28 : f 28 = some (aI 40 lf)) (h29 : f 29 = some (aI 40 ly)) (h30 : f 30 = some (aS 20 ks)) (hsz : sz ≤ 40) (hav : ∀ j, j < sz → av j < 2 ^ 40) (hly : ∀ j, j < sz → 0 ≤ ly j ∧ ly j ≤ 40)
    (hq : ∀ f1 rv1 (r : Nat × ((Nat → Int) × (Nat → Int))) (k : Nat × (Nat → Nat)), fr [22, 27, 28, 29, 30] f f1 → r = lio av sz sz 0 (2 ^ sz - 1) lf ly → (∀ j, j < sz → rv1 j < 2 ^ 40 ∧ ∀ q, (rv1 j).testBit q = true ↔ WP av sz q j) → k = kns rv1 sz sz 0 0 0 ks → f1 22 = some (oTg sz r.1 k.1) → f1 27 = some (aS 40 rv1) → f1 28 = some (aI 40 r.2.1) → f1 29 = some (aI 40 r.2.2) → f1 30 = some (aS 20 k.2) → Q (.inl none) n f1) : xct g M_X8_settle 0 0 [vR 22] n f Q := by
  refine xct_of rfl rfl (Nat.le_of_ble_eq_true rfl) ?_
  refine xw_aload_n dX8_settle_0 rfl ?_
  refine xw_callV (rc := 0) (rs := 0) (mc2 := 0) (ms2 := 0) (a := 22) (As := []) (st := []) dX8_settle_1 mv_X8_62 h22 rfl rfl (by decide) (by decide) (Nat.le_of_ble_eq_true rfl) rfl (ct_liftInOrder h22 h25 h28 h29 hsz hav hly (fun f1 r hr hf1 e22 e28 e29 => ?_))
  refine xw_aload_n dX8_settle_4 rfl ?_
  refine xw_callV (rc := 0) (rs := 0) (mc2 := 0) (ms2 := 0) (a := 22) (As := []) (st := []) dX8_settle_5 mv_X8_65 e22 rfl rfl (by decide) (by decide) (Nat.le_of_ble_eq_true rfl) rfl (ct_findReach e22 (fr_at hf1 h25 (by decide)) (fr_at hf1 h27 (by decide)) hsz hav (fun f2 rv1 hf2 e27 hrv => ?_))
  refine xw_aload_n dX8_settle_8 rfl ?_
  refine xw_callV (rc := 0) (rs := 0) (mc2 := 0) (ms2 := 0) (a := 22) (As := []) (st := []) dX8_settle_9 mv_X8_68 (fr_at hf2 e22 (by decide)) rfl rfl (by decide) (by decide) (Nat.le_of_ble_eq_true rfl) rfl (ct_findKnots (fr_at hf2 e22 (by decide)) e27 (fr_at hf2 (fr_at hf1 h30 (by decide)) (by decide)) hsz (fun j hj => (hrv j hj).1) (fun f3 k hk hf3 i22 e30 => ?_))
  exact xw_vret dX8_settle_12 rfl (hq f3 rv1 r k (fr_tr (fr_tr (fr_sub hf1 (by decide)) (fr_sub hf2 (by decide))) (fr_sub hf3 (by decide))) hr hrv hk i22 (fr_at hf3 e27 (by decide)) (fr_at hf3 (fr_at hf2 e28 (by decide)) (by decide)) (fr_at hf3 (fr_at hf2 e29 (by decide)) (by decide)) e30)
set_option maxHeartbeats 4000000 in
theorem ct_barredBy {sz s : Nat} {ls kc : Int} {bv : Nat → Nat} (h22 : f 22 = some (oTg sz ls kc)) (h26 : f 26 = some (aS 40 bv)) (hsz : sz ≤ 40) (hs : s < 2 ^ 40) (hbv : ∀ j, j < sz → bv j < 2 ^ 40) (hq : Q (.inl (some (vL ((bba bv s sz : Nat) : Int)))) n f) : xct g M_X8_barredByAny 0 0 [vR 22, vL (s : Int)] n f Q := by
  refine xct_of rfl rfl (Nat.le_of_ble_eq_true rfl) ?_
  have B62 : ∀ {x : Nat}, x < 2 ^ 40 → x < 2 ^ 62 := fun h => Nat.lt_of_lt_of_le h (xp2 (by decide))
  have K : ∀ (m i : Nat), i + m = sz → xw g M_X8_barredByAny Q 0 0 5 [(0, vR 22), (1, vL (s : Int)), (3, vL ((bba bv s i : Nat) : Int)), (5, vI (i : Int))] [] n f := by
    intro m
    induction m with
    | zero =>
      intro i hi
      refine xw_iload dX8_barredByAny_5 rfl ?_
      refine xw_aload_n dX8_barredByAny_7 rfl ?_
      refine xw_getfield dX8_barredByAny_8 fl_X8_40 h22 rfl ?_
      refine xw_icmpge (tgt := 39) dX8_barredByAny_11 (by decide) (by unfold inI; omega) (by unfold inI; omega) (fun c_11 => ?_) (fun c_11 => ?_)
      · skip
        refine xw_lload_n dX8_barredByAny_39 rfl ?_
        exact xw_lret dX8_barredByAny_40 rfl (by rw [show i = sz by omega]; exact hq)
      · skip
        exfalso; omega
    | succ m ih =>
      intro i hi
      have hih := ih (i + 1) (by omega)
      unfold bba at hih
      refine xw_iload dX8_barredByAny_5 rfl ?_
      refine xw_aload_n dX8_barredByAny_7 rfl ?_
      refine xw_getfield dX8_barredByAny_8 fl_X8_40 h22 rfl ?_
      refine xw_icmpge (tgt := 39) dX8_barredByAny_11 (by decide) (by unfold inI; omega) (by unfold inI; omega) (fun c_11 => ?_) (fun c_11 => ?_)
      · skip
        exfalso; omega
      · skip
        refine xw_lload_n dX8_barredByAny_14 rfl ?_
        refine xw_iload dX8_barredByAny_15 rfl ?_
        refine xw_callSN (rc := 0) (rs := 0) (mc2 := 0) (ms2 := 0) (As := [vL (s : Int), vI (i : Int)]) (st := []) dX8_barredByAny_17 sn_X8_48 (by decide) (by decide) (Nat.le_of_ble_eq_true rfl) rfl (ct_isIn (B62 hs) (by omega) (fun h_17 => ?_) (fun h_17 => ?_))
        · skip
          refine xw_ifeq (tgt := 33) dX8_barredByAny_20 (by decide) (by unfold inI; omega) (fun c => absurd c (by decide)) (fun _ => ?_)
          refine xw_lload_n dX8_barredByAny_23 rfl ?_
          refine xw_aload_n dX8_barredByAny_24 rfl ?_
          refine xw_getfield dX8_barredByAny_25 fl_X8_22 h22 rfl ?_
          refine xw_iload dX8_barredByAny_28 rfl ?_
          refine xw_lald dX8_barredByAny_30 h26 (j := i) rfl (by omega) (by decide) ?_
          refine xw_lor dX8_barredByAny_31 (xb_or (B62 (bba_lt hbv i (by omega))) (B62 (hbv i (by omega)))) ?_
          refine xw_lstore_n dX8_barredByAny_32 (by decide) ?_
          refine xw_iinc dX8_barredByAny_33 rfl (by decide) ?_
          refine xw_goto (tgt := 5) dX8_barredByAny_36 (by decide) ?_
          first
            | (rw [if_pos h_17] at hih; exact xw_ls [(0, vR 22), (1, vL (s : Int)), (3, vL ((bba bv s i ||| bv i : Nat) : Int)), (5, vI ((i + 1 : Nat) : Int))] ⟨rfl, rfl, rfl, rfl, trivial⟩ hih)
            | (rw [if_neg (fun h => Bool.noConfusion (h_17.symm.trans h))] at hih; exact xw_ls [(0, vR 22), (1, vL (s : Int)), (3, vL ((bba bv s i : Nat) : Int)), (5, vI ((i + 1 : Nat) : Int))] ⟨rfl, rfl, rfl, rfl, trivial⟩ hih)
        · skip
          refine xw_ifeq (tgt := 33) dX8_barredByAny_20 (by decide) (by unfold inI; omega) (fun _ => ?_) (fun c => absurd c (by decide))
          refine xw_iinc dX8_barredByAny_33 rfl (by decide) ?_
          refine xw_goto (tgt := 5) dX8_barredByAny_36 (by decide) ?_
          first
            | (rw [if_pos h_17] at hih; exact xw_ls [(0, vR 22), (1, vL (s : Int)), (3, vL ((bba bv s i ||| bv i : Nat) : Int)), (5, vI ((i + 1 : Nat) : Int))] ⟨rfl, rfl, rfl, rfl, trivial⟩ hih)
            | (rw [if_neg (fun h => Bool.noConfusion (h_17.symm.trans h))] at hih; exact xw_ls [(0, vR 22), (1, vL (s : Int)), (3, vL ((bba bv s i : Nat) : Int)), (5, vI ((i + 1 : Nat) : Int))] ⟨rfl, rfl, rfl, rfl, trivial⟩ hih)
  refine xw_lconst (z := 0) dX8_barredByAny_0 (by decide) ?_
  refine xw_lstore_n dX8_barredByAny_1 (by decide) ?_
  refine xw_iconst dX8_barredByAny_2 ?_
  refine xw_istore dX8_barredByAny_3 (by decide) ?_
  exact xw_ls [(0, vR 22), (1, vL (s : Int)), (3, vL ((bba bv s 0 : Nat) : Int)), (5, vI ((0 : Nat) : Int))] ⟨rfl, rfl, rfl, rfl, trivial⟩ (K sz 0 (by omega))
set_option maxHeartbeats 4000000 in
theorem ct_ringThrough {sz p mo : Nat} {ls kc : Int} {bv wv : Nat → Nat} (h22 : f 22 = some (oTg sz ls kc)) (h26 : f 26 = some (aS 40 bv)) (h31 : f 31 = some (aS 41 wv)) (hsz : sz ≤ 40) (hp : p < sz) (hmo : mo ≤ 40) (hbv : ∀ j, j < sz → bv j < 2 ^ 40)
    (hq : ∀ f1 wv1 r, r = rngf bv sz p mo 1 → fr [31] f f1 → f1 31 = some (aS 41 wv1) → (∀ j, j ≤ r → wv1 j = wlk bv sz p j) → Q (.inl (some (vI ((r : Nat) : Int)))) n f1) : xct g M_X8_ringThrough 0 0 [vR 22, vI (p : Int), vI (mo : Int)] n f Q := by
  refine xct_of rfl rfl (Nat.le_of_ble_eq_true rfl) ?_
  have B62 : ∀ {x : Nat}, x < 2 ^ 40 → x < 2 ^ 62 := fun h => Nat.lt_of_lt_of_le h (xp2 (by decide))
  obtain ⟨R, hR⟩ : ∃ R, R = rngf bv sz p mo 1 := ⟨_, rfl⟩
  have K : ∀ (m t : Nat) (f1 : xH) (wv1 : Nat → Nat), 1 ≤ t → t + m = mo + 1 → rngf bv sz p m t = R → fr [31] f f1 → f1 31 = some (aS 41 wv1) → (∀ j, j < t → wv1 j = wlk bv sz p j) → xw g M_X8_ringThrough Q 0 0 11 [(0, vR 22), (1, vI (p : Int)), (2, vI (mo : Int)), (3, vI (t : Int))] [] n f1 := by
    intro m
    induction m with
    | zero =>
      intro t f1 wv1 h1 ht he hf e31 hw
      refine xw_iload_n dX8_ringThrough_11 rfl ?_
      refine xw_iload_n dX8_ringThrough_12 rfl ?_
      refine xw_icmpgt (tgt := 64) dX8_ringThrough_13 (by decide) (by unfold inI; omega) (by unfold inI; omega) (fun c_13 => ?_) (fun c_13 => ?_)
      · skip
        refine xw_iconst dX8_ringThrough_64 ?_
        exact xw_iret dX8_ringThrough_65 rfl (by have h9 := hq f1 wv1 R hR hf e31 (fun j hj => hw j (by rw [← he] at hj; unfold rngf at hj; omega)); rw [← he] at h9; exact h9)
      · skip
        exfalso; omega
    | succ m ih =>
      intro t f1 wv1 h1 ht he hf e31 hw
      have e22 : f1 22 = some (oTg sz ls kc) := fr_at hf h22 (by decide)
      have e26 : f1 26 = some (aS 40 bv) := fr_at hf h26 (by decide)
      unfold rngf at he
      have ewt : wlk bv sz p t = bba bv (wv1 (t - 1)) sz := by
        rw [hw (t - 1) (by omega)]
        obtain ⟨u, rfl⟩ : ∃ u, t = u + 1 := ⟨t - 1, by omega⟩
        rfl
      have hst : ∀ j, j < t + 1 → xui wv1 t (bba bv (wv1 (t - 1)) sz) j = wlk bv sz p j := by
        intro j hj
        by_cases e : j = t
        · subst e; rw [xui_s, ewt]
        · rw [xui_n _ _ e]; exact hw j (by omega)
      have hlt : bba bv (wv1 (t - 1)) sz < 2 ^ 40 := bba_lt hbv sz (Nat.le_refl _)
      have hlt1 : wv1 (t - 1) < 2 ^ 40 := by rw [hw (t - 1) (by omega)]; exact wlk_lt hbv (by omega) _
      refine xw_iload_n dX8_ringThrough_11 rfl ?_
      refine xw_iload_n dX8_ringThrough_12 rfl ?_
      refine xw_icmpgt (tgt := 64) dX8_ringThrough_13 (by decide) (by unfold inI; omega) (by unfold inI; omega) (fun c_13 => ?_) (fun c_13 => ?_)
      · skip
        exfalso; omega
      · skip
        refine xw_iload_n dX8_ringThrough_16 rfl ?_
        refine xw_aload_n dX8_ringThrough_17 rfl ?_
        refine xw_getfield dX8_ringThrough_18 fl_X8_37 e22 rfl ?_
        refine xw_alen (N := 41) dX8_ringThrough_21 e31 rfl ?_
        refine xw_icmpge (tgt := 64) dX8_ringThrough_22 (by decide) (by unfold inI; omega) (by unfold inI; omega) (fun c_22 => ?_) (fun c_22 => ?_)
        · skip
          exfalso; omega
        · skip
          refine xw_aload_n dX8_ringThrough_25 rfl ?_
          refine xw_getfield dX8_ringThrough_26 fl_X8_37 e22 rfl ?_
          refine xw_iload_n dX8_ringThrough_29 rfl ?_
          refine xw_aload_n dX8_ringThrough_30 rfl ?_
          refine xw_aload_n dX8_ringThrough_31 rfl ?_
          refine xw_getfield dX8_ringThrough_32 fl_X8_37 e22 rfl ?_
          refine xw_iload_n dX8_ringThrough_35 rfl ?_
          refine xw_iconst dX8_ringThrough_36 ?_
          refine xw_isub dX8_ringThrough_37 ?_
          refine xw_lald dX8_ringThrough_38 e31 (j := t - 1) (by omega) (by omega) (by decide) ?_
          refine xw_callV (rc := 0) (rs := 0) (mc2 := 0) (ms2 := 0) (a := 22) (As := [vL ((wv1 (t - 1) : Nat) : Int)]) (st := [vI (t : Int), vR 31]) dX8_ringThrough_39 mv_X8_106 e22 rfl rfl (by decide) (by decide) (Nat.le_of_ble_eq_true rfl) rfl (ct_barredBy e22 e26 hsz hlt1 hbv ?_)
          refine xw_last dX8_ringThrough_42 e31 (j := t) rfl (by omega) (by decide) ?_
          rw [xui_cast]
          refine xw_aload_n dX8_ringThrough_43 rfl ?_
          refine xw_getfield dX8_ringThrough_44 fl_X8_37 e22 rfl ?_
          refine xw_iload_n dX8_ringThrough_47 rfl ?_
          refine xw_lald dX8_ringThrough_48 rfl (j := t) rfl (by omega) (by decide) ?_
          refine xw_topl ((bba bv (wv1 (t - 1)) sz : Nat) : Int) (by rw [xui_s]) ?_
          refine xw_iload_n dX8_ringThrough_49 rfl ?_
          refine xw_callSN (rc := 0) (rs := 0) (mc2 := 0) (ms2 := 0) (As := [vL ((bba bv (wv1 (t - 1)) sz : Nat) : Int), vI (p : Int)]) (st := []) dX8_ringThrough_50 sn_X8_48 (by decide) (by decide) (Nat.le_of_ble_eq_true rfl) rfl (ct_isIn (B62 hlt) (by omega) (fun h_50 => ?_) (fun h_50 => ?_))
          · skip
            refine xw_ifeq (tgt := 58) dX8_ringThrough_53 (by decide) (by unfold inI; omega) (fun c => absurd c (by decide)) (fun _ => ?_)
            refine xw_iload_n dX8_ringThrough_56 rfl ?_
            exact xw_iret dX8_ringThrough_57 rfl (by
              rw [ewt, if_pos h_50] at he
              have h9 := hq (xup f1 31 (aS 41 (xui wv1 t (bba bv (wv1 (t - 1)) sz)))) _ R hR (fr_up hf (by decide)) (xup_s _ _ _) (fun j hj => hst j (by omega))
              rw [← he] at h9
              exact h9)
          · skip
            refine xw_ifeq (tgt := 58) dX8_ringThrough_53 (by decide) (by unfold inI; omega) (fun _ => ?_) (fun c => absurd c (by decide))
            refine xw_iinc dX8_ringThrough_58 rfl (by decide) ?_
            refine xw_goto (tgt := 11) dX8_ringThrough_61 (by decide) ?_
            exact xw_ls [(0, vR 22), (1, vI (p : Int)), (2, vI (mo : Int)), (3, vI ((t + 1 : Nat) : Int))] ⟨rfl, rfl, rfl, rfl, trivial⟩ (ih (t + 1) _ _ (by omega) (by omega) (by rw [ewt, if_neg (fun h => Bool.noConfusion (h_50.symm.trans h))] at he; exact he) (fr_up hf (by decide)) (xup_s _ _ _) hst)
  refine xw_aload_n dX8_ringThrough_0 rfl ?_
  refine xw_getfield dX8_ringThrough_1 fl_X8_37 h22 rfl ?_
  refine xw_iconst dX8_ringThrough_4 ?_
  refine xw_lconst (z := 1) dX8_ringThrough_5 (by decide) ?_
  refine xw_iload_n dX8_ringThrough_6 rfl ?_
  refine xw_lshl dX8_ringThrough_7 (xb_shl (b := p) (by omega)) ?_
  refine xw_last dX8_ringThrough_8 h31 (j := 0) rfl (by decide) (by decide) ?_
  rw [xui_cast]
  refine xw_iconst dX8_ringThrough_9 ?_
  refine xw_istore_n dX8_ringThrough_10 (by decide) ?_
  exact xw_ls [(0, vR 22), (1, vI (p : Int)), (2, vI (mo : Int)), (3, vI ((1 : Nat) : Int))] ⟨rfl, rfl, rfl, rfl, trivial⟩ (K mo 1 _ _ (by omega) (by omega) hR.symm (fr_up (fr_rf _ _) (by decide)) (xup_s _ _ _) (fun j hj => by have e9 : j = 0 := (by omega); rw [e9, xui_s]; rfl))
end C44
