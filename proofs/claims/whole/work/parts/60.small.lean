/-! small methods of the table -/
theorem fSt_5 (kd mk wo : Int) (pc ap : Nat) (ot x : Int) (j : Nat) (hj : j < 6) : xui (fSt kd mk wo pc ap ot) 5 (vI x) j = fSt kd mk wo pc ap x j := by
  match j, hj with
  | 0, _ => rfl
  | 1, _ => rfl
  | 2, _ => rfl
  | 3, _ => rfl
  | 4, _ => rfl
  | 5, _ => rfl
  | (m + 6), h => exact absurd h (by omega)
def kok (kd mk wo : Int) : Prop := (0 ≤ kd ∧ kd ≤ 3) ∧ (0 ≤ mk ∧ mk ≤ (if 2 ≤ kd then 127 else 0)) ∧ (if kd = 3 then 2 ≤ wo ∧ wo ≤ 100 else wo = 1)
def sgt (f : xH) (d : Nat → Int) : Prop := ∃ s : ofS, f 3 = some (oSs (wide d : Int) s) ∧ f 4 = some (aL 3 d) ∧ sok f ∧ inL s.2.2.2.1 ∧ bd d 100 ∧ ¬ z3 d
theorem sgt_scr {f f1 : xH} {d : Nat → Int} (h : sgt f d) (hf : scr f f1) : sgt f1 d := by
  obtain ⟨s, h3, h4, h5, h6, h7, h8⟩ := h
  exact ⟨s, (hf.1 3 (by omega)).trans h3, (hf.1 4 (by omega)).trans h4, hf.2, h6, h7, h8⟩
/-- the least number among those that lie and are asked about, whose stick is touched -/
def ltR (gn : Nat) (σ : Nat → xSt) (X : xSt) (ok : Nat → Prop) (r : Int) : Prop :=
  (r = -1 ∧ ∀ s, s < gn → hrS (σ s) = 1 → ok s → ¬ tchS (ptS X) (pcS X) (ptS (σ s)) (pcS (σ s))) ∨
  ∃ s : Nat, s < gn ∧ r = (s : Int) ∧ hrS (σ s) = 1 ∧ ok s ∧ tchS (ptS X) (pcS X) (ptS (σ s)) (pcS (σ s)) ∧ ∀ t, t < s → hrS (σ t) = 1 → ok t → ¬ tchS (ptS X) (pcS X) (ptS (σ t)) (pcS (σ t))
section C60
variable {g : xG} {y : xM} {Q : xP} {n : Nat} {f : xH}
theorem ct_isSlope {z : Int} (hz : inI z) (h1 : nb z 100 → Q (.inl (some (vI 1))) n f) (h2 : ¬ nb z 100 → Q (.inl (some (vI 0))) n f) : xct g M_X9_isSlope 0 0 [vI z] n f Q := by
  refine xct_of rfl rfl (Nat.le_of_ble_eq_true rfl) ?_
  refine xw_iload_n dX9_isSlope_0 rfl ?_
  refine xw_bipush (z := -100) dX9_isSlope_1 (by decide) ?_
  refine xw_icmplt (tgt := 16) dX9_isSlope_3 (by decide) (by first | assumption | (unfold inI; omega) | (unfold inI at *; omega)) (by first | assumption | (unfold inI; omega) | (unfold inI at *; omega)) (fun c_3 => ?_) (fun c_3 => ?_)
  · skip
    refine xw_iconst dX9_isSlope_16 ?_
    exact xw_zret dX9_isSlope_17 rfl rfl (by first | exact h1 (by unfold nb; omega) | exact h2 (by unfold nb; omega))
  · skip
    refine xw_iload_n dX9_isSlope_6 rfl ?_
    refine xw_bipush (z := 100) dX9_isSlope_7 (by decide) ?_
    refine xw_icmpgt (tgt := 16) dX9_isSlope_9 (by decide) (by first | assumption | (unfold inI; omega) | (unfold inI at *; omega)) (by first | assumption | (unfold inI; omega) | (unfold inI at *; omega)) (fun c_9 => ?_) (fun c_9 => ?_)
    · skip
      refine xw_iconst dX9_isSlope_16 ?_
      exact xw_zret dX9_isSlope_17 rfl rfl (by first | exact h1 (by unfold nb; omega) | exact h2 (by unfold nb; omega))
    · skip
      refine xw_iconst dX9_isSlope_12 ?_
      refine xw_goto (tgt := 17) dX9_isSlope_13 (by decide) ?_
      exact xw_zret dX9_isSlope_17 rfl rfl (by first | exact h1 (by unfold nb; omega) | exact h2 (by unfold nb; omega))
set_option maxHeartbeats 4000000 in
theorem ct_isKind {kd mk wo : Int} (hk : inI kd) (hm : inI mk) (hw : inI wo) (h1 : kok kd mk wo → Q (.inl (some (vI 1))) n f) (h2 : ¬ kok kd mk wo → Q (.inl (some (vI 0))) n f) : xct g M_X9_isKind 0 0 [vI kd, vI mk, vI wo] n f Q := by
  refine xct_of rfl rfl (Nat.le_of_ble_eq_true rfl) ?_
  have E : ∀ (mm lw mw : Int), (0 ≤ kd ∧ kd ≤ 3) → mm = (if 2 ≤ kd then 127 else 0) → lw = (if kd = 3 then 2 else 1) → mw = (if kd = 3 then 100 else 1) → xw g M_X9_isKind Q 0 0 48 [(0, vI kd), (1, vI mk), (2, vI wo), (3, vI mm), (4, vI lw), (5, vI mw)] [] n f := by
    intro mm lw mw hk3 em el ew
    have i1 : inI mm := by rw [em]; unfold inI; split <;> omega
    have i2 : inI lw := by rw [el]; unfold inI; split <;> omega
    have i3 : inI mw := by rw [ew]; unfold inI; split <;> omega
    have hy : kok kd mk wo ↔ (0 ≤ mk ∧ mk ≤ mm ∧ lw ≤ wo ∧ wo ≤ mw) := by
      unfold kok
      rw [em, el, ew]
      by_cases e : kd = 3
      · rw [if_pos e, if_pos e, if_pos e]; omega
      · rw [if_neg e, if_neg e, if_neg e]; omega
    refine xw_iload_n dX9_isKind_48 rfl ?_
    refine xw_iflt (tgt := 73) dX9_isKind_49 (by decide) (by first | assumption | (unfold inI; omega) | (unfold inI at *; omega)) (fun c_49 => ?_) (fun c_49 => ?_)
    · skip
      refine xw_iconst dX9_isKind_73 ?_
      exact xw_zret dX9_isKind_74 rfl rfl (by first | exact h1 (hy.mpr (by omega)) | exact h2 (fun q => by have := hy.mp q; omega))
    · skip
      refine xw_iload_n dX9_isKind_52 rfl ?_
      refine xw_iload_n dX9_isKind_53 rfl ?_
      refine xw_icmpgt (tgt := 73) dX9_isKind_54 (by decide) (by first | assumption | (unfold inI; omega) | (unfold inI at *; omega)) (by first | assumption | (unfold inI; omega) | (unfold inI at *; omega)) (fun c_54 => ?_) (fun c_54 => ?_)
      · skip
        refine xw_iconst dX9_isKind_73 ?_
        exact xw_zret dX9_isKind_74 rfl rfl (by first | exact h1 (hy.mpr (by omega)) | exact h2 (fun q => by have := hy.mp q; omega))
      · skip
        refine xw_iload_n dX9_isKind_57 rfl ?_
        refine xw_iload dX9_isKind_58 rfl ?_
        refine xw_icmplt (tgt := 73) dX9_isKind_60 (by decide) (by first | assumption | (unfold inI; omega) | (unfold inI at *; omega)) (by first | assumption | (unfold inI; omega) | (unfold inI at *; omega)) (fun c_60 => ?_) (fun c_60 => ?_)
        · skip
          refine xw_iconst dX9_isKind_73 ?_
          exact xw_zret dX9_isKind_74 rfl rfl (by first | exact h1 (hy.mpr (by omega)) | exact h2 (fun q => by have := hy.mp q; omega))
        · skip
          refine xw_iload_n dX9_isKind_63 rfl ?_
          refine xw_iload dX9_isKind_64 rfl ?_
          refine xw_icmpgt (tgt := 73) dX9_isKind_66 (by decide) (by first | assumption | (unfold inI; omega) | (unfold inI at *; omega)) (by first | assumption | (unfold inI; omega) | (unfold inI at *; omega)) (fun c_66 => ?_) (fun c_66 => ?_)
          · skip
            refine xw_iconst dX9_isKind_73 ?_
            exact xw_zret dX9_isKind_74 rfl rfl (by first | exact h1 (hy.mpr (by omega)) | exact h2 (fun q => by have := hy.mp q; omega))
          · skip
            refine xw_iconst dX9_isKind_69 ?_
            refine xw_goto (tgt := 74) dX9_isKind_70 (by decide) ?_
            exact xw_zret dX9_isKind_74 rfl rfl (by first | exact h1 (hy.mpr (by omega)) | exact h2 (fun q => by have := hy.mp q; omega))
  have N : ∀ (mm : Int), (0 ≤ kd ∧ kd ≤ 3) → mm = (if 2 ≤ kd then 127 else 0) → xw g M_X9_isKind Q 0 0 23 [(0, vI kd), (1, vI mk), (2, vI wo), (3, vI mm)] [] n f := by
    intro mm hk3 em
    refine xw_iload_n dX9_isKind_23 rfl ?_
    refine xw_iconst dX9_isKind_24 ?_
    refine xw_icmpne (tgt := 32) dX9_isKind_25 (by decide) (by first | assumption | (unfold inI; omega) | (unfold inI at *; omega)) (by first | assumption | (unfold inI; omega) | (unfold inI at *; omega)) (fun c_25 => ?_) (fun c_25 => ?_)
    · skip
      refine xw_iconst dX9_isKind_32 ?_
      refine xw_istore dX9_isKind_33 (by decide) ?_
      refine xw_iload_n dX9_isKind_35 rfl ?_
      refine xw_iconst dX9_isKind_36 ?_
      refine xw_icmpne (tgt := 45) dX9_isKind_37 (by decide) (by first | assumption | (unfold inI; omega) | (unfold inI at *; omega)) (by first | assumption | (unfold inI; omega) | (unfold inI at *; omega)) (fun c_37 => ?_) (fun c_37 => ?_)
      · skip
        refine xw_iconst dX9_isKind_45 ?_
        refine xw_istore dX9_isKind_46 (by decide) ?_
        first | exact xw_ls [(0, vI kd), (1, vI mk), (2, vI wo), (3, vI mm), (4, vI 2), (5, vI 100)] ⟨rfl, rfl, rfl, rfl, rfl, rfl, trivial⟩ (E mm 2 100 hk3 em (by rw [if_pos (by omega)]) (by rw [if_pos (by omega)])) | exact xw_ls [(0, vI kd), (1, vI mk), (2, vI wo), (3, vI mm), (4, vI 1), (5, vI 1)] ⟨rfl, rfl, rfl, rfl, rfl, rfl, trivial⟩ (E mm 1 1 hk3 em (by rw [if_neg (by omega)]) (by rw [if_neg (by omega)])) | (exfalso; omega)
      · skip
        refine xw_bipush (z := 100) dX9_isKind_40 (by decide) ?_
        refine xw_goto (tgt := 46) dX9_isKind_42 (by decide) ?_
        refine xw_istore dX9_isKind_46 (by decide) ?_
        first | exact xw_ls [(0, vI kd), (1, vI mk), (2, vI wo), (3, vI mm), (4, vI 2), (5, vI 100)] ⟨rfl, rfl, rfl, rfl, rfl, rfl, trivial⟩ (E mm 2 100 hk3 em (by rw [if_pos (by omega)]) (by rw [if_pos (by omega)])) | exact xw_ls [(0, vI kd), (1, vI mk), (2, vI wo), (3, vI mm), (4, vI 1), (5, vI 1)] ⟨rfl, rfl, rfl, rfl, rfl, rfl, trivial⟩ (E mm 1 1 hk3 em (by rw [if_neg (by omega)]) (by rw [if_neg (by omega)])) | (exfalso; omega)
    · skip
      refine xw_iconst dX9_isKind_28 ?_
      refine xw_goto (tgt := 33) dX9_isKind_29 (by decide) ?_
      refine xw_istore dX9_isKind_33 (by decide) ?_
      refine xw_iload_n dX9_isKind_35 rfl ?_
      refine xw_iconst dX9_isKind_36 ?_
      refine xw_icmpne (tgt := 45) dX9_isKind_37 (by decide) (by first | assumption | (unfold inI; omega) | (unfold inI at *; omega)) (by first | assumption | (unfold inI; omega) | (unfold inI at *; omega)) (fun c_37 => ?_) (fun c_37 => ?_)
      · skip
        refine xw_iconst dX9_isKind_45 ?_
        refine xw_istore dX9_isKind_46 (by decide) ?_
        first | exact xw_ls [(0, vI kd), (1, vI mk), (2, vI wo), (3, vI mm), (4, vI 2), (5, vI 100)] ⟨rfl, rfl, rfl, rfl, rfl, rfl, trivial⟩ (E mm 2 100 hk3 em (by rw [if_pos (by omega)]) (by rw [if_pos (by omega)])) | exact xw_ls [(0, vI kd), (1, vI mk), (2, vI wo), (3, vI mm), (4, vI 1), (5, vI 1)] ⟨rfl, rfl, rfl, rfl, rfl, rfl, trivial⟩ (E mm 1 1 hk3 em (by rw [if_neg (by omega)]) (by rw [if_neg (by omega)])) | (exfalso; omega)
      · skip
        refine xw_bipush (z := 100) dX9_isKind_40 (by decide) ?_
        refine xw_goto (tgt := 46) dX9_isKind_42 (by decide) ?_
        refine xw_istore dX9_isKind_46 (by decide) ?_
        first | exact xw_ls [(0, vI kd), (1, vI mk), (2, vI wo), (3, vI mm), (4, vI 2), (5, vI 100)] ⟨rfl, rfl, rfl, rfl, rfl, rfl, trivial⟩ (E mm 2 100 hk3 em (by rw [if_pos (by omega)]) (by rw [if_pos (by omega)])) | exact xw_ls [(0, vI kd), (1, vI mk), (2, vI wo), (3, vI mm), (4, vI 1), (5, vI 1)] ⟨rfl, rfl, rfl, rfl, rfl, rfl, trivial⟩ (E mm 1 1 hk3 em (by rw [if_neg (by omega)]) (by rw [if_neg (by omega)])) | (exfalso; omega)
  refine xw_iload_n dX9_isKind_0 rfl ?_
  refine xw_iflt (tgt := 9) dX9_isKind_1 (by decide) (by first | assumption | (unfold inI; omega) | (unfold inI at *; omega)) (fun c_1 => ?_) (fun c_1 => ?_)
  · skip
    refine xw_iconst dX9_isKind_9 ?_
    exact xw_zret dX9_isKind_10 rfl rfl (h2 (fun q => by have := q.1; omega))
  · skip
    refine xw_iload_n dX9_isKind_4 rfl ?_
    refine xw_iconst dX9_isKind_5 ?_
    refine xw_icmple (tgt := 11) dX9_isKind_6 (by decide) (by first | assumption | (unfold inI; omega) | (unfold inI at *; omega)) (by first | assumption | (unfold inI; omega) | (unfold inI at *; omega)) (fun c_6 => ?_) (fun c_6 => ?_)
    · skip
      refine xw_iload_n dX9_isKind_11 rfl ?_
      refine xw_iconst dX9_isKind_12 ?_
      refine xw_icmplt (tgt := 21) dX9_isKind_13 (by decide) (by first | assumption | (unfold inI; omega) | (unfold inI at *; omega)) (by first | assumption | (unfold inI; omega) | (unfold inI at *; omega)) (fun c_13 => ?_) (fun c_13 => ?_)
      · skip
        refine xw_iconst dX9_isKind_21 ?_
        refine xw_istore_n dX9_isKind_22 (by decide) ?_
        first | exact xw_ls [(0, vI kd), (1, vI mk), (2, vI wo), (3, vI 127)] ⟨rfl, rfl, rfl, rfl, trivial⟩ (N 127 (by omega) (by rw [if_pos (by omega)])) | exact xw_ls [(0, vI kd), (1, vI mk), (2, vI wo), (3, vI 0)] ⟨rfl, rfl, rfl, rfl, trivial⟩ (N 0 (by omega) (by rw [if_neg (by omega)]))
      · skip
        refine xw_bipush (z := 127) dX9_isKind_16 (by decide) ?_
        refine xw_goto (tgt := 22) dX9_isKind_18 (by decide) ?_
        refine xw_istore_n dX9_isKind_22 (by decide) ?_
        first | exact xw_ls [(0, vI kd), (1, vI mk), (2, vI wo), (3, vI 127)] ⟨rfl, rfl, rfl, rfl, trivial⟩ (N 127 (by omega) (by rw [if_pos (by omega)])) | exact xw_ls [(0, vI kd), (1, vI mk), (2, vI wo), (3, vI 0)] ⟨rfl, rfl, rfl, rfl, trivial⟩ (N 0 (by omega) (by rw [if_neg (by omega)]))
    · skip
      refine xw_iconst dX9_isKind_9 ?_
      exact xw_zret dX9_isKind_10 rfl rfl (h2 (fun q => by have := q.1; omega))
theorem ct_forget {bn gn on tk rk pu ow : Int} {sz : Nat} (h0 : f 0 = some (oTb bn gn on tk rk pu)) (h20 : f 20 = some (oLs sz ow)) (hq : Q (.inl none) n (xup (xup f 0 (oTb bn gn on 0 0 pu)) 20 (oLs sz (-1)))) : xct g M_X9_forgetWhatWasSeen 0 0 [vR 0] n f Q := by
  refine xct_of rfl rfl (Nat.le_of_ble_eq_true rfl) ?_
  refine xw_aload_n dX9_forgetWhatWasSeen_0 rfl ?_
  refine xw_iconst dX9_forgetWhatWasSeen_1 ?_
  refine xw_putfield dX9_forgetWhatWasSeen_2 (fp_X9_342 _) h0 rfl rfl ?_
  rw [fX9_10]
  refine xw_aload_n dX9_forgetWhatWasSeen_5 rfl ?_
  refine xw_iconst dX9_forgetWhatWasSeen_6 ?_
  refine xw_putfield dX9_forgetWhatWasSeen_7 (fp_X9_345 _) rfl rfl rfl ?_
  rw [fX9_12]
  rw [xup_up]
  refine xw_aload_n dX9_forgetWhatWasSeen_10 rfl ?_
  refine xw_getfield dX9_forgetWhatWasSeen_11 fl_X9_45 rfl rfl ?_
  refine xw_iconst dX9_forgetWhatWasSeen_14 ?_
  refine xw_putfield dX9_forgetWhatWasSeen_15 (fp_X9_348 _) h20 rfl rfl ?_
  rw [fX3_2]
  exact xw_vret dX9_forgetWhatWasSeen_18 rfl hq
theorem ct_bringBack {bn gn on tk rk pu ow kd mk wo ot : Int} {sz a pc ap : Nat} (h0 : f 0 = some (oTb bn gn on tk rk pu)) (h20 : f 20 = some (oLs sz ow)) (ha : f a = some (oSt kd mk wo pc ap ot)) (la : 79 ≤ a) (hq : Q (.inl none) n (xup (xup (xup f a (oSt kd mk wo pc ap 1)) 0 (oTb bn gn (on + 1) 0 0 pu)) 20 (oLs sz (-1)))) : xct g M_X9_bringBack 0 0 [vR 0, vR a] n f Q := by
  refine xct_of rfl rfl (Nat.le_of_ble_eq_true rfl) ?_
  obtain ⟨F, hF⟩ : ∃ F, F = xup f a (oSt kd mk wo pc ap 1) := ⟨_, rfl⟩
  rw [← hF] at hq
  have F0 : F 0 = some (oTb bn gn on tk rk pu) := by rw [hF]; exact (xup_n _ _ (by omega)).trans h0
  have F20 : F 20 = some (oLs sz ow) := by rw [hF]; exact (xup_n _ _ (by omega)).trans h20
  refine xw_aload_n dX9_bringBack_0 rfl ?_
  refine xw_iconst dX9_bringBack_1 ?_
  refine xw_putfield dX9_bringBack_2 (fp_X9_330 _) ha rfl rfl ?_
  refine xw_cgO (fs1 := fSt kd mk wo pc ap 1) (D := RX7) (T := TX7) (N := 6) rfl (fun j hj => fSt_5 kd mk wo pc ap ot 1 j hj) ?_
  rw [← hF]
  refine xw_aload_n dX9_bringBack_5 rfl ?_
  refine xw_dup dX9_bringBack_6 rfl ?_
  refine xw_getfield dX9_bringBack_7 fl_X9_131 F0 rfl ?_
  refine xw_iconst dX9_bringBack_10 ?_
  refine xw_iadd dX9_bringBack_11 ?_
  refine xw_putfield dX9_bringBack_12 (fp_X9_131 _) F0 rfl rfl ?_
  rw [fX9_4]
  refine xw_aload_n dX9_bringBack_15 rfl ?_
  refine xw_callV (rc := 0) (rs := 0) (mc2 := 0) (ms2 := 0) (a := 0) (As := []) (st := []) dX9_bringBack_16 mv_X9_159 rfl rfl rfl (by decide) (by decide) (Nat.le_of_ble_eq_true rfl) rfl (ct_forget (f := xup F 0 (oTb bn gn (on + 1) tk rk pu)) rfl F20 ?_)
  rw [xup_up]
  exact xw_vret dX9_bringBack_19 rfl hq
theorem ct_takeAway {bn gn on tk rk pu ow kd mk wo ot : Int} {sz a pc ap : Nat} (h0 : f 0 = some (oTb bn gn on tk rk pu)) (h20 : f 20 = some (oLs sz ow)) (ha : f a = some (oSt kd mk wo pc ap ot)) (la : 79 ≤ a) (hq : Q (.inl none) n (xup (xup (xup f a (oSt kd mk wo pc ap 0)) 0 (oTb bn gn (on - 1) 0 0 pu)) 20 (oLs sz (-1)))) : xct g M_X9_takeAway 0 0 [vR 0, vR a] n f Q := by
  refine xct_of rfl rfl (Nat.le_of_ble_eq_true rfl) ?_
  obtain ⟨F, hF⟩ : ∃ F, F = xup f a (oSt kd mk wo pc ap 0) := ⟨_, rfl⟩
  rw [← hF] at hq
  have F0 : F 0 = some (oTb bn gn on tk rk pu) := by rw [hF]; exact (xup_n _ _ (by omega)).trans h0
  have F20 : F 20 = some (oLs sz ow) := by rw [hF]; exact (xup_n _ _ (by omega)).trans h20
  refine xw_aload_n dX9_takeAway_0 rfl ?_
  refine xw_iconst dX9_takeAway_1 ?_
  refine xw_putfield dX9_takeAway_2 (fp_X9_330 _) ha rfl rfl ?_
  refine xw_cgO (fs1 := fSt kd mk wo pc ap 0) (D := RX7) (T := TX7) (N := 6) rfl (fun j hj => fSt_5 kd mk wo pc ap ot 0 j hj) ?_
  rw [← hF]
  refine xw_aload_n dX9_takeAway_5 rfl ?_
  refine xw_dup dX9_takeAway_6 rfl ?_
  refine xw_getfield dX9_takeAway_7 fl_X9_131 F0 rfl ?_
  refine xw_iconst dX9_takeAway_10 ?_
  refine xw_isub dX9_takeAway_11 ?_
  refine xw_putfield dX9_takeAway_12 (fp_X9_131 _) F0 rfl rfl ?_
  rw [fX9_4]
  refine xw_aload_n dX9_takeAway_15 rfl ?_
  refine xw_callV (rc := 0) (rs := 0) (mc2 := 0) (ms2 := 0) (a := 0) (As := []) (st := []) dX9_takeAway_16 mv_X9_159 rfl rfl rfl (by decide) (by decide) (Nat.le_of_ble_eq_true rfl) rfl (ct_forget (f := xup F 0 (oTb bn gn (on - 1) tk rk pu)) rfl F20 ?_)
  rw [xup_up]
  exact xw_vret dX9_takeAway_19 rfl hq
set_option maxHeartbeats 4000000 in
theorem ct_boxWithRow {gn on tk rk pu z w : Int} {bn : Nat} {bo : Nat → Nat} {β : Nat → xBx} (h0 : f 0 = some (oTb bn gn on tk rk pu)) (hb : bxs f bn bo β) (hz : inI z) (hw : inI w) (h1 : ∀ b k : Nat, z = (b : Int) → w = (k : Int) → b < bn → k < 20 → Q (.inl (some (vR (bo b)))) n f) (hx : ¬ ((0 ≤ z ∧ z < (bn : Int)) ∧ 0 ≤ w ∧ w < 20) → ∀ n', n ≤ n' → Q (.inr eIOB) n' f) : xct g M_X9_boxWithRow 1 6 [vR 0, vI z, vI w] n f Q := by
  refine xct_of rfl rfl (Nat.le_of_ble_eq_true rfl) ?_
  obtain ⟨hb1, hb2, hb3, hb4⟩ := hb
  by_cases hc : 0 ≤ z ∧ z < (bn : Int)
  · obtain ⟨b, rfl⟩ : ∃ b : Nat, z = (b : Int) := ⟨z.toNat, by omega⟩
    have hlt : b < bn := by omega
    refine xw_iload_n dX9_boxWithRow_0 rfl ?_
    refine xw_iflt (tgt := 31) dX9_boxWithRow_1 (by decide) (by first | assumption | (unfold inI; omega) | (unfold inI at *; omega)) (fun c_1 => ?_) (fun c_1 => ?_)
    · skip
      exfalso; omega
    · skip
      refine xw_iload_n dX9_boxWithRow_4 rfl ?_
      refine xw_aload_n dX9_boxWithRow_5 rfl ?_
      refine xw_getfield dX9_boxWithRow_6 fl_X9_74 h0 rfl ?_
      refine xw_icmpge (tgt := 31) dX9_boxWithRow_9 (by decide) (by first | assumption | (unfold inI; omega) | (unfold inI at *; omega)) (by first | assumption | (unfold inI; omega) | (unfold inI at *; omega)) (fun c_9 => ?_) (fun c_9 => ?_)
      · skip
        exfalso; omega
      · skip
        refine xw_aload_n dX9_boxWithRow_12 rfl ?_
        refine xw_getfield dX9_boxWithRow_13 fl_X9_11 h0 rfl ?_
        refine xw_iload_n dX9_boxWithRow_16 rfl ?_
        refine xw_aald dX9_boxWithRow_17 hb1 rfl (j := b) rfl (by omega) (by decide) ?_
        refine xw_topr (bo b) (if_pos hlt) ?_
        refine xw_ifnullR dX9_boxWithRow_18 ?_
        refine xw_iload_n dX9_boxWithRow_21 rfl ?_
        refine xw_iflt (tgt := 31) dX9_boxWithRow_22 (by decide) (by first | assumption | (unfold inI; omega) | (unfold inI at *; omega)) (fun c_22 => ?_) (fun c_22 => ?_)
        · skip
          exact xw_throwSW (rc := 0) (rs := 0) th_327 rfl dX9_boxWithRow_31 dX9_boxWithRow_34 dX9_boxWithRow_35 dX9_boxWithRow_38 dX9_boxWithRow_41 (by decide) (by decide) (hx (by omega))
        · skip
          refine xw_iload_n dX9_boxWithRow_25 rfl ?_
          refine xw_bipush (z := 20) dX9_boxWithRow_26 (by decide) ?_
          refine xw_icmplt (tgt := 42) dX9_boxWithRow_28 (by decide) (by first | assumption | (unfold inI; omega) | (unfold inI at *; omega)) (by first | assumption | (unfold inI; omega) | (unfold inI at *; omega)) (fun c_28 => ?_) (fun c_28 => ?_)
          · skip
            refine xw_aload_n dX9_boxWithRow_42 rfl ?_
            refine xw_getfield dX9_boxWithRow_43 fl_X9_11 h0 rfl ?_
            refine xw_iload_n dX9_boxWithRow_46 rfl ?_
            refine xw_aald dX9_boxWithRow_47 hb1 rfl (j := b) rfl (by omega) (by decide) ?_
            refine xw_topr (bo b) (if_pos hlt) ?_
            exact xw_aret dX9_boxWithRow_48 rfl (h1 b w.toNat rfl (by omega) hlt (by omega))
          · skip
            exact xw_throwSW (rc := 0) (rs := 0) th_327 rfl dX9_boxWithRow_31 dX9_boxWithRow_34 dX9_boxWithRow_35 dX9_boxWithRow_38 dX9_boxWithRow_41 (by decide) (by decide) (hx (by omega))
  · skip
    refine xw_iload_n dX9_boxWithRow_0 rfl ?_
    refine xw_iflt (tgt := 31) dX9_boxWithRow_1 (by decide) (by first | assumption | (unfold inI; omega) | (unfold inI at *; omega)) (fun c_1 => ?_) (fun c_1 => ?_)
    · skip
      exact xw_throwSW (rc := 0) (rs := 0) th_327 rfl dX9_boxWithRow_31 dX9_boxWithRow_34 dX9_boxWithRow_35 dX9_boxWithRow_38 dX9_boxWithRow_41 (by decide) (by decide) (hx (by omega))
    · skip
      refine xw_iload_n dX9_boxWithRow_4 rfl ?_
      refine xw_aload_n dX9_boxWithRow_5 rfl ?_
      refine xw_getfield dX9_boxWithRow_6 fl_X9_74 h0 rfl ?_
      refine xw_icmpge (tgt := 31) dX9_boxWithRow_9 (by decide) (by first | assumption | (unfold inI; omega) | (unfold inI at *; omega)) (by first | assumption | (unfold inI; omega) | (unfold inI at *; omega)) (fun c_9 => ?_) (fun c_9 => ?_)
      · skip
        exact xw_throwSW (rc := 0) (rs := 0) th_327 rfl dX9_boxWithRow_31 dX9_boxWithRow_34 dX9_boxWithRow_35 dX9_boxWithRow_38 dX9_boxWithRow_41 (by decide) (by decide) (hx (by omega))
      · skip
        exfalso; omega
set_option maxHeartbeats 4000000 in
theorem ct_leastTouched {bn on tk rk pu : Int} {gn a : Nat} {so : Nat → Nat} {σ : Nat → xSt} {d : Nat → Int} {X : xSt} (h0 : f 0 = some (oTb bn gn on tk rk pu)) (hs : stk f gn so σ) (hg : sgt f d) (ha : f a = some (oSk X (a + 1))) (hap : f (a + 1) = some (aI 9 (ptS X))) (la : 79 ≤ a) (hX : ∀ j, j < 9 → nr (ptS X j)) (hq : ∀ f1 r, scr f f1 → ltR gn σ X (fun s => so s ≠ a) r → Q (.inl (some (vI r))) n f1) : xct g M_X9_leastTouched 0 0 [vR 0, vR a] n f Q := by
  refine xct_of rfl rfl (Nat.le_of_ble_eq_true rfl) ?_
  have hgn := hs.2.1
  have L : ∀ (m s : Nat) (f1 : xH), s + m = gn → scr f f1 → (∀ t, t < s → hrS (σ t) = 1 → so t ≠ a → ¬ tchS (ptS X) (pcS X) (ptS (σ t)) (pcS (σ t))) → xw g M_X9_leastTouched Q 0 0 2 [(0, vR 0), (1, vR a), (2, vI (s : Int))] [] n f1 := by
    intro m
    induction m with
    | zero =>
      intro s f1 hm hsc hi
      have e0 : f1 0 = some (oTb bn gn on tk rk pu) := (hsc.1 0 (by omega)).trans h0
      refine xw_iload_n dX9_leastTouched_2 rfl ?_
      refine xw_aload_n dX9_leastTouched_3 rfl ?_
      refine xw_getfield dX9_leastTouched_4 fl_X9_134 e0 rfl ?_
      refine xw_icmpge (tgt := 53) dX9_leastTouched_7 (by decide) (by first | assumption | (unfold inI; omega) | (unfold inI at *; omega)) (by first | assumption | (unfold inI; omega) | (unfold inI at *; omega)) (fun c_7 => ?_) (fun c_7 => ?_)
      · skip
        refine xw_iconst dX9_leastTouched_53 ?_
        exact xw_iret dX9_leastTouched_54 rfl (hq f1 (-1) hsc (Or.inl ⟨rfl, fun t ht => hi t (by omega)⟩))
      · skip
        exfalso; omega
    | succ m ih =>
      intro s f1 hm hsc hi
      have hlt : s < gn := by omega
      have e0 : f1 0 = some (oTb bn gn on tk rk pu) := (hsc.1 0 (by omega)).trans h0
      have es : stk f1 gn so σ := stk_fr hs (hsc.1 2 (by omega)) (fun k hk => hsc.1 k (by omega))
      obtain ⟨sg, e3, e4, e5, e6, e7, e8⟩ := sgt_scr hg hsc
      have ea : f1 a = some (oSk X (a + 1)) := (hsc.1 a (by omega)).trans ha
      have eap : f1 (a + 1) = some (aI 9 (ptS X)) := (hsc.1 (a + 1) (by omega)).trans hap
      have hk := es.2.2.1 s hlt
      have N : ∀ f2, scr f f2 → (hrS (σ s) = 1 → so s ≠ a → ¬ tchS (ptS X) (pcS X) (ptS (σ s)) (pcS (σ s))) → xw g M_X9_leastTouched Q 0 0 47 [(0, vR 0), (1, vR a), (2, vI (s : Int))] [] n f2 := by
        intro f2 hs2 hn2
        refine xw_iinc dX9_leastTouched_47 rfl (by decide) ?_
        refine xw_goto (tgt := 2) dX9_leastTouched_50 (by decide) ?_
        exact xw_ls [(0, vR 0), (1, vR a), (2, vI ((s + 1 : Nat) : Int))] ⟨rfl, rfl, rfl, trivial⟩ (ih (s + 1) f2 (by omega) hs2 (fun t ht => by
            by_cases e : t = s
            · subst e; exact hn2
            · exact hi t (by omega)))
      refine xw_iload_n dX9_leastTouched_2 rfl ?_
      refine xw_aload_n dX9_leastTouched_3 rfl ?_
      refine xw_getfield dX9_leastTouched_4 fl_X9_134 e0 rfl ?_
      refine xw_icmpge (tgt := 53) dX9_leastTouched_7 (by decide) (by first | assumption | (unfold inI; omega) | (unfold inI at *; omega)) (by first | assumption | (unfold inI; omega) | (unfold inI at *; omega)) (fun c_7 => ?_) (fun c_7 => ?_)
      · skip
        exfalso; omega
      · skip
        refine xw_aload_n dX9_leastTouched_10 rfl ?_
        refine xw_iload_n dX9_leastTouched_11 rfl ?_
        refine xw_callV (rc := 0) (rs := 0) (mc2 := 0) (ms2 := 0) (a := 0) (As := [vI (s : Int)]) (st := []) dX9_leastTouched_12 mv_X9_229 e0 rfl rfl (by decide) (by decide) (Nat.le_of_ble_eq_true rfl) rfl (ct_isHere e0 es (by unfold inI; omega) (fun t ht hlt2 hr => ?_) (fun hn => ?_))
        · skip
          refine xw_ifeq (tgt := 47) dX9_leastTouched_15 (by decide) (by unfold inI; omega) (fun c => absurd c (by decide)) (fun _ => ?_)
          obtain rfl : s = t := by omega
          refine xw_aload_n dX9_leastTouched_18 rfl ?_
          refine xw_getfield dX9_leastTouched_19 fl_X9_17 e0 rfl ?_
          refine xw_iload_n dX9_leastTouched_22 rfl ?_
          refine xw_aald dX9_leastTouched_23 es.1 rfl (j := s) rfl (by omega) (by decide) ?_
          refine xw_topr (so s) (if_pos hlt) ?_
          refine xw_aload_n dX9_leastTouched_24 rfl ?_
          refine xw_acmpeq (tgt := 47) dX9_leastTouched_25 (by decide)  (fun c_25 => ?_) (fun c_25 => ?_)
          · skip
            first
              | exact xw_ls [(0, vR 0), (1, vR a), (2, vI (s : Int))] ⟨rfl, rfl, rfl, trivial⟩ (N f2 (scr_tr hsc hsc2) (fun _ _ => hT))
              | exact xw_ls [(0, vR 0), (1, vR a), (2, vI (s : Int))] ⟨rfl, rfl, rfl, trivial⟩ (N f1 hsc (fun _ q => absurd c_25 q))
              | exact xw_ls [(0, vR 0), (1, vR a), (2, vI (s : Int))] ⟨rfl, rfl, rfl, trivial⟩ (N f1 hsc (fun q _ => absurd ⟨s, rfl, by omega, q⟩ hn))
          · skip
            refine xw_aload_n dX9_leastTouched_28 rfl ?_
            refine xw_getfield dX9_leastTouched_29 fl_X9_24 e0 rfl ?_
            refine xw_aload_n dX9_leastTouched_32 rfl ?_
            refine xw_aload_n dX9_leastTouched_33 rfl ?_
            refine xw_getfield dX9_leastTouched_34 fl_X9_17 e0 rfl ?_
            refine xw_iload_n dX9_leastTouched_37 rfl ?_
            refine xw_aald dX9_leastTouched_38 es.1 rfl (j := s) rfl (by omega) (by decide) ?_
            refine xw_topr (so s) (if_pos hlt) ?_
            refine xw_callV (rc := 0) (rs := 0) (mc2 := 0) (ms2 := 0) (a := 3) (As := [vR a, vR (so s)]) (st := []) dX9_leastTouched_39 mv_X9_338 e3 rfl rfl (by decide) (by decide) (Nat.le_of_ble_eq_true rfl) rfl (ct_touch e3 e5 ea eap hk.2.1 hk.2.2.1 (by omega) (by omega) (by omega) (by omega) (pcS_2 X) (pcS_2 (σ s)) hX hk.2.2.2.2.2.2.2 (fun hT f2 hsc2 => ?_) (fun hT f2 hsc2 => ?_))
            · skip
              refine xw_ifeq (tgt := 47) dX9_leastTouched_42 (by decide) (by unfold inI; omega) (fun c => absurd c (by decide)) (fun _ => ?_)
              refine xw_iload_n dX9_leastTouched_45 rfl ?_
              exact xw_iret dX9_leastTouched_46 rfl (hq f2 s (scr_tr hsc hsc2) (Or.inr ⟨s, hlt, rfl, hr, c_25, hT, hi⟩))
            · skip
              refine xw_ifeq (tgt := 47) dX9_leastTouched_42 (by decide) (by unfold inI; omega) (fun _ => ?_) (fun c => absurd c (by decide))
              first
                | exact xw_ls [(0, vR 0), (1, vR a), (2, vI (s : Int))] ⟨rfl, rfl, rfl, trivial⟩ (N f2 (scr_tr hsc hsc2) (fun _ _ => hT))
                | exact xw_ls [(0, vR 0), (1, vR a), (2, vI (s : Int))] ⟨rfl, rfl, rfl, trivial⟩ (N f1 hsc (fun _ q => absurd c_25 q))
                | exact xw_ls [(0, vR 0), (1, vR a), (2, vI (s : Int))] ⟨rfl, rfl, rfl, trivial⟩ (N f1 hsc (fun q _ => absurd ⟨s, rfl, by omega, q⟩ hn))
        · skip
          refine xw_ifeq (tgt := 47) dX9_leastTouched_15 (by decide) (by unfold inI; omega) (fun _ => ?_) (fun c => absurd c (by decide))
          first
            | exact xw_ls [(0, vR 0), (1, vR a), (2, vI (s : Int))] ⟨rfl, rfl, rfl, trivial⟩ (N f2 (scr_tr hsc hsc2) (fun _ _ => hT))
            | exact xw_ls [(0, vR 0), (1, vR a), (2, vI (s : Int))] ⟨rfl, rfl, rfl, trivial⟩ (N f1 hsc (fun _ q => absurd c_25 q))
            | exact xw_ls [(0, vR 0), (1, vR a), (2, vI (s : Int))] ⟨rfl, rfl, rfl, trivial⟩ (N f1 hsc (fun q _ => absurd ⟨s, rfl, by omega, q⟩ hn))
  refine xw_iconst dX9_leastTouched_0 ?_
  refine xw_istore_n dX9_leastTouched_1 (by decide) ?_
  exact xw_ls [(0, vR 0), (1, vR a), (2, vI ((0 : Nat) : Int))] ⟨rfl, rfl, rfl, trivial⟩ (L gn 0 f (by omega) (scr_rf hg.choose_spec.2.2.1) (fun t ht => absurd ht (by omega)))
end C60
