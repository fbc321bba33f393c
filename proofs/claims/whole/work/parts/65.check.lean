/-! a proof is looked through -/
def wio (av : Nat → Nat) (c : Nat → Int) (sz : Nat) (pr : Nat → Int) : Nat → Nat → Nat → Int
  | 0, i, L => if L = 0 then -1 else (i : Int)
  | m + 1, i, L => if xidx c (pr i) 0 sz = -1 ∨ L.testBit (xidx c (pr i) 0 sz).toNat = false ∨ av (xidx c (pr i) 0 sz).toNat &&& L ≠ 0 then (i : Int) else wio av c sz pr m (i + 1) (xclr L (xidx c (pr i) 0 sz).toNat)
/-- first and latest place -/
def wir (av : Nat → Nat) (c : Nat → Int) (sz : Nat) (pr : Nat → Int) (pu : Nat) : Nat → Nat → Nat → Int → Int → Int → Prop
  | 0, _, _, fi, la, r => r = (if pu < 2 then (pu : Int) else @ite _ (abv av sz fi la) (Classical.propDecidable _) (-1) 0)
  | m + 1, i, S, fi, la, r => ((xidx c (pr i) 0 sz = -1 ∨ S.testBit (xidx c (pr i) 0 sz).toNat = true ∨ (0 < i ∧ ¬ abv av sz (xidx c (pr i) 0 sz) la)) ∧ r = (i : Int)) ∨
      (¬ (xidx c (pr i) 0 sz = -1 ∨ S.testBit (xidx c (pr i) 0 sz).toNat = true ∨ (0 < i ∧ ¬ abv av sz (xidx c (pr i) 0 sz) la)) ∧ wir av c sz pr pu m (i + 1) (S ||| 2 ^ (xidx c (pr i) 0 sz).toNat) (if i = 0 then xidx c (pr i) 0 sz else fi) (xidx c (pr i) 0 sz) r)
theorem inL40 {x : Nat} (h : x < 2 ^ 40) : inL (x : Int) := by
  have e40 : (2 : Nat) ^ 40 = 1099511627776 := by decide
  unfold inL; omega
section C65
variable {g : xG} {y : xM} {Q : xP} {n : Nat} {f : xH}
set_option maxHeartbeats 4000000 in
theorem ct_wrongInOrder {bn gnI on tk rk ls kc : Int} {pu sz : Nat} {c pr : Nat → Int} {av : Nat → Nat} (h0 : f 0 = some (oTb bn gnI on tk rk pu)) (h37 : f 37 = some (aI 40 pr)) (h22 : f 22 = some (oTg sz ls kc)) (h23 : f 23 = some (aI 40 c)) (h25 : f 25 = some (aS 40 av)) (hsz : sz ≤ 40) (hpu : pu ≤ 40) (hpr : ∀ j, j < pu → inI (pr j)) (hc : ∀ j, j < sz → inI (c j)) (hav : ∀ j, j < 40 → av j < 2 ^ 40) (hq : Q (.inl (some (vI (wio av c sz pr pu 0 (2 ^ sz - 1))))) n f) : xct g M_X9_wrongInOrder 0 0 [vR 0, vR 22] n f Q := by
  refine xct_of rfl rfl (Nat.le_of_ble_eq_true rfl) ?_
  have B62 : ∀ {x : Nat}, x < 2 ^ 40 → x < 2 ^ 62 := fun h => Nat.lt_of_lt_of_le h (xp2 (by decide))
  have hz40 : 2 ^ sz - 1 < 2 ^ 40 := by have := xp2 hsz; have := Nat.one_le_two_pow (n := sz); omega
  obtain ⟨R, hR⟩ : ∃ R, R = wio av c sz pr pu 0 (2 ^ sz - 1) := ⟨_, rfl⟩
  rw [← hR] at hq
  have L : ∀ (m i L : Nat), i + m = pu → L < 2 ^ 40 → wio av c sz pr m i L = R → xw g M_X9_wrongInOrder Q 0 0 8 [(0, vR 0), (1, vR 22), (2, vL (L : Int)), (4, vI (i : Int))] [] n f := by
    intro m
    induction m with
    | zero =>
      intro i L hm hL he
      have hiL : inL (L : Int) := inL40 hL
      unfold wio at he
      obtain rfl : i = pu := by omega
      refine xw_iload dX9_wrongInOrder_8 rfl ?_
      refine xw_aload_n dX9_wrongInOrder_10 rfl ?_
      refine xw_getfield dX9_wrongInOrder_11 fl_X9_309 h0 rfl ?_
      refine xw_icmpge (tgt := 79) dX9_wrongInOrder_14 (by decide) (by first | assumption | (unfold inI; omega) | (unfold inI at *; omega)) (by first | assumption | (unfold inI; omega) | (unfold inI at *; omega)) (fun c_14 => ?_) (fun c_14 => ?_)
      · skip
        refine xw_lload_n dX9_wrongInOrder_79 rfl ?_
        refine xw_lconst (z := 0) dX9_wrongInOrder_80 (by decide) ?_
        refine xw_lcmpne (tgt := 89) dX9_wrongInOrder_81 dX9_wrongInOrder_82 (by decide) hiL (by unfold inL; omega) (fun c_81 => ?_) (fun c_81 => ?_)
        · skip
          refine xw_aload_n dX9_wrongInOrder_89 rfl ?_
          refine xw_getfield dX9_wrongInOrder_90 fl_X9_309 h0 rfl ?_
          exact xw_iret dX9_wrongInOrder_93 rfl (by first | (rw [if_pos (by omega)] at he; rw [he]; exact hq) | (rw [if_neg (by omega)] at he; rw [he]; exact hq))
        · skip
          refine xw_iconst dX9_wrongInOrder_85 ?_
          refine xw_goto (tgt := 93) dX9_wrongInOrder_86 (by decide) ?_
          exact xw_iret dX9_wrongInOrder_93 rfl (by first | (rw [if_pos (by omega)] at he; rw [he]; exact hq) | (rw [if_neg (by omega)] at he; rw [he]; exact hq))
      · skip
        exfalso; omega
    | succ m ih =>
      intro i L hm hL he
      unfold wio at he
      have hin := xidx_in c (pr i) sz 0
      generalize ew : xidx c (pr i) 0 sz = w at *
      refine xw_iload dX9_wrongInOrder_8 rfl ?_
      refine xw_aload_n dX9_wrongInOrder_10 rfl ?_
      refine xw_getfield dX9_wrongInOrder_11 fl_X9_309 h0 rfl ?_
      refine xw_icmpge (tgt := 79) dX9_wrongInOrder_14 (by decide) (by first | assumption | (unfold inI; omega) | (unfold inI at *; omega)) (by first | assumption | (unfold inI; omega) | (unfold inI at *; omega)) (fun c_14 => ?_) (fun c_14 => ?_)
      · skip
        exfalso; omega
      · skip
        refine xw_aload_n dX9_wrongInOrder_17 rfl ?_
        refine xw_aload_n dX9_wrongInOrder_18 rfl ?_
        refine xw_getfield dX9_wrongInOrder_19 fl_X9_63 h0 rfl ?_
        refine xw_iload dX9_wrongInOrder_22 rfl ?_
        refine xw_iald dX9_wrongInOrder_24 h37 (j := i) rfl (by omega) (by decide) ?_
        refine xw_callV (rc := 0) (rs := 0) (mc2 := 0) (ms2 := 0) (a := 22) (As := [vI (pr i)]) (st := []) dX9_wrongInOrder_25 mv_X9_232 h22 rfl rfl (by decide) (by decide) (Nat.le_of_ble_eq_true rfl) rfl (ct_placeOf h22 h23 hsz (hpr i (by omega)) hc ?_)
        refine xw_topi w ew ?_
        refine xw_istore dX9_wrongInOrder_28 (by decide) ?_
        refine xw_iload dX9_wrongInOrder_30 rfl ?_
        refine xw_iconst dX9_wrongInOrder_32 ?_
        refine xw_icmpeq (tgt := 59) dX9_wrongInOrder_33 (by decide) (by unfold inI; rcases hin with h | ⟨p, h1, h2, h3, h4⟩ <;> omega) (by unfold inI; omega) (fun c_33 => ?_) (fun c_33 => ?_)
        · skip
          refine xw_ls [(0, vR 0), (1, vR 22), (2, vL (L : Int)), (4, vI (i : Int))] ⟨rfl, rfl, rfl, rfl, trivial⟩ ?_
          rw [if_pos (Or.inl c_33)] at he
          refine xw_iload dX9_wrongInOrder_59 rfl ?_
          exact xw_iret dX9_wrongInOrder_61 rfl (by rw [he]; exact hq)
        · skip
          obtain ⟨p, -, hp2, hp3, hp4⟩ := hin.resolve_left (fun h => c_33 h.1)
          subst hp3
          rw [Int.toNat_natCast] at he
          have hpl : p < 40 := by omega
          have hdd : av p &&& L < 2 ^ 40 := Nat.lt_of_le_of_lt Nat.and_le_right hL
          have hiL : inL ((av p &&& L : Nat) : Int) := inL40 hdd
          refine xw_lload_n dX9_wrongInOrder_36 rfl ?_
          refine xw_iload dX9_wrongInOrder_37 rfl ?_
          refine xw_callS (rc := 0) (rs := 0) (mc2 := 0) (ms2 := 0) (As := [vL (L : Int), vI (p : Int)]) (st := []) dX9_wrongInOrder_39 ms_X9_388 rfl (by decide) (by decide) (Nat.le_of_ble_eq_true rfl) rfl (ct_isIn (B62 hL) (by omega) (fun hb => ?_) (fun hb => ?_))
          · skip
            refine xw_ifeq (tgt := 59) dX9_wrongInOrder_42 (by decide) (by unfold inI; omega) (fun c => absurd c (by decide)) (fun _ => ?_)
            refine xw_aload_n dX9_wrongInOrder_45 rfl ?_
            refine xw_getfield dX9_wrongInOrder_46 fl_X9_392 h22 rfl ?_
            refine xw_iload dX9_wrongInOrder_49 rfl ?_
            refine xw_lald dX9_wrongInOrder_51 h25 (j := p) rfl hpl (by decide) ?_
            refine xw_lload_n dX9_wrongInOrder_52 rfl ?_
            refine xw_land dX9_wrongInOrder_53 (xb_and (B62 (hav p hpl)) (B62 hL)) ?_
            refine xw_lconst (z := 0) dX9_wrongInOrder_54 (by decide) ?_
            refine xw_lcmpeq (tgt := 62) dX9_wrongInOrder_55 dX9_wrongInOrder_56 (by decide) hiL (by unfold inL; omega) (fun c_55 => ?_) (fun c_55 => ?_)
            · skip
              refine xw_lload_n dX9_wrongInOrder_62 rfl ?_
              refine xw_lconst (z := 1) dX9_wrongInOrder_63 (by decide) ?_
              refine xw_iload dX9_wrongInOrder_64 rfl ?_
              refine xw_lshl dX9_wrongInOrder_66 (xb_shl (b := p) (by omega)) ?_
              refine xw_ldc2 (z := -1) dX9_wrongInOrder_67 kl_X9_395 (by decide) ?_
              refine xw_lxor dX9_wrongInOrder_70 (xb_not (2 ^ p)) ?_
              refine xw_land dX9_wrongInOrder_71 (xb_clr (B62 hL) (by omega)) ?_
              refine xw_lstore_n dX9_wrongInOrder_72 (by decide) ?_
              refine xw_iinc dX9_wrongInOrder_73 rfl (by decide) ?_
              refine xw_goto (tgt := 8) dX9_wrongInOrder_76 (by decide) ?_
              rw [if_neg (by rintro (q | q | q); exact c_33 q; exact Bool.noConfusion (hb.symm.trans q); omega)] at he
              exact xw_ls [(0, vR 0), (1, vR 22), (2, vL ((xclr L p : Nat) : Int)), (4, vI ((i + 1 : Nat) : Int))] ⟨rfl, rfl, rfl, rfl, trivial⟩ (ih (i + 1) (xclr L p) (by omega) (Nat.lt_of_le_of_lt (xclr_le L p) hL) he)
            · skip
              refine xw_iload dX9_wrongInOrder_59 rfl ?_
              exact xw_iret dX9_wrongInOrder_61 rfl (by first | (rw [if_pos (Or.inr (Or.inl hb))] at he; rw [he]; exact hq) | (rw [if_pos (Or.inr (Or.inr (by omega)))] at he; rw [he]; exact hq))
          · skip
            refine xw_ifeq (tgt := 59) dX9_wrongInOrder_42 (by decide) (by unfold inI; omega) (fun _ => ?_) (fun c => absurd c (by decide))
            refine xw_iload dX9_wrongInOrder_59 rfl ?_
            exact xw_iret dX9_wrongInOrder_61 rfl (by first | (rw [if_pos (Or.inr (Or.inl hb))] at he; rw [he]; exact hq) | (rw [if_pos (Or.inr (Or.inr (by omega)))] at he; rw [he]; exact hq))
  refine xw_aload_n dX9_wrongInOrder_0 rfl ?_
  refine xw_callV (rc := 0) (rs := 0) (mc2 := 0) (ms2 := 0) (a := 22) (As := []) (st := []) dX9_wrongInOrder_1 mv_X9_384 h22 rfl rfl (by decide) (by decide) (Nat.le_of_ble_eq_true rfl) rfl (ct_every h22 hsz ?_)
  refine xw_lstore_n dX9_wrongInOrder_4 (by decide) ?_
  refine xw_iconst dX9_wrongInOrder_5 ?_
  refine xw_istore dX9_wrongInOrder_6 (by decide) ?_
  exact xw_ls [(0, vR 0), (1, vR 22), (2, vL ((2 ^ sz - 1 : Nat) : Int)), (4, vI ((0 : Nat) : Int))] ⟨rfl, rfl, rfl, rfl, trivial⟩ (L pu 0 (2 ^ sz - 1) (by omega) hz40 hR.symm)
set_option maxHeartbeats 4000000 in
theorem ct_wrongInRing {bn gnI on tk rk ls kc : Int} {pu sz : Nat} {c pr : Nat → Int} {av : Nat → Nat} (h0 : f 0 = some (oTb bn gnI on tk rk pu)) (h37 : f 37 = some (aI 40 pr)) (h22 : f 22 = some (oTg sz ls kc)) (h23 : f 23 = some (aI 40 c)) (h25 : f 25 = some (aS 40 av)) (hsz : sz ≤ 40) (hpu : pu ≤ 40) (hpr : ∀ j, j < pu → inI (pr j)) (hc : ∀ j, j < sz → inI (c j)) (hav : ∀ j, j < 40 → av j < 2 ^ 40) (hq : ∀ r, wir av c sz pr pu pu 0 0 (-1) (-1) r → Q (.inl (some (vI r))) n f) : xct g M_X9_wrongInRing 0 0 [vR 0, vR 22] n f Q := by
  refine xct_of rfl rfl (Nat.le_of_ble_eq_true rfl) ?_
  have B62 : ∀ {x : Nat}, x < 2 ^ 40 → x < 2 ^ 62 := fun h => Nat.lt_of_lt_of_le h (xp2 (by decide))
  have hav' : ∀ j, j < sz → av j < 2 ^ 40 := fun j hj => hav j (by omega)
  have L : ∀ (m i S : Nat) (fi la : Int), i + m = pu → S < 2 ^ 40 → (-1 ≤ fi ∧ fi < 40) → (-1 ≤ la ∧ la < 40) → (∀ r, wir av c sz pr pu m i S fi la r → wir av c sz pr pu pu 0 0 (-1) (-1) r) → xw g M_X9_wrongInRing Q 0 0 11 [(0, vR 0), (1, vR 22), (2, vL (S : Int)), (4, vI fi), (5, vI la), (6, vI (i : Int))] [] n f := by
    intro m
    induction m with
    | zero =>
      intro i S fi la hm hS hfi hla he
      refine xw_iload dX9_wrongInRing_11 rfl ?_
      refine xw_aload_n dX9_wrongInRing_13 rfl ?_
      refine xw_getfield dX9_wrongInRing_14 fl_X9_309 h0 rfl ?_
      refine xw_icmpge (tgt := 98) dX9_wrongInRing_17 (by decide) (by first | assumption | (unfold inI; omega) | (unfold inI at *; omega)) (by first | assumption | (unfold inI; omega) | (unfold inI at *; omega)) (fun c_17 => ?_) (fun c_17 => ?_)
      · skip
        refine xw_aload_n dX9_wrongInRing_98 rfl ?_
        refine xw_getfield dX9_wrongInRing_99 fl_X9_309 h0 rfl ?_
        refine xw_iconst dX9_wrongInRing_102 ?_
        refine xw_icmpge (tgt := 111) dX9_wrongInRing_103 (by decide) (by first | assumption | (unfold inI; omega) | (unfold inI at *; omega)) (by first | assumption | (unfold inI; omega) | (unfold inI at *; omega)) (fun c_103 => ?_) (fun c_103 => ?_)
        · skip
          refine xw_aload_n dX9_wrongInRing_111 rfl ?_
          refine xw_iload dX9_wrongInRing_112 rfl ?_
          refine xw_iload dX9_wrongInRing_114 rfl ?_
          refine xw_callV (rc := 0) (rs := 0) (mc2 := 0) (ms2 := 0) (a := 22) (As := [vI fi, vI la]) (st := []) dX9_wrongInRing_116 mv_X9_235 h22 rfl rfl (by decide) (by decide) (Nat.le_of_ble_eq_true rfl) rfl (ct_isAbove h22 h25 hsz (by unfold inI; omega) (by unfold inI; omega) hav' (fun hb => ?_) (fun hb => ?_))
          · skip
            refine xw_ifeq (tgt := 126) dX9_wrongInRing_119 (by decide) (by unfold inI; omega) (fun c => absurd c (by decide)) (fun _ => ?_)
            refine xw_iconst dX9_wrongInRing_122 ?_
            refine xw_goto (tgt := 127) dX9_wrongInRing_123 (by decide) ?_
            exact xw_iret dX9_wrongInRing_127 rfl (hq _ (he _ (by unfold wir; rw [if_neg (by omega)]; first | rw [if_pos hb] | rw [if_neg hb])))
          · skip
            refine xw_ifeq (tgt := 126) dX9_wrongInRing_119 (by decide) (by unfold inI; omega) (fun _ => ?_) (fun c => absurd c (by decide))
            refine xw_iconst dX9_wrongInRing_126 ?_
            exact xw_iret dX9_wrongInRing_127 rfl (hq _ (he _ (by unfold wir; rw [if_neg (by omega)]; first | rw [if_pos hb] | rw [if_neg hb])))
        · skip
          refine xw_aload_n dX9_wrongInRing_106 rfl ?_
          refine xw_getfield dX9_wrongInRing_107 fl_X9_309 h0 rfl ?_
          exact xw_iret dX9_wrongInRing_110 rfl (hq _ (he _ (by unfold wir; rw [if_pos (by omega)])))
      · skip
        exfalso; omega
    | succ m ih =>
      intro i S fi la hm hS hfi hla he
      have hin := xidx_in c (pr i) sz 0
      obtain ⟨w, ew⟩ : ∃ w, w = xidx c (pr i) 0 sz := ⟨_, rfl⟩
      have he : ∀ r, ((w = -1 ∨ S.testBit w.toNat = true ∨ (0 < i ∧ ¬ abv av sz w la)) ∧ r = (i : Int)) ∨ (¬ (w = -1 ∨ S.testBit w.toNat = true ∨ (0 < i ∧ ¬ abv av sz w la)) ∧ wir av c sz pr pu m (i + 1) (S ||| 2 ^ w.toNat) (if i = 0 then w else fi) w r) → wir av c sz pr pu pu 0 0 (-1) (-1) r := by rw [ew]; exact he
      rw [← ew] at hin
      have hwi : -1 ≤ w ∧ w < 40 := by rcases hin with h | ⟨p, h1, h2, h3, h4⟩ <;> omega
      have E : (w = -1 ∨ S.testBit w.toNat = true ∨ (0 < i ∧ ¬ abv av sz w la)) → xw g M_X9_wrongInRing Q 0 0 64 [(0, vR 0), (1, vR 22), (2, vL (S : Int)), (4, vI fi), (5, vI la), (6, vI (i : Int)), (7, vI w)] [] n f := by
        intro hcnd
        refine xw_iload dX9_wrongInRing_64 rfl ?_
        exact xw_iret dX9_wrongInRing_66 rfl (hq _ (he _ (Or.inl ⟨hcnd, rfl⟩)))
      have G : ∀ p : Nat, w = (p : Int) → p < 40 → ¬ (w = -1 ∨ S.testBit w.toNat = true ∨ (0 < i ∧ ¬ abv av sz w la)) → xw g M_X9_wrongInRing Q 0 0 67 [(0, vR 0), (1, vR 22), (2, vL (S : Int)), (4, vI fi), (5, vI la), (6, vI (i : Int)), (7, vI w)] [] n f := by
        intro p hwp hp hcnd
        subst hwp
        rw [Int.toNat_natCast] at he hcnd
        have hS2 : S ||| 2 ^ p < 2 ^ 40 := Nat.or_lt_two_pow hS (Nat.pow_lt_pow_right (by decide) hp)
        have hp62 : 2 ^ p < 2 ^ 62 := Nat.pow_lt_pow_right (by decide) (by omega)
        refine xw_lload_n dX9_wrongInRing_67 rfl ?_
        refine xw_lconst (z := 1) dX9_wrongInRing_68 (by decide) ?_
        refine xw_iload dX9_wrongInRing_69 rfl ?_
        refine xw_lshl dX9_wrongInRing_71 (xb_shl (b := p) (by omega)) ?_
        refine xw_lor dX9_wrongInRing_72 (xb_or (B62 hS) hp62) ?_
        refine xw_lstore_n dX9_wrongInRing_73 (by decide) ?_
        refine xw_iload dX9_wrongInRing_74 rfl ?_
        refine xw_ifne (tgt := 84) dX9_wrongInRing_76 (by decide) (by first | assumption | (unfold inI; omega) | (unfold inI at *; omega)) (fun c_76 => ?_) (fun c_76 => ?_)
        · skip
          refine xw_iload dX9_wrongInRing_84 rfl ?_
          refine xw_istore dX9_wrongInRing_86 (by decide) ?_
          refine xw_iload dX9_wrongInRing_88 rfl ?_
          refine xw_istore dX9_wrongInRing_90 (by decide) ?_
          refine xw_iinc dX9_wrongInRing_92 rfl (by decide) ?_
          refine xw_goto (tgt := 11) dX9_wrongInRing_95 (by decide) ?_
          first
            | exact xw_ls [(0, vR 0), (1, vR 22), (2, vL ((S ||| 2 ^ p : Nat) : Int)), (4, vI (p : Int)), (5, vI (p : Int)), (6, vI ((i + 1 : Nat) : Int))] ⟨rfl, rfl, rfl, rfl, rfl, rfl, trivial⟩ (ih (i + 1) (S ||| 2 ^ p) (p : Int) (p : Int) (by omega) hS2 (by omega) (by omega) (fun r hr => he r (Or.inr ⟨hcnd, by rw [if_pos (by omega)]; exact hr⟩)))
            | exact xw_ls [(0, vR 0), (1, vR 22), (2, vL ((S ||| 2 ^ p : Nat) : Int)), (4, vI fi), (5, vI (p : Int)), (6, vI ((i + 1 : Nat) : Int))] ⟨rfl, rfl, rfl, rfl, rfl, rfl, trivial⟩ (ih (i + 1) (S ||| 2 ^ p) fi (p : Int) (by omega) hS2 hfi (by omega) (fun r hr => he r (Or.inr ⟨hcnd, by rw [if_neg (by omega)]; exact hr⟩)))
        · skip
          refine xw_iload dX9_wrongInRing_79 rfl ?_
          refine xw_goto (tgt := 86) dX9_wrongInRing_81 (by decide) ?_
          refine xw_istore dX9_wrongInRing_86 (by decide) ?_
          refine xw_iload dX9_wrongInRing_88 rfl ?_
          refine xw_istore dX9_wrongInRing_90 (by decide) ?_
          refine xw_iinc dX9_wrongInRing_92 rfl (by decide) ?_
          refine xw_goto (tgt := 11) dX9_wrongInRing_95 (by decide) ?_
          first
            | exact xw_ls [(0, vR 0), (1, vR 22), (2, vL ((S ||| 2 ^ p : Nat) : Int)), (4, vI (p : Int)), (5, vI (p : Int)), (6, vI ((i + 1 : Nat) : Int))] ⟨rfl, rfl, rfl, rfl, rfl, rfl, trivial⟩ (ih (i + 1) (S ||| 2 ^ p) (p : Int) (p : Int) (by omega) hS2 (by omega) (by omega) (fun r hr => he r (Or.inr ⟨hcnd, by rw [if_pos (by omega)]; exact hr⟩)))
            | exact xw_ls [(0, vR 0), (1, vR 22), (2, vL ((S ||| 2 ^ p : Nat) : Int)), (4, vI fi), (5, vI (p : Int)), (6, vI ((i + 1 : Nat) : Int))] ⟨rfl, rfl, rfl, rfl, rfl, rfl, trivial⟩ (ih (i + 1) (S ||| 2 ^ p) fi (p : Int) (by omega) hS2 hfi (by omega) (fun r hr => he r (Or.inr ⟨hcnd, by rw [if_neg (by omega)]; exact hr⟩)))
      have M : ∀ p : Nat, w = (p : Int) → p < 40 → xw g M_X9_wrongInRing Q 0 0 39 [(0, vR 0), (1, vR 22), (2, vL (S : Int)), (4, vI fi), (5, vI la), (6, vI (i : Int)), (7, vI w)] [] n f := by
        intro p hwp hp
        refine xw_lload_n dX9_wrongInRing_39 rfl ?_
        refine xw_iload dX9_wrongInRing_40 rfl ?_
        refine xw_topi (p : Int) hwp ?_
        refine xw_callS (rc := 0) (rs := 0) (mc2 := 0) (ms2 := 0) (As := [vL (S : Int), vI (p : Int)]) (st := []) dX9_wrongInRing_42 ms_X9_388 rfl (by decide) (by decide) (Nat.le_of_ble_eq_true rfl) rfl (ct_isIn (B62 hS) (by omega) (fun hb => ?_) (fun hb => ?_))
        · skip
          refine xw_ifne (tgt := 64) dX9_wrongInRing_45 (by decide) (by unfold inI; omega) (fun _ => ?_) (fun c => absurd c (by decide))
          first
            | exact E (Or.inr (Or.inl (by rw [hwp, Int.toNat_natCast]; exact hb)))
            | exact E (Or.inr (Or.inr ⟨by omega, hb2⟩))
        · skip
          refine xw_ifne (tgt := 64) dX9_wrongInRing_45 (by decide) (by unfold inI; omega) (fun c => absurd c (by decide)) (fun _ => ?_)
          refine xw_iload dX9_wrongInRing_48 rfl ?_
          refine xw_ifle (tgt := 67) dX9_wrongInRing_50 (by decide) (by first | assumption | (unfold inI; omega) | (unfold inI at *; omega)) (fun c_50 => ?_) (fun c_50 => ?_)
          · skip
            first
              | exact G p hwp hp (by rintro (q | q | q); omega; rw [hwp, Int.toNat_natCast] at q; exact Bool.noConfusion (hb.symm.trans q); exact q.2 hb2)
              | exact G p hwp hp (by rintro (q | q | q); omega; rw [hwp, Int.toNat_natCast] at q; exact Bool.noConfusion (hb.symm.trans q); omega)
          · skip
            refine xw_aload_n dX9_wrongInRing_53 rfl ?_
            refine xw_iload dX9_wrongInRing_54 rfl ?_
            refine xw_iload dX9_wrongInRing_56 rfl ?_
            refine xw_callV (rc := 0) (rs := 0) (mc2 := 0) (ms2 := 0) (a := 22) (As := [vI w, vI la]) (st := []) dX9_wrongInRing_58 mv_X9_235 h22 rfl rfl (by decide) (by decide) (Nat.le_of_ble_eq_true rfl) rfl (ct_isAbove h22 h25 hsz (by unfold inI; omega) (by unfold inI; omega) hav' (fun hb2 => ?_) (fun hb2 => ?_))
            · skip
              refine xw_ifne (tgt := 67) dX9_wrongInRing_61 (by decide) (by unfold inI; omega) (fun _ => ?_) (fun c => absurd c (by decide))
              first
                | exact G p hwp hp (by rintro (q | q | q); omega; rw [hwp, Int.toNat_natCast] at q; exact Bool.noConfusion (hb.symm.trans q); exact q.2 hb2)
                | exact G p hwp hp (by rintro (q | q | q); omega; rw [hwp, Int.toNat_natCast] at q; exact Bool.noConfusion (hb.symm.trans q); omega)
            · skip
              refine xw_ifne (tgt := 67) dX9_wrongInRing_61 (by decide) (by unfold inI; omega) (fun c => absurd c (by decide)) (fun _ => ?_)
              first
                | exact E (Or.inr (Or.inl (by rw [hwp, Int.toNat_natCast]; exact hb)))
                | exact E (Or.inr (Or.inr ⟨by omega, hb2⟩))
      refine xw_iload dX9_wrongInRing_11 rfl ?_
      refine xw_aload_n dX9_wrongInRing_13 rfl ?_
      refine xw_getfield dX9_wrongInRing_14 fl_X9_309 h0 rfl ?_
      refine xw_icmpge (tgt := 98) dX9_wrongInRing_17 (by decide) (by first | assumption | (unfold inI; omega) | (unfold inI at *; omega)) (by first | assumption | (unfold inI; omega) | (unfold inI at *; omega)) (fun c_17 => ?_) (fun c_17 => ?_)
      · skip
        exfalso; omega
      · skip
        refine xw_aload_n dX9_wrongInRing_20 rfl ?_
        refine xw_aload_n dX9_wrongInRing_21 rfl ?_
        refine xw_getfield dX9_wrongInRing_22 fl_X9_63 h0 rfl ?_
        refine xw_iload dX9_wrongInRing_25 rfl ?_
        refine xw_iald dX9_wrongInRing_27 h37 (j := i) rfl (by omega) (by decide) ?_
        refine xw_callV (rc := 0) (rs := 0) (mc2 := 0) (ms2 := 0) (a := 22) (As := [vI (pr i)]) (st := []) dX9_wrongInRing_28 mv_X9_232 h22 rfl rfl (by decide) (by decide) (Nat.le_of_ble_eq_true rfl) rfl (ct_placeOf h22 h23 hsz (hpr i (by omega)) hc ?_)
        refine xw_topi w ew.symm ?_
        refine xw_istore dX9_wrongInRing_31 (by decide) ?_
        refine xw_iload dX9_wrongInRing_33 rfl ?_
        refine xw_iconst dX9_wrongInRing_35 ?_
        refine xw_icmpeq (tgt := 64) dX9_wrongInRing_36 (by decide) (by unfold inI; omega) (by unfold inI; omega) (fun c_36 => ?_) (fun c_36 => ?_)
        · skip
          exact xw_ls [(0, vR 0), (1, vR 22), (2, vL (S : Int)), (4, vI fi), (5, vI la), (6, vI (i : Int)), (7, vI w)] ⟨rfl, rfl, rfl, rfl, rfl, rfl, rfl, trivial⟩ (E (Or.inl c_36))
        · skip
          obtain ⟨p, -, hp2, hp3, hp4⟩ := hin.resolve_left (fun h => c_36 h.1)
          exact xw_ls [(0, vR 0), (1, vR 22), (2, vL (S : Int)), (4, vI fi), (5, vI la), (6, vI (i : Int)), (7, vI w)] ⟨rfl, rfl, rfl, rfl, rfl, rfl, rfl, trivial⟩ (M p hp3 (by omega))
  refine xw_lconst (z := 0) dX9_wrongInRing_0 (by decide) ?_
  refine xw_lstore_n dX9_wrongInRing_1 (by decide) ?_
  refine xw_iconst dX9_wrongInRing_2 ?_
  refine xw_istore dX9_wrongInRing_3 (by decide) ?_
  refine xw_iconst dX9_wrongInRing_5 ?_
  refine xw_istore dX9_wrongInRing_6 (by decide) ?_
  refine xw_iconst dX9_wrongInRing_8 ?_
  refine xw_istore dX9_wrongInRing_9 (by decide) ?_
  exact xw_ls [(0, vR 0), (1, vR 22), (2, vL ((0 : Nat) : Int)), (4, vI (-1)), (5, vI (-1)), (6, vI ((0 : Nat) : Int))] ⟨rfl, rfl, rfl, rfl, rfl, rfl, trivial⟩ (L pu 0 0 (-1) (-1) (by omega) (Nat.two_pow_pos 40) (by omega) (by omega) (fun r h => h))
end C65
