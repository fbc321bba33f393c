/-! the remedy -/
section C50
variable {g : xG} {Q : xP} {n : Nat} {f : xH}
set_option maxHeartbeats 4000000 in
theorem ct_addBest {h P : Nat} {w : Int} {hp ha : Nat → Nat} {hw sw : Nat → Int} (h32 : f 32 = some (oRm w (P : Int) h)) (h33 : f 33 = some (aN 12 hp)) (h34 : f 34 = some (aI 12 hw)) (h35 : f 35 = some (aN 12 ha)) (h36 : f 36 = some (aI 4096 sw)) (hh : h ≤ 12) (hP : P < 2 ^ 40) (hhp : ∀ j, j < h → hp j < 40) (hha : ∀ j, j < h → ha j < 2 ^ 12) (hhw : ∀ j, j < h → 0 ≤ hw j ∧ hw j ≤ 100)
    (hq : ∀ f1 sw1 b, b = bst (fun s => wsm hw s h) ha h (2 ^ h - 1) (2 ^ h - 1) 0 (2 ^ h - 1) → fr [32, 36] f f1 → f1 32 = some (oRm (w + wsm hw b h) ((plc hp b P h : Nat) : Int) h) → f1 36 = some (aI 4096 sw1) → Q (.inl none) n f1) : xct g M_X5_addBestSet 0 0 [vR 32] n f Q := by
  refine xct_of rfl rfl (Nat.le_of_ble_eq_true rfl) ?_
  have B62 : ∀ {x : Nat}, x < 2 ^ 40 → x < 2 ^ 62 := fun h => Nat.lt_of_lt_of_le h (xp2 (by decide))
  obtain ⟨R, hR⟩ : ∃ R, R = bst (fun s => wsm hw s h) ha h (2 ^ h - 1) (2 ^ h - 1) 0 (2 ^ h - 1) := ⟨_, rfl⟩
  have p12 : (2 : Nat) ^ h ≤ 2 ^ 12 := xp2 hh
  have e12 : (2 : Nat) ^ 12 = 4096 := by decide
  have p1 := Nat.one_le_two_pow (n := h)
  obtain ⟨all, hall⟩ : ∃ all, all = 2 ^ h - 1 := ⟨_, rfl⟩
  rw [← hall] at hR
  have eall : ((2 ^ h : Nat) : Int) - 1 = (all : Int) := by omega
  have hRle : R ≤ all := by rw [hR]; exact bst_le all 0 all (by omega) (Nat.le_refl _)
  have P2 : ∀ (sw1 : Nat → Int) (m i : Nat) (f1 : xH), i + m = h → fr [32, 36] f f1 → f1 32 = some (oRm (w + wsm hw R h) ((plc hp R P i : Nat) : Int) h) → f1 36 = some (aI 4096 sw1) → xw g M_X5_addBestSet Q 0 0 68 [(0, vR 32), (2, vI (R : Int)), (3, vI (i : Int))] [] n f1 := by
    intro sw1 m
    induction m with
    | zero =>
      intro i f1 hi hf e32 e36
      rw [show i = h by omega] at e32
      refine xw_iload_n dX5_addBestSet_68 rfl ?_
      refine xw_aload_n dX5_addBestSet_69 rfl ?_
      refine xw_getfield dX5_addBestSet_70 fl_X5_54 e32 rfl ?_
      refine xw_icmpge (tgt := 107) dX5_addBestSet_73 (by decide) (by unfold inI; omega) (by unfold inI; omega) (fun c_73 => ?_) (fun c_73 => ?_)
      · skip
        exact xw_vret dX5_addBestSet_107 rfl (hq f1 sw1 R (by rw [hR, hall]) hf e32 e36)
      · skip
        exfalso; omega
    | succ m ih =>
      intro i f1 hi hf e32 e36
      have e33 : f1 33 = some (aN 12 hp) := fr_at hf h33 (by decide)
      have hpl := plc_lt (best := R) hP hhp i (by omega)
      have h2 := hhp i (by omega)
      have hb := Nat.mod_two_eq_zero_or_one (R / 2 ^ i)
      have ht := @xb_t R i
      have h2p : (2 : Nat) ^ (hp i) < 2 ^ 62 := Nat.pow_lt_pow_right (by decide) (by omega)
      have hst : plc hp R P (i + 1) = if R.testBit i = true then plc hp R P i ||| 2 ^ (hp i) else plc hp R P i := rfl
      have hdl : R / 2 ^ i ≤ R := Nat.div_le_self _ _
      refine xw_iload_n dX5_addBestSet_68 rfl ?_
      refine xw_aload_n dX5_addBestSet_69 rfl ?_
      refine xw_getfield dX5_addBestSet_70 fl_X5_54 e32 rfl ?_
      refine xw_icmpge (tgt := 107) dX5_addBestSet_73 (by decide) (by unfold inI; omega) (by unfold inI; omega) (fun c_73 => ?_) (fun c_73 => ?_)
      · skip
        exfalso; omega
      · skip
        refine xw_iload_n dX5_addBestSet_76 rfl ?_
        refine xw_iload_n dX5_addBestSet_77 rfl ?_
        refine xw_ishr dX5_addBestSet_78 (xb_shrI (a := R) (b := i) (by omega) (by omega)) ?_
        refine xw_iconst dX5_addBestSet_79 ?_
        refine xw_iand dX5_addBestSet_80 (xb_lowI (k := 1) (by decide) (R / 2 ^ i)) ?_
        refine xw_ifeq (tgt := 101) dX5_addBestSet_81 (by decide) (by unfold inI; rw [show (2 : Nat) ^ 1 = 2 from rfl]; omega) (fun c_81 => ?_) (fun c_81 => ?_)
        · skip
          refine xw_iinc dX5_addBestSet_101 rfl (by decide) ?_
          refine xw_goto (tgt := 68) dX5_addBestSet_104 (by decide) ?_
          first
            | (rw [show (2 : Nat) ^ 1 = 2 from rfl] at c_81; rw [if_neg (fun h9 => Bool.noConfusion ((ht.mp (by omega)).symm.trans h9))] at hst; exact xw_ls [(0, vR 32), (2, vI (R : Int)), (3, vI ((i + 1 : Nat) : Int))] ⟨rfl, rfl, rfl, trivial⟩ (ih (i + 1) f1 (by omega) hf (by rw [hst]; exact e32) e36))
            | (rw [show (2 : Nat) ^ 1 = 2 from rfl] at c_81; rw [if_pos (Bool.not_eq_false _ ▸ (fun h9 => c_81 (by rw [ht.mpr h9]; rfl)))] at hst; exact xw_ls [(0, vR 32), (2, vI (R : Int)), (3, vI ((i + 1 : Nat) : Int))] ⟨rfl, rfl, rfl, trivial⟩ (ih (i + 1) _ (by omega) (fr_up hf (by decide)) (by rw [hst]; exact xup_s _ _ _) e36))
        · skip
          refine xw_aload_n dX5_addBestSet_84 rfl ?_
          refine xw_dup dX5_addBestSet_85 rfl ?_
          refine xw_getfield dX5_addBestSet_86 fl_X5_28 e32 rfl ?_
          refine xw_lconst (z := 1) dX5_addBestSet_89 (by decide) ?_
          refine xw_aload_n dX5_addBestSet_90 rfl ?_
          refine xw_getfield dX5_addBestSet_91 fl_X5_11 e32 rfl ?_
          refine xw_iload_n dX5_addBestSet_94 rfl ?_
          refine xw_iald dX5_addBestSet_95 e33 (j := i) rfl (by omega) (by decide) ?_
          refine xw_lshl dX5_addBestSet_96 (xb_shl (b := hp i) (by omega)) ?_
          refine xw_lor dX5_addBestSet_97 (xb_or (B62 hpl) h2p) ?_
          refine xw_putfield dX5_addBestSet_98 (fp_X5_28 _) e32 rfl rfl ?_
          rw [fX5_1]
          refine xw_iinc dX5_addBestSet_101 rfl (by decide) ?_
          refine xw_goto (tgt := 68) dX5_addBestSet_104 (by decide) ?_
          first
            | (rw [show (2 : Nat) ^ 1 = 2 from rfl] at c_81; rw [if_neg (fun h9 => Bool.noConfusion ((ht.mp (by omega)).symm.trans h9))] at hst; exact xw_ls [(0, vR 32), (2, vI (R : Int)), (3, vI ((i + 1 : Nat) : Int))] ⟨rfl, rfl, rfl, trivial⟩ (ih (i + 1) f1 (by omega) hf (by rw [hst]; exact e32) e36))
            | (rw [show (2 : Nat) ^ 1 = 2 from rfl] at c_81; rw [if_pos (Bool.not_eq_false _ ▸ (fun h9 => c_81 (by rw [ht.mpr h9]; rfl)))] at hst; exact xw_ls [(0, vR 32), (2, vI (R : Int)), (3, vI ((i + 1 : Nat) : Int))] ⟨rfl, rfl, rfl, trivial⟩ (ih (i + 1) _ (by omega) (fr_up hf (by decide)) (by rw [hst]; exact xup_s _ _ _) e36))
  have L : ∀ (f0 : xH) (sw1 : Nat → Int), fr [36] f f0 → f0 36 = some (aI 4096 sw1) → (∀ s, s < 2 ^ h → sw1 s = wsm hw s h) → ∀ (m s b : Nat), s + m = all → b ≤ all → bst (fun s => wsm hw s h) ha h all m s b = R → xw g M_X5_addBestSet Q 0 0 17 [(0, vR 32), (1, vI (all : Int)), (2, vI (b : Int)), (3, vI (s : Int))] [] n f0 := by
    intro f0 sw1 hf e36 hsw m
    have e32 : f0 32 = some (oRm w (P : Int) h) := fr_at hf h32 (by decide)
    have e35 : f0 35 = some (aN 12 ha) := fr_at hf h35 (by decide)
    induction m with
    | zero =>
      intro s b hs hb he
      have hbR : b = R := he
      subst hbR
      refine xw_iload_n dX5_addBestSet_17 rfl ?_
      refine xw_iload_n dX5_addBestSet_18 rfl ?_
      refine xw_icmpge (tgt := 51) dX5_addBestSet_19 (by decide) (by unfold inI; omega) (by unfold inI; omega) (fun c_19 => ?_) (fun c_19 => ?_)
      · skip
        refine xw_aload_n dX5_addBestSet_51 rfl ?_
        refine xw_dup dX5_addBestSet_52 rfl ?_
        refine xw_getfield dX5_addBestSet_53 fl_X5_24 e32 rfl ?_
        refine xw_aload_n dX5_addBestSet_56 rfl ?_
        refine xw_getfield dX5_addBestSet_57 fl_X5_21 e32 rfl ?_
        refine xw_iload_n dX5_addBestSet_60 rfl ?_
        refine xw_iald dX5_addBestSet_61 e36 (j := b) rfl (by omega) (by decide) ?_
        refine xw_topi (wsm hw b h) (hsw b (by omega)) ?_
        refine xw_iadd dX5_addBestSet_62 ?_
        refine xw_putfield dX5_addBestSet_63 (fp_X5_24 _) e32 rfl rfl ?_
        rw [fX5_0]
        refine xw_iconst dX5_addBestSet_66 ?_
        refine xw_istore_n dX5_addBestSet_67 (by decide) ?_
        exact xw_ls [(0, vR 32), (2, vI (b : Int)), (3, vI ((0 : Nat) : Int))] ⟨rfl, rfl, rfl, trivial⟩ (P2 sw1 h 0 _ (by omega) (fr_up (fr_sub hf (by decide)) (by decide)) (xup_s _ _ _) e36)
      · skip
        exfalso; omega
    | succ m ih =>
      intro s b hs hb he
      unfold bst at he
      have wi : ∀ s, s < 2 ^ h → inI (sw1 s) := fun s hs9 => by rw [hsw s hs9]; have := wsm_b (s := s) h hhw; unfold inI; omega
      have eb : betb sw1 s b = betb (fun s => wsm hw s h) s b := by unfold betb; rw [hsw s (by omega), hsw b (by omega)]
      have hxd := xdf_le all s
      refine xw_iload_n dX5_addBestSet_17 rfl ?_
      refine xw_iload_n dX5_addBestSet_18 rfl ?_
      refine xw_icmpge (tgt := 51) dX5_addBestSet_19 (by decide) (by unfold inI; omega) (by unfold inI; omega) (fun c_19 => ?_) (fun c_19 => ?_)
      · skip
        exfalso; omega
      · skip
        refine xw_aload_n dX5_addBestSet_22 rfl ?_
        refine xw_iload_n dX5_addBestSet_23 rfl ?_
        refine xw_iload_n dX5_addBestSet_24 rfl ?_
        refine xw_callV (rc := 0) (rs := 0) (mc2 := 0) (ms2 := 0) (a := 32) (As := [vI (s : Int), vI (b : Int)]) (st := []) dX5_addBestSet_25 mv_X5_74 e32 rfl rfl (by decide) (by decide) (Nat.le_of_ble_eq_true rfl) rfl (ct_isBetter e32 e36 (by omega) (by omega) ⟨wi s (by omega), wi b (by omega)⟩ (fun h_25 => ?_) (fun h_25 => ?_))
        · skip
          refine xw_ifeq (tgt := 45) dX5_addBestSet_28 (by decide) (by unfold inI; omega) (fun c => absurd c (by decide)) (fun _ => ?_)
          refine xw_aload_n dX5_addBestSet_31 rfl ?_
          refine xw_iload_n dX5_addBestSet_32 rfl ?_
          refine xw_iload_n dX5_addBestSet_33 rfl ?_
          refine xw_iconst dX5_addBestSet_34 ?_
          refine xw_ixor dX5_addBestSet_35 (xb_notI s) ?_
          refine xw_iand dX5_addBestSet_36 (xb_dfI (a := all) (b := s) (by omega)) ?_
          refine xw_callV (rc := 0) (rs := 0) (mc2 := 0) (ms2 := 0) (a := 32) (As := [vI ((xdf all s : Nat) : Int)]) (st := []) dX5_addBestSet_37 mv_X5_77 e32 rfl rfl (by decide) (by decide) (Nat.le_of_ble_eq_true rfl) rfl (ct_isLoose e32 e35 hh (by omega) hha (fun h_37 => ?_) (fun h_37 => ?_))
          · skip
            refine xw_ifeq (tgt := 45) dX5_addBestSet_40 (by decide) (by unfold inI; omega) (fun c => absurd c (by decide)) (fun _ => ?_)
            refine xw_iload_n dX5_addBestSet_43 rfl ?_
            refine xw_istore_n dX5_addBestSet_44 (by decide) ?_
            refine xw_iinc dX5_addBestSet_45 rfl (by decide) ?_
            refine xw_goto (tgt := 17) dX5_addBestSet_48 (by decide) ?_
            first
              | (rw [if_pos ⟨eb ▸ h_25, h_37⟩] at he; exact xw_ls [(0, vR 32), (1, vI (all : Int)), (2, vI (s : Int)), (3, vI ((s + 1 : Nat) : Int))] ⟨rfl, rfl, rfl, rfl, trivial⟩ (ih (s + 1) s (by omega) (by omega) he))
              | (rw [if_neg (fun h9 => Bool.noConfusion (h_37.symm.trans h9.2))] at he; exact xw_ls [(0, vR 32), (1, vI (all : Int)), (2, vI (b : Int)), (3, vI ((s + 1 : Nat) : Int))] ⟨rfl, rfl, rfl, rfl, trivial⟩ (ih (s + 1) b (by omega) hb he))
              | (rw [if_neg (fun h9 => Bool.noConfusion (h_25.symm.trans (eb.trans h9.1)))] at he; exact xw_ls [(0, vR 32), (1, vI (all : Int)), (2, vI (b : Int)), (3, vI ((s + 1 : Nat) : Int))] ⟨rfl, rfl, rfl, rfl, trivial⟩ (ih (s + 1) b (by omega) hb he))
          · skip
            refine xw_ifeq (tgt := 45) dX5_addBestSet_40 (by decide) (by unfold inI; omega) (fun _ => ?_) (fun c => absurd c (by decide))
            refine xw_iinc dX5_addBestSet_45 rfl (by decide) ?_
            refine xw_goto (tgt := 17) dX5_addBestSet_48 (by decide) ?_
            first
              | (rw [if_pos ⟨eb ▸ h_25, h_37⟩] at he; exact xw_ls [(0, vR 32), (1, vI (all : Int)), (2, vI (s : Int)), (3, vI ((s + 1 : Nat) : Int))] ⟨rfl, rfl, rfl, rfl, trivial⟩ (ih (s + 1) s (by omega) (by omega) he))
              | (rw [if_neg (fun h9 => Bool.noConfusion (h_37.symm.trans h9.2))] at he; exact xw_ls [(0, vR 32), (1, vI (all : Int)), (2, vI (b : Int)), (3, vI ((s + 1 : Nat) : Int))] ⟨rfl, rfl, rfl, rfl, trivial⟩ (ih (s + 1) b (by omega) hb he))
              | (rw [if_neg (fun h9 => Bool.noConfusion (h_25.symm.trans (eb.trans h9.1)))] at he; exact xw_ls [(0, vR 32), (1, vI (all : Int)), (2, vI (b : Int)), (3, vI ((s + 1 : Nat) : Int))] ⟨rfl, rfl, rfl, rfl, trivial⟩ (ih (s + 1) b (by omega) hb he))
        · skip
          refine xw_ifeq (tgt := 45) dX5_addBestSet_28 (by decide) (by unfold inI; omega) (fun _ => ?_) (fun c => absurd c (by decide))
          refine xw_iinc dX5_addBestSet_45 rfl (by decide) ?_
          refine xw_goto (tgt := 17) dX5_addBestSet_48 (by decide) ?_
          first
            | (rw [if_pos ⟨eb ▸ h_25, h_37⟩] at he; exact xw_ls [(0, vR 32), (1, vI (all : Int)), (2, vI (s : Int)), (3, vI ((s + 1 : Nat) : Int))] ⟨rfl, rfl, rfl, rfl, trivial⟩ (ih (s + 1) s (by omega) (by omega) he))
            | (rw [if_neg (fun h9 => Bool.noConfusion (h_37.symm.trans h9.2))] at he; exact xw_ls [(0, vR 32), (1, vI (all : Int)), (2, vI (b : Int)), (3, vI ((s + 1 : Nat) : Int))] ⟨rfl, rfl, rfl, rfl, trivial⟩ (ih (s + 1) b (by omega) hb he))
            | (rw [if_neg (fun h9 => Bool.noConfusion (h_25.symm.trans (eb.trans h9.1)))] at he; exact xw_ls [(0, vR 32), (1, vI (all : Int)), (2, vI (b : Int)), (3, vI ((s + 1 : Nat) : Int))] ⟨rfl, rfl, rfl, rfl, trivial⟩ (ih (s + 1) b (by omega) hb he))
  refine xw_iconst dX5_addBestSet_0 ?_
  refine xw_aload_n dX5_addBestSet_1 rfl ?_
  refine xw_getfield dX5_addBestSet_2 fl_X5_54 h32 rfl ?_
  refine xw_ishl dX5_addBestSet_5 (xb_shlI h (by omega)) ?_
  refine xw_iconst dX5_addBestSet_6 ?_
  refine xw_isub dX5_addBestSet_7 ?_
  refine xw_topi (all : Int) eall ?_
  refine xw_istore_n dX5_addBestSet_8 (by decide) ?_
  refine xw_aload_n dX5_addBestSet_9 rfl ?_
  refine xw_callV (rc := 0) (rs := 0) (mc2 := 0) (ms2 := 0) (a := 32) (As := []) (st := []) dX5_addBestSet_10 mv_X5_71 h32 rfl rfl (by decide) (by decide) (Nat.le_of_ble_eq_true rfl) rfl (ct_weigh h32 h34 h36 hh (fun f1 sw1 hf1 e36 hsw => ?_))
  refine xw_iload_n dX5_addBestSet_13 rfl ?_
  refine xw_istore_n dX5_addBestSet_14 (by decide) ?_
  refine xw_iconst dX5_addBestSet_15 ?_
  refine xw_istore_n dX5_addBestSet_16 (by decide) ?_
  exact xw_ls [(0, vR 32), (1, vI (all : Int)), (2, vI (all : Int)), (3, vI ((0 : Nat) : Int))] ⟨rfl, rfl, rfl, rfl, trivial⟩ (L f1 sw1 hf1 e36 hsw all 0 all (by omega) (Nat.le_refl _) hR.symm)
set_option maxHeartbeats 4000000 in
theorem ct_find {sz kc h0 : Nat} {ls w pl : Int} {av hp ha ks : Nat → Nat} {hw wo sw : Nat → Int} (h22 : f 22 = some (oTg sz ls (kc : Int))) (h24 : f 24 = some (aI 40 wo)) (h25 : f 25 = some (aS 40 av)) (h30 : f 30 = some (aS 20 ks)) (h32 : f 32 = some (oRm w pl h0)) (h33 : f 33 = some (aN 12 hp)) (h34 : f 34 = some (aI 12 hw)) (h35 : f 35 = some (aN 12 ha)) (h36 : f 36 = some (aI 4096 sw)) (hsz : sz ≤ 40) (hkc : kc ≤ 20) (hks : ∀ j, j < kc → ks j < 2 ^ sz) (hav : ∀ j, j < sz → av j < 2 ^ 40) (hwo : ∀ j, j < sz → 0 ≤ wo j ∧ wo j ≤ 100)
    (hq : ∀ f1 hp1 hw1 ha1 sw1 h1 (r : Int × Nat), r = rmd av wo sz ks kc 0 0 0 → fr [32, 33, 34, 35, 36] f f1 → f1 32 = some (oRm r.1 ((r.2 : Nat) : Int) h1) → f1 33 = some (aN 12 hp1) → f1 34 = some (aI 12 hw1) → f1 35 = some (aN 12 ha1) → f1 36 = some (aI 4096 sw1) → Q (.inl none) n f1) : xct g M_X5_find 0 0 [vR 32, vR 22] n f Q := by
  refine xct_of rfl rfl (Nat.le_of_ble_eq_true rfl) ?_
  obtain ⟨R, hR⟩ : ∃ R, R = rmd av wo sz ks kc 0 0 0 := ⟨_, rfl⟩
  have L : ∀ (m k : Nat) (f1 : xH) (hp1 ha1 : Nat → Nat) (hw1 sw1 : Nat → Int) (h1 P : Nat) (w1 : Int), k + m = kc → P < 2 ^ 40 → rmd av wo sz ks m k w1 P = R → fr [32, 33, 34, 35, 36] f f1 → f1 32 = some (oRm w1 (P : Int) h1) → f1 33 = some (aN 12 hp1) → f1 34 = some (aI 12 hw1) → f1 35 = some (aN 12 ha1) → f1 36 = some (aI 4096 sw1) → xw g M_X5_find Q 0 0 12 [(0, vR 32), (1, vR 22), (2, vI (k : Int))] [] n f1 := by
    intro m
    induction m with
    | zero =>
      intro k f1 hp1 ha1 hw1 sw1 h1 P w1 hk hP he hf e32 e33 e34 e35 e36
      have e22 : f1 22 = some (oTg sz ls (kc : Int)) := fr_at hf h22 (by decide)
      refine xw_iload_n dX5_find_12 rfl ?_
      refine xw_aload_n dX5_find_13 rfl ?_
      refine xw_getfield dX5_find_14 fl_X5_32 e22 rfl ?_
      refine xw_icmpge (tgt := 66) dX5_find_17 (by decide) (by unfold inI; omega) (by unfold inI; omega) (fun c_17 => ?_) (fun c_17 => ?_)
      · skip
        exact xw_vret dX5_find_66 rfl (hq f1 hp1 hw1 ha1 sw1 h1 (w1, P) (he.trans hR) hf e32 e33 e34 e35 e36)
      · skip
        exfalso; omega
    | succ m ih =>
      intro k f1 hp1 ha1 hw1 sw1 h1 P w1 hk hP he hf e32 e33 e34 e35 e36
      have e22 : f1 22 = some (oTg sz ls (kc : Int)) := fr_at hf h22 (by decide)
      have e24 : f1 24 = some (aI 40 wo) := fr_at hf h24 (by decide)
      have e25 : f1 25 = some (aS 40 av) := fr_at hf h25 (by decide)
      have e30 : f1 30 = some (aS 20 ks) := fr_at hf h30 (by decide)
      have hksz := hks k (by omega)
      have hk40 : ks k < 2 ^ 40 := Nat.lt_of_lt_of_le hksz (xp2 hsz)
      have hce : cnt (ks k) 40 = cnt (ks k) sz := by
        have h9 := cnt_hi hksz (40 - sz)
        rw [show sz + (40 - sz) = 40 by omega] at h9
        exact h9
      have hc40 := cnt_le (ks k) 40
      unfold rmd at he
      refine xw_iload_n dX5_find_12 rfl ?_
      refine xw_aload_n dX5_find_13 rfl ?_
      refine xw_getfield dX5_find_14 fl_X5_32 e22 rfl ?_
      refine xw_icmpge (tgt := 66) dX5_find_17 (by decide) (by unfold inI; omega) (by unfold inI; omega) (fun c_17 => ?_) (fun c_17 => ?_)
      · skip
        exfalso; omega
      · skip
        refine xw_aload_n dX5_find_20 rfl ?_
        refine xw_getfield dX5_find_21 fl_X5_37 e22 rfl ?_
        refine xw_iload_n dX5_find_24 rfl ?_
        refine xw_lald dX5_find_25 e30 (j := k) rfl (by omega) (by decide) ?_
        refine xw_callS (rc := 0) (rs := 0) (mc2 := 0) (ms2 := 0) (As := [vL ((ks k : Nat) : Int)]) (st := []) dX5_find_26 ms_X5_41 rfl (by decide) (by decide) (Nat.le_of_ble_eq_true rfl) rfl (ct_bitL hk40 ?_)
        refine xw_bipush (z := 12) dX5_find_29 (by decide) ?_
        refine xw_icmple (tgt := 45) dX5_find_31 (by decide) (by unfold inI; omega) (by unfold inI; omega) (fun c_31 => ?_) (fun c_31 => ?_)
        · skip
          refine xw_aload_n dX5_find_45 rfl ?_
          refine xw_aload_n dX5_find_46 rfl ?_
          refine xw_aload_n dX5_find_47 rfl ?_
          refine xw_getfield dX5_find_48 fl_X5_37 e22 rfl ?_
          refine xw_iload_n dX5_find_51 rfl ?_
          refine xw_lald dX5_find_52 e30 (j := k) rfl (by omega) (by decide) ?_
          refine xw_callV (rc := 0) (rs := 0) (mc2 := 0) (ms2 := 0) (a := 32) (As := [vR 22, vL ((ks k : Nat) : Int)]) (st := []) dX5_find_53 mv_X5_47 e32 rfl rfl (by decide) (by decide) (Nat.le_of_ble_eq_true rfl) rfl (ct_takeKnot e22 e24 e25 e32 e33 e34 e35 hsz hk40 (by omega) hav (fun f2 hp2 hw2 ha2 hf2 i32 i33 i34 i35 hI => ?_))
          refine xw_aload_n dX5_find_56 rfl ?_
          refine xw_callV (rc := 0) (rs := 0) (mc2 := 0) (ms2 := 0) (a := 32) (As := []) (st := []) dX5_find_57 mv_X5_51 i32 rfl rfl (by decide) (by decide) (Nat.le_of_ble_eq_true rfl) rfl (ct_addBest i32 i33 i34 i35 (fr_at hf2 e36 (by decide)) (by omega) hP (fun j hj => by have := (hI j hj).2.1; omega) (fun j hj => by rw [(hI j hj).2.2.2]; exact Nat.lt_of_lt_of_le (hab_lt av _ j _) (xp2 (by omega))) (fun j hj => by rw [(hI j hj).2.2.1]; exact hwo _ (hI j hj).2.1) (fun f3 sw3 b hb hf3 k32 k36 => ?_))
          refine xw_iinc dX5_find_60 rfl (by decide) ?_
          refine xw_goto (tgt := 12) dX5_find_63 (by decide) ?_
          have hw9 : ∀ s, wsm hw2 s (cnt (ks k) sz) = wsm (fun j => wo (hpc (ks k) sz j)) s (cnt (ks k) sz) := fun s => wsm_cg _ (fun j hj => ⟨by rw [(hI j hj).2.2.1, (hI j hj).1], rfl⟩)
          have hp9 : ∀ j, j < cnt (ks k) sz → hp2 j = hpc (ks k) sz j := fun j hj => (hI j hj).1
          have hb9 : b = kbs av wo sz (ks k) := by
            rw [hb]
            exact bst_cg (fun s _ => hw9 s) (fun j hj => (hI j hj).2.2.2) _ 0 _ (by have := Nat.one_le_two_pow (n := cnt (ks k) sz); omega) (Nat.le_refl _)
          rw [plc_cg _ hp9, hw9 b, hb9] at k32
          rw [if_neg (by omega)] at he
          exact xw_ls [(0, vR 32), (1, vR 22), (2, vI ((k + 1 : Nat) : Int))] ⟨rfl, rfl, rfl, trivial⟩ (ih (k + 1) f3 hp2 ha2 hw2 sw3 _ _ _ (by omega) (plc_lt hP (fun j hj => by rw [← hp9 j hj]; have := (hI j hj).2.1; omega) _ (Nat.le_refl _)) he (fr_tr (fr_tr hf (fr_sub hf2 (by decide))) (fr_sub hf3 (by decide))) k32 (fr_at hf3 i33 (by decide)) (fr_at hf3 i34 (by decide)) (fr_at hf3 i35 (by decide)) k36)
        · skip
          refine xw_aload_n dX5_find_34 rfl ?_
          refine xw_iconst dX5_find_35 ?_
          refine xw_putfield dX5_find_36 (fp_X5_24 _) e32 rfl rfl ?_
          rw [fX5_0]
          refine xw_aload_n dX5_find_39 rfl ?_
          refine xw_lconst (z := 0) dX5_find_40 (by decide) ?_
          refine xw_putfield dX5_find_41 (fp_X5_28 _) (xup_s _ _ _) rfl rfl ?_
          rw [fX5_1]
          rw [xup_up]
          exact xw_vret dX5_find_44 rfl (hq _ hp1 hw1 ha1 sw1 h1 (-1, 0) (by rw [← hR, ← he, if_pos (by omega)]) (fr_up hf (by decide)) (xup_s _ _ _) e33 e34 e35 e36)
  refine xw_aload_n dX5_find_0 rfl ?_
  refine xw_iconst dX5_find_1 ?_
  refine xw_putfield dX5_find_2 (fp_X5_24 _) h32 rfl rfl ?_
  rw [fX5_0]
  refine xw_aload_n dX5_find_5 rfl ?_
  refine xw_lconst (z := 0) dX5_find_6 (by decide) ?_
  refine xw_putfield dX5_find_7 (fp_X5_28 _) (xup_s _ _ _) rfl rfl ?_
  rw [fX5_1]
  rw [xup_up]
  refine xw_iconst dX5_find_10 ?_
  refine xw_istore_n dX5_find_11 (by decide) ?_
  exact xw_ls [(0, vR 32), (1, vR 22), (2, vI ((0 : Nat) : Int))] ⟨rfl, rfl, rfl, trivial⟩ (L kc 0 _ hp ha hw sw h0 0 0 (by omega) (by decide) hR.symm (fr_up (fr_rf _ _) (by decide)) (xup_s _ _ _) h33 h34 h35 h36)
end C50
