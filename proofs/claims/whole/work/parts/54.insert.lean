/-! a crossing is put into the list -/
theorem shR_0 (rw1 : Nat → Option Nat) (sz : Nat) : shR rw1 sz sz = rw1 := by
  funext j; unfold shR; rw [if_neg (by omega)]
theorem shR_s (rw1 : Nat → Option Nat) (k sz : Nat) (hk : k < sz) : xui (shR rw1 (k + 1) sz) (k + 1) (rw1 k) = shR rw1 k sz := by
  funext j
  unfold xui shR
  by_cases e : j = k + 1
  · subst e; rw [if_pos rfl, if_pos (by omega)]; rfl
  · rw [if_neg e]
    by_cases e2 : k + 1 < j ∧ j ≤ sz
    · rw [if_pos e2, if_pos (by omega)]
    · rw [if_neg e2, if_neg (by omega)]
theorem shR_inj {rw1 : Nat → Option Nat} {k sz a : Nat} (hk : k ≤ sz) (hsz : sz < 156) (hinj : ∀ i j b, i < 156 → j < 156 → rw1 i = some b → rw1 j = some b → i = j) (ha : rw1 sz = some a) : ∀ i j b, i < 156 → j < 156 → xui (shR rw1 k sz) k (some a) i = some b → xui (shR rw1 k sz) k (some a) j = some b → i = j := by
  -- where place i of the new row comes from
  have src : ∀ i b, i < 156 → xui (shR rw1 k sz) k (some a) i = some b → rw1 (if i = k then sz else if k < i ∧ i ≤ sz then i - 1 else i) = some b := by
    intro i b hi h
    unfold xui shR at h
    by_cases e : i = k
    · rw [if_pos e] at h ⊢; rw [ha]; exact h
    · rw [if_neg e] at h ⊢
      by_cases e2 : k < i ∧ i ≤ sz
      · rw [if_pos e2] at h ⊢; exact h
      · rw [if_neg e2] at h ⊢; exact h
  intro i j b hi hj h1 h2
  have q1 := src i b hi h1
  have q2 := src j b hj h2
  have h := hinj _ _ b (by split; omega; split <;> omega) (by split; omega; split <;> omega) q1 q2
  split at h <;> split at h <;> (try split at h) <;> (try split at h) <;> omega
section C54
variable {g : xG} {y : xM} {Q : xP} {n : Nat} {f : xH}
set_option maxHeartbeats 4000000 in
theorem ct_insert {sz : Nat} {ow k pi ot op : Int} {s : ofS} {L : Nat → xC7} (h3 : f 3 = some (oSs k s)) (h20 : f 20 = some (oLs sz ow)) (hl : lst n f sz L) (hw : wf n f) (hsz : sz < 156) (hc : okC (crOf pi ot op s)) (hL : ∀ j, j < sz → okC (L j))
    (hq : ∀ n1 f1, n ≤ n1 → n1 ≤ n + 1 → wf n1 f1 → frC f f1 → f1 20 = some (oLs (sz + 1) ow) → lst n1 f1 (sz + 1) (insL L (insP (crOf pi ot op s) L sz) (crOf pi ot op s)) → Q (.inl none) n1 f1) : xct g M_X3_insert 1 7 [vR 20, vI pi, vI ot, vI op, vR 3] n f Q := by
  refine xct_of rfl rfl (Nat.le_of_ble_eq_true rfl) ?_
  obtain ⟨rw0, h21, hinj, hall, hrow⟩ := hl
  generalize hcc : crOf pi ot op s = c at *
  have T : ∀ (n1 : Nat) (f1 : xH) (rw1 : Nat → Option Nat) (a : Nat) (c0 : xC7), n ≤ n1 → n1 ≤ n + 1 → wf n1 f1 → frC f f1 → f1 3 = some (oSs k s) → f1 20 = some (oLs sz ow) → f1 21 = some (aR 6 156 rw1) → (∀ i j b, i < 156 → j < 156 → rw1 i = some b → rw1 j = some b → i = j) → (∀ i b, i < 156 → rw1 i = some b → ∃ c, f1 b = some (oCr c)) → (∀ j, j < sz → ∃ b, rw1 j = some b ∧ f1 b = some (oCr (L j))) → rw1 sz = some a → f1 a = some (oCr c0) → xw g M_X3_insert Q 0 0 41 [(0, vR 20), (1, vI pi), (2, vI ot), (3, vI op), (4, vR 3)] [] n1 f1 := by
    intro n1 f1 rw1 a c0 hn1 hn2 hw1 hfr e3 e20 e21 ij al ro ra ea
    have a20 : (20 : Nat) ≠ a := fun e => by rw [← e, e20] at ea; cases ea
    have a21 : (21 : Nat) ≠ a := fun e => by rw [← e, e21] at ea; cases ea
    have aw : a < n1 := wf_ne hw1 ea
    have w21 : 21 < n1 := wf_ne hw1 e21
    have w20 : 20 < n1 := wf_ne hw1 e20
    obtain ⟨F, hF⟩ : ∃ F, F = xup f1 a (oCr c) := ⟨_, rfl⟩
    have F20 : F 20 = some (oLs sz ow) := by rw [hF]; exact (xup_n _ _ a20).trans e20
    have F21 : F 21 = some (aR 6 156 rw1) := by rw [hF]; exact (xup_n _ _ a21).trans e21
    have Fa : F a = some (oCr c) := by rw [hF]; exact xup_s _ _ _
    have Fo : ∀ b, b ≠ a → F b = f1 b := fun b hb => by rw [hF]; exact xup_n _ _ hb
    have Fw : wf n1 F := by rw [hF]; exact wf_up hw1 aw
    have M : ∀ (q : Nat), q ≤ sz → insP c L sz = q → xw g M_X3_insert Q 0 0 112 [(0, vR 20), (5, vR a), (6, vI (q : Int))] [] n1 (xup F 21 (aR 6 156 (shR rw1 q sz))) := by
      intro q hqs hqe
      refine xw_aload_n dX3_insert_112 rfl ?_
      refine xw_getfield dX3_insert_113 fl_X3_11 F20 rfl ?_
      refine xw_iload dX3_insert_116 rfl ?_
      refine xw_aload dX3_insert_118 rfl ?_
      refine xw_aast (a := 21) (v := a) (t := 6) (ci := 2) (j := q) dX3_insert_120 rfl ((xup_n _ _ (Ne.symm a21)).trans Fa) rfl rfl rfl (by omega) (by decide) ?_
      rw [xup_up]
      refine xw_aload_n dX3_insert_121 rfl ?_
      refine xw_dup dX3_insert_122 rfl ?_
      refine xw_getfield dX3_insert_123 fl_X3_21 F20 rfl ?_
      refine xw_iconst dX3_insert_126 ?_
      refine xw_iadd dX3_insert_127 ?_
      refine xw_putfield dX3_insert_128 (fp_X3_21 _) F20 rfl rfl ?_
      rw [fX3_1]
      exact xw_vret dX3_insert_131 rfl (hq n1 _ hn1 hn2 (wf_up (wf_up Fw w21) w20) (fun k9 e9 h9 g1 g2 g3 => by
        rw [xup_n _ _ g1, xup_n _ _ g2]
        have h8 := hfr k9 e9 h9 g1 g2 g3
        rw [Fo k9 (fun e => by rw [e, ea] at h8; exact g3 c0 (Option.some.inj h8).symm)]
        exact h8) rfl ⟨xui (shR rw1 q sz) q (some a), rfl, shR_inj hqs hsz ij ra, fun i b hi hb => by
          have hx : ∃ i', i' < 156 ∧ rw1 i' = some b := by
            unfold xui shR at hb
            split at hb
            · exact ⟨sz, hsz, ra.trans hb⟩
            · split at hb
              · exact ⟨i - 1, by omega, hb⟩
              · exact ⟨i, hi, hb⟩
          obtain ⟨i', hi', hb'⟩ := hx
          obtain ⟨c9, hc9⟩ := al i' b hi' hb'
          have b20 : b ≠ 20 := fun e => by rw [e, e20] at hc9; cases hc9
          have b21 : b ≠ 21 := fun e => by rw [e, e21] at hc9; cases hc9
          by_cases e : b = a
          · exact ⟨c, by rw [xup_n _ _ b20, xup_n _ _ b21, e]; exact Fa⟩
          · exact ⟨c9, by rw [xup_n _ _ b20, xup_n _ _ b21, Fo b e]; exact hc9⟩, fun j hj => by
          have old : ∀ j', j' < sz → ∃ b, rw1 j' = some b ∧ xup (xup F 21 (aR 6 156 (xui (shR rw1 q sz) q (some a)))) 20 (oLs (sz + 1) ow) b = some (oCr (L j')) := by
            intro j' hj'
            obtain ⟨b, hb1, hb2⟩ := ro j' hj'
            have b20 : b ≠ 20 := fun e => by rw [e, e20] at hb2; cases hb2
            have b21 : b ≠ 21 := fun e => by rw [e, e21] at hb2; cases hb2
            have ba : b ≠ a := fun e => by rw [e] at hb1; have := ij j' sz a (by omega) hsz hb1 ra; omega
            exact ⟨b, hb1, by rw [xup_n _ _ b20, xup_n _ _ b21, Fo b ba]; exact hb2⟩
          rw [hqe]
          unfold insL xui shR
          by_cases e1 : j < q
          · rw [if_pos e1, if_neg (by omega), if_neg (by omega)]; exact old j (by omega)
          · rw [if_neg e1]
            by_cases e2 : j = q
            · rw [if_pos e2, if_pos e2]; exact ⟨a, rfl, by rw [xup_n _ _ (Ne.symm a20), xup_n _ _ (Ne.symm a21)]; exact Fa⟩
            · rw [if_neg e2, if_neg e2, if_pos (by omega)]; exact old (j - 1) (by omega)⟩)
    have W : ∀ (q : Nat), q ≤ sz → insP c L sz = insP c L q → xw g M_X3_insert Q 0 0 68 [(0, vR 20), (5, vR a), (6, vI (q : Int))] [] n1 (xup F 21 (aR 6 156 (shR rw1 q sz))) := by
      intro q
      induction q with
      | zero =>
        intro hqs hqe
        refine xw_iload dX3_insert_68 rfl ?_
        refine xw_ifle (tgt := 112) dX3_insert_70 (by decide) (by unfold inI; omega) (fun c_70 => ?_) (fun c_70 => ?_)
        · skip
          exact xw_ls [(0, vR 20), (5, vR a), (6, vI ((0 : Nat) : Int))] ⟨rfl, rfl, rfl, trivial⟩ (M 0 (by omega) hqe)
        · skip
          exfalso; omega
      | succ q ih =>
        intro hqs hqe
        obtain ⟨b, hb1, hb2⟩ := ro q (by omega)
        have b21 : b ≠ 21 := fun e => by rw [e, e21] at hb2; cases hb2
        have ba : b ≠ a := fun e => by rw [e] at hb1; have := ij q sz a (by omega) hsz hb1 ra; omega
        have Fb : F b = some (oCr (L q)) := (Fo b ba).trans hb2
        have hrd : shR rw1 (q + 1) sz q = some b := by unfold shR; rw [if_neg (by omega)]; exact hb1
        have hin : insP c L (q + 1) = if prec c (L q) = true then insP c L q else q + 1 := rfl
        refine xw_iload dX3_insert_68 rfl ?_
        refine xw_ifle (tgt := 112) dX3_insert_70 (by decide) (by unfold inI; omega) (fun c_70 => ?_) (fun c_70 => ?_)
        · skip
          exfalso; omega
        · skip
          refine xw_aload dX3_insert_73 rfl ?_
          refine xw_aload_n dX3_insert_75 rfl ?_
          refine xw_getfield dX3_insert_76 fl_X3_11 F20 rfl ?_
          refine xw_iload dX3_insert_79 rfl ?_
          refine xw_iconst dX3_insert_81 ?_
          refine xw_isub dX3_insert_82 ?_
          refine xw_aald dX3_insert_83 rfl rfl (j := q) (by omega) (by omega) (by decide) ?_
          refine xw_topr b hrd ?_
          refine xw_callV (rc := 0) (rs := 0) (mc2 := 0) (ms2 := 0) (a := a) (As := [vR b]) (st := []) dX3_insert_84 mv_X3_29 ((xup_n _ _ (Ne.symm a21)).trans Fa) rfl rfl (by decide) (by decide) (Nat.le_of_ble_eq_true rfl) rfl (ct_precedes ((xup_n _ _ (Ne.symm a21)).trans Fa) ((xup_n _ _ b21).trans Fb) hc (hL q (by omega)) (fun h_84 => ?_) (fun h_84 => ?_))
          · skip
            refine xw_ifeq (tgt := 112) dX3_insert_87 (by decide) (by unfold inI; omega) (fun c => absurd c (by decide)) (fun _ => ?_)
            refine xw_aload_n dX3_insert_90 rfl ?_
            refine xw_getfield dX3_insert_91 fl_X3_11 F20 rfl ?_
            refine xw_iload dX3_insert_94 rfl ?_
            refine xw_aload_n dX3_insert_96 rfl ?_
            refine xw_getfield dX3_insert_97 fl_X3_11 F20 rfl ?_
            refine xw_iload dX3_insert_100 rfl ?_
            refine xw_iconst dX3_insert_102 ?_
            refine xw_isub dX3_insert_103 ?_
            refine xw_aald dX3_insert_104 rfl rfl (j := q) (by omega) (by omega) (by decide) ?_
            refine xw_topr b hrd ?_
            refine xw_aast (a := 21) (v := b) (t := 6) (ci := 2) (j := q + 1) dX3_insert_105 rfl ((xup_n _ _ b21).trans Fb) rfl rfl rfl (by omega) (by decide) ?_
            rw [xup_up, ← hb1, shR_s rw1 q sz (by omega)]
            refine xw_iinc dX3_insert_106 rfl (by decide) ?_
            refine xw_goto (tgt := 68) dX3_insert_109 (by decide) ?_
            exact xw_ls [(0, vR 20), (5, vR a), (6, vI (q : Int))] ⟨rfl, rfl, by show some (vI (((q + 1 : Nat) : Int) + -1)) = _; rw [show ((q + 1 : Nat) : Int) + -1 = (q : Int) by omega], trivial⟩ (ih (by omega) (by rw [hqe, hin, if_pos h_84]))
          · skip
            refine xw_ifeq (tgt := 112) dX3_insert_87 (by decide) (by unfold inI; omega) (fun _ => ?_) (fun c => absurd c (by decide))
            exact xw_ls [(0, vR 20), (5, vR a), (6, vI ((q + 1 : Nat) : Int))] ⟨rfl, rfl, rfl, trivial⟩ (M (q + 1) hqs (by rw [hqe, hin, if_neg (fun h9 => Bool.noConfusion (h_84.symm.trans h9))]))
    refine xw_aload_n dX3_insert_41 rfl ?_
    refine xw_getfield dX3_insert_42 fl_X3_11 e20 rfl ?_
    refine xw_aload_n dX3_insert_45 rfl ?_
    refine xw_getfield dX3_insert_46 fl_X3_21 e20 rfl ?_
    refine xw_aald dX3_insert_49 e21 rfl (j := sz) rfl hsz (by decide) ?_
    refine xw_topr a ra ?_
    refine xw_astore dX3_insert_50 (by decide) ?_
    refine xw_aload dX3_insert_52 rfl ?_
    refine xw_iload_n dX3_insert_54 rfl ?_
    refine xw_iload_n dX3_insert_55 rfl ?_
    refine xw_iload_n dX3_insert_56 rfl ?_
    refine xw_aload dX3_insert_57 rfl ?_
    refine xw_callV (rc := 0) (rs := 0) (mc2 := 0) (ms2 := 0) (a := a) (As := [vI pi, vI ot, vI op, vR 3]) (st := []) dX3_insert_59 mv_X3_25 ea rfl rfl (by decide) (by decide) (Nat.le_of_ble_eq_true rfl) rfl (ct_set ea e3 ?_)
    rw [hcc, ← hF]
    refine xw_aload_n dX3_insert_62 rfl ?_
    refine xw_getfield dX3_insert_63 fl_X3_21 F20 rfl ?_
    refine xw_istore dX3_insert_66 (by decide) ?_
    have h9 := W sz (Nat.le_refl _) rfl
    rw [shR_0, xup_id F21] at h9
    exact xw_ls [(0, vR 20), (5, vR a), (6, vI (sz : Int))] ⟨rfl, rfl, rfl, trivial⟩ h9
  have w21 : 21 < n := wf_ne hw h21
  cases hz : rw0 sz with
  | some a =>
    obtain ⟨c0, hc0⟩ := hall sz a hsz hz
    refine xw_room (Nat.zero_le _) (Nat.zero_le _) ?_
    refine xw_aload_n dX3_insert_0 rfl ?_
    refine xw_getfield dX3_insert_1 fl_X3_21 h20 rfl ?_
    refine xw_aload_n dX3_insert_4 rfl ?_
    refine xw_getfield dX3_insert_5 fl_X3_11 h20 rfl ?_
    refine xw_alen (N := 156) dX3_insert_8 h21 rfl ?_
    refine xw_icmplt (tgt := 13) dX3_insert_9 (by decide) (by unfold inI; omega) (by unfold inI; omega) (fun c_9 => ?_) (fun c_9 => ?_)
    · skip
      refine xw_aload_n dX3_insert_13 rfl ?_
      refine xw_getfield dX3_insert_14 fl_X3_11 h20 rfl ?_
      refine xw_aload_n dX3_insert_17 rfl ?_
      refine xw_getfield dX3_insert_18 fl_X3_21 h20 rfl ?_
      refine xw_aald dX3_insert_21 h21 rfl (j := sz) rfl hsz (by decide) ?_
      refine xw_topr a hz ?_
      refine xw_ifnonnullR (tgt := 41) dX3_insert_22 (by decide) ?_
      exact xw_ls [(0, vR 20), (1, vI pi), (2, vI ot), (3, vI op), (4, vR 3)] ⟨rfl, rfl, rfl, rfl, rfl, trivial⟩ (T n f rw0 a c0 (Nat.le_refl _) (by omega) hw (frC_rf f) h3 h20 h21 hinj hall hrow hz hc0)
    · skip
      exfalso; omega
  | none =>
    have hne : ∀ {k9 : Nat} {e9 : xE}, f k9 = some e9 → k9 ≠ n := fun h9 => by have := wf_ne hw h9; omega
    have w20 := wf_ne hw h20
    have e3 : (3 : Nat) ≠ n := hne h3
    refine xw_aload_n dX3_insert_0 rfl ?_
    refine xw_getfield dX3_insert_1 fl_X3_21 h20 rfl ?_
    refine xw_aload_n dX3_insert_4 rfl ?_
    refine xw_getfield dX3_insert_5 fl_X3_11 h20 rfl ?_
    refine xw_alen (N := 156) dX3_insert_8 h21 rfl ?_
    refine xw_icmplt (tgt := 13) dX3_insert_9 (by decide) (by unfold inI; omega) (by unfold inI; omega) (fun c_9 => ?_) (fun c_9 => ?_)
    · skip
      refine xw_aload_n dX3_insert_13 rfl ?_
      refine xw_getfield dX3_insert_14 fl_X3_11 h20 rfl ?_
      refine xw_aload_n dX3_insert_17 rfl ?_
      refine xw_getfield dX3_insert_18 fl_X3_21 h20 rfl ?_
      refine xw_aald dX3_insert_21 h21 rfl (j := sz) rfl hsz (by decide) ?_
      refine xw_topn hz ?_
      refine xw_ifnonnullN dX3_insert_22 ?_
      refine xw_aload_n dX3_insert_25 rfl ?_
      refine xw_getfield dX3_insert_26 fl_X3_11 h20 rfl ?_
      refine xw_aload_n dX3_insert_29 rfl ?_
      refine xw_getfield dX3_insert_30 fl_X3_21 h20 rfl ?_
      refine xw_new (rc := 0) (rs := 0) (N := 7) dX3_insert_33 nw_X3_9 ?_
      refine xw_cgO (fs1 := fCr (0, (0, (0, (0, (0, (0, 0))))))) (D := RX2) (T := TX2) (N := 7) rfl (fun j hj => ?_) ?_
      · match j with
        | 0 => rfl | 1 => rfl | 2 => rfl | 3 => rfl | 4 => rfl | 5 => rfl | 6 => rfl | (m + 7) => omega
      refine xw_dup dX3_insert_36 rfl ?_
      refine xw_callI (rc := 0) (rs := 0) (mc2 := 0) (ms2 := 0) (As := []) (st := [vR n, vI (sz : Int), vR 21]) dX3_insert_37 mi_X3_24 (by decide) (by decide) (Nat.le_of_ble_eq_true rfl) rfl (ct_CrInit ?_)
      refine xw_aast (a := 21) (v := n) (t := 6) (ci := 2) (j := sz) dX3_insert_40 ((xup_n _ _ (hne h21)).trans h21) (xup_s _ _ _) rfl rfl rfl hsz (by decide) ?_
      refine xw_ls [(0, vR 20), (1, vI pi), (2, vI ot), (3, vI op), (4, vR 3)] ⟨rfl, rfl, rfl, rfl, rfl, trivial⟩ (T (n + 1) _ (xui rw0 sz (some n)) n (0, (0, (0, (0, (0, (0, 0)))))) (by omega) (Nat.le_refl _) ?_ ?_ ?_ ?_ (xup_s _ _ _) ?_ ?_ ?_ (xui_s _ _ _) ?_)
      · exact fun k9 hk9 => by rw [xup_n _ _ (by omega), xup_n _ _ (by omega)]; exact hw k9 (by omega)
      · exact fun k9 e9 h9 g1 g2 g3 => by rw [xup_n _ _ g2, xup_n _ _ (hne h9)]; exact h9
      · rw [xup_n _ _ (by decide), xup_n _ _ e3]; exact h3
      · rw [xup_n _ _ (by decide), xup_n _ _ (hne h20)]; exact h20
      · intro i j b hi hj g1 g2
        unfold xui at g1 g2
        have fn : ∀ i', i' < 156 → rw0 i' = some n → False := fun i' hi' h9 => by obtain ⟨c9, hc9⟩ := hall i' n hi' h9; exact hne hc9 rfl
        by_cases ei : i = sz
        · rw [if_pos ei] at g1
          by_cases ej : j = sz
          · omega
          · rw [if_neg ej] at g2
            cases g1
            exact (fn j hj g2).elim
        · rw [if_neg ei] at g1
          by_cases ej : j = sz
          · rw [if_pos ej] at g2
            cases g2
            exact (fn i hi g1).elim
          · rw [if_neg ej] at g2
            exact hinj i j b hi hj g1 g2
      · intro i b hi g1
        unfold xui at g1
        by_cases ei : i = sz
        · rw [if_pos ei] at g1
          cases g1
          exact ⟨_, (xup_n _ _ (fun e => hne h21 e.symm)).trans (xup_s _ _ _)⟩
        · rw [if_neg ei] at g1
          obtain ⟨c9, hc9⟩ := hall i b hi g1
          exact ⟨c9, by rw [xup_n _ _ (fun e => by rw [e, h21] at hc9; cases hc9), xup_n _ _ (hne hc9)]; exact hc9⟩
      · intro j hj
        obtain ⟨b, hb1, hb2⟩ := hrow j hj
        refine ⟨b, by rw [xui_n _ _ (by omega)]; exact hb1, ?_⟩
        rw [xup_n _ _ (fun e => by rw [e, h21] at hb2; cases hb2), xup_n _ _ (hne hb2)]; exact hb2
      · exact (xup_n _ _ (fun e => hne h21 e.symm)).trans (xup_s _ _ _)
    · skip
      exfalso; omega
end C54
