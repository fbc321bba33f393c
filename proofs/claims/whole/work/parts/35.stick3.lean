/-! a row's points -/
def proper (pt : Nat → Int) (pc : Nat) : Prop := (∀ i, i < pc → ¬ (pt (3 * i) = pt (3 * i + 3) ∧ pt (3 * i + 1) = pt (3 * i + 4) ∧ pt (3 * i + 2) = pt (3 * i + 5))) ∧ (pc = 1 ∨ ¬ folds pt)
section C35
variable {g : xG} {Q : xP} {n : Nat} {f : xH}
set_option maxHeartbeats 4000000 in
theorem ct_proper {b ap pc : Nat} {kd mk wo ot : Int} {pt : Nat → Int} (hb : f b = some (oSt kd mk wo pc ap ot)) (hp : f ap = some (aI 9 pt)) (hw : wf n f) (hpc : pc = 1 ∨ pc = 2) (hpt : ∀ j, j < 9 → nr (pt j)) (h1 : proper pt pc → ∀ m, n ≤ m → m ≤ n + 3 → Q (.inl (some (vI 1))) m f) (h0 : ¬ proper pt pc → ∀ m, n ≤ m → m ≤ n + 3 → Q (.inl (some (vI 0))) m f) : xct g M_X7_hasProperPieces 3 9 [vR b] n f Q := by
  refine xct_of rfl rfl (Nat.le_of_ble_eq_true rfl) ?_
  have L : ∀ (m i : Nat), i + m = pc → (∀ j, j < i → ¬ (pt (3 * j) = pt (3 * j + 3) ∧ pt (3 * j + 1) = pt (3 * j + 4) ∧ pt (3 * j + 2) = pt (3 * j + 5))) → xw g M_X7_hasProperPieces Q 3 9 2 [(0, vR b), (1, vI (i : Int))] [] n f := by
    intro m
    induction m with
    | zero =>
      intro i hi hall
      have hi2 : i = pc := by omega
      subst hi2
      refine xw_iload_n dX7_hasProperPieces_2 rfl ?_
      refine xw_aload_n dX7_hasProperPieces_3 rfl ?_
      refine xw_getfield dX7_hasProperPieces_4 fl_X7_25 hb rfl ?_
      refine xw_icmpge (tgt := 69) dX7_hasProperPieces_7 (by decide) (by unfold inI; omega) (by unfold inI; omega) (fun c_7 => ?_) (fun c_7 => ?_)
      · skip
        refine xw_aload_n dX7_hasProperPieces_69 rfl ?_
        refine xw_getfield dX7_hasProperPieces_70 fl_X7_25 hb rfl ?_
        refine xw_iconst dX7_hasProperPieces_73 ?_
        refine xw_icmpeq (tgt := 84) dX7_hasProperPieces_74 (by decide) (by unfold inI; omega) (by unfold inI; omega) (fun c_74 => ?_) (fun c_74 => ?_)
        · skip
          refine xw_iconst dX7_hasProperPieces_84 ?_
          refine xw_goto (tgt := 89) dX7_hasProperPieces_85 (by decide) ?_
          exact xw_zret dX7_hasProperPieces_89 rfl rfl (by first | exact h1 ⟨hall, Or.inl (by omega)⟩ n (by omega) (by omega) | exact h1 ⟨hall, Or.inr h_78⟩ (n + 3) (by omega) (by omega) | exact h0 (fun h => h.2.elim (fun q => by omega) (fun q => q h_78)) (n + 3) (by omega) (by omega))
        · skip
          refine xw_aload_n dX7_hasProperPieces_77 rfl ?_
          refine xw_callV (rc := 0) (rs := 0) (mc2 := 3) (ms2 := 9) (As := []) (st := []) dX7_hasProperPieces_78 mv_X7_58 hb rfl rfl (by decide) (by decide) (Nat.le_of_ble_eq_true rfl) rfl (ct_folds hb hp hw hpt (fun h_78 => ?_) (fun h_78 => ?_))
          · skip
            refine xw_ifne (tgt := 88) dX7_hasProperPieces_81 (by decide) (by unfold inI; omega) (fun _ => ?_) (fun c => absurd c (by decide))
            refine xw_iconst dX7_hasProperPieces_88 ?_
            exact xw_zret dX7_hasProperPieces_89 rfl rfl (by first | exact h1 ⟨hall, Or.inl (by omega)⟩ n (by omega) (by omega) | exact h1 ⟨hall, Or.inr h_78⟩ (n + 3) (by omega) (by omega) | exact h0 (fun h => h.2.elim (fun q => by omega) (fun q => q h_78)) (n + 3) (by omega) (by omega))
          · skip
            refine xw_ifne (tgt := 88) dX7_hasProperPieces_81 (by decide) (by unfold inI; omega) (fun c => absurd c (by decide)) (fun _ => ?_)
            refine xw_iconst dX7_hasProperPieces_84 ?_
            refine xw_goto (tgt := 89) dX7_hasProperPieces_85 (by decide) ?_
            exact xw_zret dX7_hasProperPieces_89 rfl rfl (by first | exact h1 ⟨hall, Or.inl (by omega)⟩ n (by omega) (by omega) | exact h1 ⟨hall, Or.inr h_78⟩ (n + 3) (by omega) (by omega) | exact h0 (fun h => h.2.elim (fun q => by omega) (fun q => q h_78)) (n + 3) (by omega) (by omega))
      · skip
        exfalso; omega
    | succ m ih =>
      intro i hi hall
      have q0 := hpt (3 * i + 0) (by omega)
      have q1 := hpt (3 * i + 1) (by omega)
      have q2 := hpt (3 * i + 2) (by omega)
      have q3 := hpt (3 * (i + 1) + 0) (by omega)
      have q4 := hpt (3 * (i + 1) + 1) (by omega)
      have q5 := hpt (3 * (i + 1) + 2) (by omega)
      have hno : (pt (3 * i) = pt (3 * i + 3) ∧ pt (3 * i + 1) = pt (3 * i + 4) ∧ pt (3 * i + 2) = pt (3 * i + 5)) → Q (.inl (some (vI 0))) n f := fun h => h0 (fun q => q.1 i (by omega) h) n (by omega) (by omega)
      have hgo : ¬ (pt (3 * i) = pt (3 * i + 3) ∧ pt (3 * i + 1) = pt (3 * i + 4) ∧ pt (3 * i + 2) = pt (3 * i + 5)) → xw g M_X7_hasProperPieces Q 3 9 2 [(0, vR b), (1, vI ((i + 1 : Nat) : Int))] [] n f := fun h => ih (i + 1) (by omega) (fun j hj => (Nat.lt_or_ge j i).elim (fun q => hall j q) (fun q => by have e9 : j = i := (by omega); rw [e9]; exact h))
      unfold nr at q0 q1 q2 q3 q4 q5
      refine xw_iload_n dX7_hasProperPieces_2 rfl ?_
      refine xw_aload_n dX7_hasProperPieces_3 rfl ?_
      refine xw_getfield dX7_hasProperPieces_4 fl_X7_25 hb rfl ?_
      refine xw_icmpge (tgt := 69) dX7_hasProperPieces_7 (by decide) (by unfold inI; omega) (by unfold inI; omega) (fun c_7 => ?_) (fun c_7 => ?_)
      · skip
        exfalso; omega
      · skip
        refine xw_aload_n dX7_hasProperPieces_10 rfl ?_
        refine xw_iload_n dX7_hasProperPieces_11 rfl ?_
        refine xw_iconst dX7_hasProperPieces_12 ?_
        refine xw_callV (rc := 3) (rs := 9) (mc2 := 0) (ms2 := 0) (As := [vI (i : Int), vI ((0 : Nat) : Int)]) (st := []) dX7_hasProperPieces_13 mv_X7_54 hb rfl rfl (by decide) (by decide) (Nat.le_of_ble_eq_true rfl) rfl (ct_at hb hp (by omega) ?_)
        refine xw_aload_n dX7_hasProperPieces_16 rfl ?_
        refine xw_iload_n dX7_hasProperPieces_17 rfl ?_
        refine xw_iconst dX7_hasProperPieces_18 ?_
        refine xw_iadd dX7_hasProperPieces_19 ?_
        refine xw_iconst dX7_hasProperPieces_20 ?_
        refine xw_callV (rc := 3) (rs := 9) (mc2 := 0) (ms2 := 0) (As := [vI ((i + 1 : Nat) : Int), vI ((0 : Nat) : Int)]) (st := [vI (pt (3 * i + 0))]) dX7_hasProperPieces_21 mv_X7_54 hb rfl rfl (by decide) (by decide) (Nat.le_of_ble_eq_true rfl) rfl (ct_at hb hp (by omega) ?_)
        refine xw_icmpne (tgt := 63) dX7_hasProperPieces_24 (by decide) (by unfold inI; omega) (by unfold inI; omega) (fun c_24 => ?_) (fun c_24 => ?_)
        · skip
          refine xw_iinc dX7_hasProperPieces_63 rfl (by decide) ?_
          refine xw_goto (tgt := 2) dX7_hasProperPieces_66 (by decide) ?_
          exact xw_ls [(0, vR b), (1, vI ((i + 1 : Nat) : Int))] ⟨rfl, rfl, trivial⟩ (hgo (fun h => by first | exact c_58 h.2.2 | exact c_41 h.2.1 | exact c_24 h.1))
        · skip
          refine xw_aload_n dX7_hasProperPieces_27 rfl ?_
          refine xw_iload_n dX7_hasProperPieces_28 rfl ?_
          refine xw_iconst dX7_hasProperPieces_29 ?_
          refine xw_callV (rc := 3) (rs := 9) (mc2 := 0) (ms2 := 0) (As := [vI (i : Int), vI ((1 : Nat) : Int)]) (st := []) dX7_hasProperPieces_30 mv_X7_54 hb rfl rfl (by decide) (by decide) (Nat.le_of_ble_eq_true rfl) rfl (ct_at hb hp (by omega) ?_)
          refine xw_aload_n dX7_hasProperPieces_33 rfl ?_
          refine xw_iload_n dX7_hasProperPieces_34 rfl ?_
          refine xw_iconst dX7_hasProperPieces_35 ?_
          refine xw_iadd dX7_hasProperPieces_36 ?_
          refine xw_iconst dX7_hasProperPieces_37 ?_
          refine xw_callV (rc := 3) (rs := 9) (mc2 := 0) (ms2 := 0) (As := [vI ((i + 1 : Nat) : Int), vI ((1 : Nat) : Int)]) (st := [vI (pt (3 * i + 1))]) dX7_hasProperPieces_38 mv_X7_54 hb rfl rfl (by decide) (by decide) (Nat.le_of_ble_eq_true rfl) rfl (ct_at hb hp (by omega) ?_)
          refine xw_icmpne (tgt := 63) dX7_hasProperPieces_41 (by decide) (by unfold inI; omega) (by unfold inI; omega) (fun c_41 => ?_) (fun c_41 => ?_)
          · skip
            refine xw_iinc dX7_hasProperPieces_63 rfl (by decide) ?_
            refine xw_goto (tgt := 2) dX7_hasProperPieces_66 (by decide) ?_
            exact xw_ls [(0, vR b), (1, vI ((i + 1 : Nat) : Int))] ⟨rfl, rfl, trivial⟩ (hgo (fun h => by first | exact c_58 h.2.2 | exact c_41 h.2.1 | exact c_24 h.1))
          · skip
            refine xw_aload_n dX7_hasProperPieces_44 rfl ?_
            refine xw_iload_n dX7_hasProperPieces_45 rfl ?_
            refine xw_iconst dX7_hasProperPieces_46 ?_
            refine xw_callV (rc := 3) (rs := 9) (mc2 := 0) (ms2 := 0) (As := [vI (i : Int), vI ((2 : Nat) : Int)]) (st := []) dX7_hasProperPieces_47 mv_X7_54 hb rfl rfl (by decide) (by decide) (Nat.le_of_ble_eq_true rfl) rfl (ct_at hb hp (by omega) ?_)
            refine xw_aload_n dX7_hasProperPieces_50 rfl ?_
            refine xw_iload_n dX7_hasProperPieces_51 rfl ?_
            refine xw_iconst dX7_hasProperPieces_52 ?_
            refine xw_iadd dX7_hasProperPieces_53 ?_
            refine xw_iconst dX7_hasProperPieces_54 ?_
            refine xw_callV (rc := 3) (rs := 9) (mc2 := 0) (ms2 := 0) (As := [vI ((i + 1 : Nat) : Int), vI ((2 : Nat) : Int)]) (st := [vI (pt (3 * i + 2))]) dX7_hasProperPieces_55 mv_X7_54 hb rfl rfl (by decide) (by decide) (Nat.le_of_ble_eq_true rfl) rfl (ct_at hb hp (by omega) ?_)
            refine xw_icmpne (tgt := 63) dX7_hasProperPieces_58 (by decide) (by unfold inI; omega) (by unfold inI; omega) (fun c_58 => ?_) (fun c_58 => ?_)
            · skip
              refine xw_iinc dX7_hasProperPieces_63 rfl (by decide) ?_
              refine xw_goto (tgt := 2) dX7_hasProperPieces_66 (by decide) ?_
              exact xw_ls [(0, vR b), (1, vI ((i + 1 : Nat) : Int))] ⟨rfl, rfl, trivial⟩ (hgo (fun h => by first | exact c_58 h.2.2 | exact c_41 h.2.1 | exact c_24 h.1))
            · skip
              refine xw_iconst dX7_hasProperPieces_61 ?_
              exact xw_zret dX7_hasProperPieces_62 rfl rfl (hno ⟨c_24, c_41, c_58⟩)
  refine xw_iconst dX7_hasProperPieces_0 ?_
  refine xw_istore_n dX7_hasProperPieces_1 (by decide) ?_
  exact xw_ls [(0, vR b), (1, vI ((0 : Nat) : Int))] ⟨rfl, rfl, trivial⟩ (L pc 0 (by omega) (fun j hj => by omega))
/-- the points that a row gives -/
def ptOf (nu : Nat → Int) (k m : Nat) : Nat → Int := fun j => if j < m then nu (30 * k + j) else 0
set_option maxHeartbeats 4000000 in
theorem ct_takePoints {b ap pc bx an al k : Nat} {kd mk wo ot w : Int} {nu le : Nat → Int} (hb : f b = some (oSt kd mk wo pc ap ot)) (hp : f ap = some (aI 9 (fun _ => 0))) (hx : f bx = some (.inr (1, fBx w an al))) (hl : f al = some (aI 20 le)) (hu : f an = some (aL 600 nu)) (hw : wf n f) (hpc : pc = 1 ∨ pc = 2) (hk : k < 20) (hle : -1 ≤ le k ∧ le k ≤ 30) (hnu : ∀ j, j < 600 → inL (nu j))
    (hbp : b ≠ ap) (hxp : bx ≠ ap) (hlp : al ≠ ap) (hup : an ≠ ap)
    (h1 : le k = -1 → Q (.inl (some (vI (-1)))) n f) (h2 : le k ≠ -1 → le k < 3 * ((pc : Int) + 1) → Q (.inl (some (vI (-2)))) n f)
    (h3 : 3 * ((pc : Int) + 1) ≤ le k → (∃ j, j < 3 * (pc + 1) ∧ ¬ nr (nu (30 * k + j))) → ∀ pt, Q (.inl (some (vI (-3)))) n (xup f ap (aI 9 pt)))
    (h4 : 3 * ((pc : Int) + 1) ≤ le k → (∀ j, j < 3 * (pc + 1) → nr (nu (30 * k + j))) → ¬ proper (ptOf nu k (3 * (pc + 1))) pc → ∀ m, n ≤ m → m ≤ n + 3 → Q (.inl (some (vI (-4)))) m (xup f ap (aI 9 (ptOf nu k (3 * (pc + 1))))))
    (h5 : 3 * ((pc : Int) + 1) ≤ le k → (∀ j, j < 3 * (pc + 1) → nr (nu (30 * k + j))) → proper (ptOf nu k (3 * (pc + 1))) pc → ∀ m, n ≤ m → m ≤ n + 3 → Q (.inl (some (vI 0))) m (xup f ap (aI 9 (ptOf nu k (3 * (pc + 1)))))) : xct g M_X7_takePoints 3 9 [vR b, vR bx, vI (k : Int)] n f Q := by
  refine xct_of rfl rfl (Nat.le_of_ble_eq_true rfl) ?_
  have hpn := wf_ne hw hp
  have hbv : ∀ e, (xup f ap e) b = some (oSt kd mk wo pc ap ot) := fun e => (xup_n _ _ hbp).trans hb
  have hxv : ∀ e, (xup f ap e) bx = some (.inr (1, fBx w an al)) := fun e => (xup_n _ _ hxp).trans hx
  have hlv : ∀ e, (xup f ap e) al = some (aI 20 le) := fun e => (xup_n _ _ hlp).trans hl
  have huv : ∀ e, (xup f ap e) an = some (aL 600 nu) := fun e => (xup_n _ _ hup).trans hu
  have L : 3 * ((pc : Int) + 1) ≤ le k → ∀ (m i : Nat), i + m = 3 * (pc + 1) → (∀ j, j < i → nr (nu (30 * k + j))) → xw g M_X7_takePoints Q 3 9 27 [(0, vR b), (1, vR bx), (2, vI (k : Int)), (4, vI (i : Int))] [] n (xup f ap (aI 9 (ptOf nu k i))) := by
    intro hlen m
    induction m with
    | zero =>
      intro i hi hall
      have hi2 : i = 3 * (pc + 1) := by omega
      subst hi2
      refine xw_iload dX7_takePoints_27 rfl ?_
      refine xw_aload_n dX7_takePoints_29 rfl ?_
      refine xw_callV (rc := 3) (rs := 9) (mc2 := 0) (ms2 := 0) (As := []) (st := [vI ((3 * (pc + 1) : Nat) : Int)]) dX7_takePoints_30 mv_X7_34 (hbv _) rfl rfl (by decide) (by decide) (Nat.le_of_ble_eq_true rfl) rfl (ct_pointNumbers (hbv _) ?_)
      refine xw_icmpge (tgt := 72) dX7_takePoints_33 (by decide) (by unfold inI; omega) (by unfold inI; omega) (fun c_33 => ?_) (fun c_33 => ?_)
      · skip
        refine xw_aload_n dX7_takePoints_72 rfl ?_
        refine xw_callV (rc := 0) (rs := 0) (mc2 := 3) (ms2 := 9) (As := []) (st := []) dX7_takePoints_73 mv_X7_46 (hbv _) rfl rfl (by decide) (by decide) (Nat.le_of_ble_eq_true rfl) rfl (ct_proper (hbv _) (xup_s _ _ _) (wf_up hw hpn) hpc (fun j hj => by unfold ptOf; split; exact hall j (by assumption); unfold nr; omega) (fun h_73 m9 hm9 hm8 => ?_) (fun h_73 m9 hm9 hm8 => ?_))
        · skip
          refine xw_ifeq (tgt := 83) dX7_takePoints_76 (by decide) (by unfold inI; omega) (fun c => absurd c (by decide)) (fun _ => ?_)
          refine xw_iconst dX7_takePoints_79 ?_
          refine xw_goto (tgt := 85) dX7_takePoints_80 (by decide) ?_
          exact xw_iret dX7_takePoints_85 rfl (by first | exact h5 hlen hall h_73 m9 hm9 hm8 | exact h4 hlen hall h_73 m9 hm9 hm8)
        · skip
          refine xw_ifeq (tgt := 83) dX7_takePoints_76 (by decide) (by unfold inI; omega) (fun _ => ?_) (fun c => absurd c (by decide))
          refine xw_bipush (z := -4) dX7_takePoints_83 (by decide) ?_
          exact xw_iret dX7_takePoints_85 rfl (by first | exact h5 hlen hall h_73 m9 hm9 hm8 | exact h4 hlen hall h_73 m9 hm9 hm8)
      · skip
        exfalso; omega
    | succ m ih =>
      intro i hi hall
      refine xw_iload dX7_takePoints_27 rfl ?_
      refine xw_aload_n dX7_takePoints_29 rfl ?_
      refine xw_callV (rc := 3) (rs := 9) (mc2 := 0) (ms2 := 0) (As := []) (st := [vI (i : Int)]) dX7_takePoints_30 mv_X7_34 (hbv _) rfl rfl (by decide) (by decide) (Nat.le_of_ble_eq_true rfl) rfl (ct_pointNumbers (hbv _) ?_)
      refine xw_icmpge (tgt := 72) dX7_takePoints_33 (by decide) (by unfold inI; omega) (by unfold inI; omega) (fun c_33 => ?_) (fun c_33 => ?_)
      · skip
        exfalso; omega
      · skip
        refine xw_aload_n dX7_takePoints_36 rfl ?_
        refine xw_iload_n dX7_takePoints_37 rfl ?_
        refine xw_iload dX7_takePoints_38 rfl ?_
        refine xw_callV (rc := 3) (rs := 9) (mc2 := 0) (ms2 := 0) (As := [vI (k : Int), vI (i : Int)]) (st := []) dX7_takePoints_40 mv_X7_38 (hxv _) rfl rfl (by decide) (by decide) (Nat.le_of_ble_eq_true rfl) rfl (ct_read (hxv _) (hlv _) (huv _) hk (by omega) (by omega) ?_)
        refine xw_lstore dX7_takePoints_43 (by decide) ?_
        refine xw_lload dX7_takePoints_45 rfl ?_
        refine xw_callS (rc := 3) (rs := 9) (mc2 := 0) (ms2 := 0) (As := [vL (nu (30 * k + i))]) (st := []) dX7_takePoints_47 ms_X7_42 rfl (by decide) (by decide) (Nat.le_of_ble_eq_true rfl) rfl (ct_isNear (hnu _ (by omega)) (fun h_47 => ?_) (fun h_47 => ?_))
        · skip
          refine xw_ifne (tgt := 56) dX7_takePoints_50 (by decide) (by unfold inI; omega) (fun _ => ?_) (fun c => absurd c (by decide))
          refine xw_aload_n dX7_takePoints_56 rfl ?_
          refine xw_getfield dX7_takePoints_57 fl_X7_9 (hbv _) rfl ?_
          refine xw_iload dX7_takePoints_60 rfl ?_
          refine xw_lload dX7_takePoints_62 rfl ?_
          refine xw_l2i dX7_takePoints_64 ?_
          refine xw_iast dX7_takePoints_65 (xup_s _ _ _) (j := i) rfl (by omega) (by decide) ?_
          refine xw_uu (xw_cgI (c1 := ptOf nu k (i + 1)) (fun j hj => ?_) ?_)
          · unfold xui ptOf
            by_cases h : j = i
            · subst h; rw [if_pos rfl, if_pos (by omega)]
            · rw [if_neg h]
              by_cases h2 : j < i
              · rw [if_pos h2, if_pos (by omega)]
              · rw [if_neg h2, if_neg (by omega)]
          refine xw_iinc dX7_takePoints_66 rfl (by decide) ?_
          refine xw_goto (tgt := 27) dX7_takePoints_69 (by decide) ?_
          exact xw_ls [(0, vR b), (1, vR bx), (2, vI (k : Int)), (4, vI ((i + 1 : Nat) : Int))] ⟨rfl, rfl, rfl, rfl, trivial⟩ (ih (i + 1) (by omega) (fun j hj => (Nat.lt_or_ge j i).elim (fun q => hall j q) (fun q => by have e9 : j = i := (by omega); rw [e9]; exact h_47)))
        · skip
          refine xw_ifne (tgt := 56) dX7_takePoints_50 (by decide) (by unfold inI; omega) (fun c => absurd c (by decide)) (fun _ => ?_)
          refine xw_bipush (z := -3) dX7_takePoints_53 (by decide) ?_
          exact xw_iret dX7_takePoints_55 rfl (h3 hlen ⟨i, by omega, h_47⟩ _)
  refine xw_aload_n dX7_takePoints_0 rfl ?_
  refine xw_iload_n dX7_takePoints_1 rfl ?_
  refine xw_callV (rc := 3) (rs := 9) (mc2 := 0) (ms2 := 0) (As := [vI (k : Int)]) (st := []) dX7_takePoints_2 mv_X7_28 hx rfl rfl (by decide) (by decide) (Nat.le_of_ble_eq_true rfl) rfl (ct_lengthOf hx hl hk ?_)
  refine xw_istore_n dX7_takePoints_5 (by decide) ?_
  refine xw_iload_n dX7_takePoints_6 rfl ?_
  refine xw_iconst dX7_takePoints_7 ?_
  refine xw_icmpne (tgt := 13) dX7_takePoints_8 (by decide) (by unfold inI; omega) (by unfold inI; omega) (fun c_8 => ?_) (fun c_8 => ?_)
  · skip
    refine xw_iload_n dX7_takePoints_13 rfl ?_
    refine xw_aload_n dX7_takePoints_14 rfl ?_
    refine xw_callV (rc := 3) (rs := 9) (mc2 := 0) (ms2 := 0) (As := []) (st := [vI (le k)]) dX7_takePoints_15 mv_X7_34 hb rfl rfl (by decide) (by decide) (Nat.le_of_ble_eq_true rfl) rfl (ct_pointNumbers hb ?_)
    refine xw_icmpge (tgt := 24) dX7_takePoints_18 (by decide) (by unfold inI; omega) (by unfold inI; omega) (fun c_18 => ?_) (fun c_18 => ?_)
    · skip
      refine xw_iconst dX7_takePoints_24 ?_
      refine xw_istore dX7_takePoints_25 (by decide) ?_
      refine xw_ls [(0, vR b), (1, vR bx), (2, vI (k : Int)), (4, vI ((0 : Nat) : Int))] ⟨rfl, rfl, rfl, rfl, trivial⟩ (xw_eqf (xup_id hp).symm (xw_cgI (fun j _ => ?_) (L (by omega) (3 * (pc + 1)) 0 (by omega) (fun j hj => by omega))))
      unfold ptOf
      rw [if_neg (by omega)]
    · skip
      refine xw_bipush (z := -2) dX7_takePoints_21 (by decide) ?_
      exact xw_iret dX7_takePoints_23 rfl (h2 c_8 (by omega))
  · skip
    refine xw_iconst dX7_takePoints_11 ?_
    exact xw_iret dX7_takePoints_12 rfl (h1 (by simpa using c_8))
end C35
