/-! looks at two pieces: what they share -/
def z3 (v : Nat → Int) : Prop := v 0 = 0 ∧ v 1 = 0 ∧ v 2 = 0
def prt (a b : Int) : Prop := 0 ≤ a ∧ a ≤ b
def parT (p q w : Nat → Int) : Prop := z3 (cr w p) ∧ (0 ≤ dt w p ∨ 0 ≤ dt w p + dt q p) ∧ (dt w p ≤ dt p p ∨ dt w p + dt q p ≤ dt p p)
def tchC (p q w : Nat → Int) : Prop := (z3 (cr p q) ∧ parT p q w) ∨ (¬ z3 (cr p q) ∧ dt w (cr p q) = 0 ∧ prt (dt (cr w q) (cr p q)) (dt (cr p q) (cr p q)) ∧ prt (dt (cr w p) (cr p q)) (dt (cr p q) (cr p q)))
/-- the seven rows that a look writes over -/
def scr (f f1 : xH) : Prop := (∀ k, k < 5 ∨ 11 < k → f1 k = f k) ∧ ∀ k, 5 ≤ k → k ≤ 11 → ∃ v, f1 k = some (aL 3 v)
theorem scr_up {f f1 : xH} {a : Nat} {v : Nat → Int} (h : scr f f1) (h1 : 5 ≤ a) (h2 : a ≤ 11) : scr f (xup f1 a (aL 3 v)) := by
  refine ⟨fun k hk => (xup_n _ _ (by omega)).trans (h.1 k hk), fun k k1 k2 => ?_⟩
  by_cases e : k = a
  · subst e; exact ⟨v, xup_s _ _ _⟩
  · obtain ⟨w, hw⟩ := h.2 k k1 k2
    exact ⟨w, (xup_n _ _ e).trans hw⟩
theorem scr_tr {f f1 f2 : xH} (h : scr f f1) (h2 : scr f1 f2) : scr f f2 := ⟨fun k hk => (h2.1 k hk).trans (h.1 k hk), h2.2⟩
def sok (f : xH) : Prop := ∀ k, 5 ≤ k → k ≤ 11 → ∃ v, f k = some (aL 3 v)
theorem scr_rf {f : xH} (h : sok f) : scr f f := ⟨fun _ _ => rfl, h⟩
theorem sok_up {f : xH} {a : Nat} {v : Nat → Int} (h : sok f) (h1 : 5 ≤ a) (h2 : a ≤ 11) : sok (xup f a (aL 3 v)) := (scr_up (scr_rf h) h1 h2).2
abbrev oSg (s1 s9 s10 s11 s12 s13 : Int) : xE := Sum.inr (6, fX6 s1 s9 s10 s11 s12 s13)
def dv (pt : Nat → Int) (i k : Nat) : Int := pt (3 * (i + 1) + k) - pt (3 * i + k)
def gv (A : Nat → Int) (i : Nat) (B : Nat → Int) (j k : Nat) : Int := B (3 * j + k) - A (3 * i + k)
def pg (v o : Nat → Int) (i : Nat) : Nat → Int := fun j => if j < i then v j else o j
theorem pg_step (v o : Nat → Int) (i j : Nat) {x : Int} (hx : x = v i) : xui (pg v o i) i x j = pg v o (i + 1) j := by
  unfold xui pg
  by_cases h : j = i
  · subst h; rw [if_pos rfl, if_pos (by omega), hx]
  · rw [if_neg h]
    by_cases h2 : j < i
    · rw [if_pos h2, if_pos (by omega)]
    · rw [if_neg h2, if_neg (by omega)]
section C36
variable {g : xG} {Q : xP} {n : Nat} {f : xH}
set_option maxHeartbeats 4000000 in
theorem ct_take {s1 s9 s10 s11 s12 s13 ka ma wa oa kb mb wb ob : Int} {a b ap bp pa pb i j : Nat} {A B v5 v6 v7 : Nat → Int} (h3 : f 3 = some (oSg s1 s9 s10 s11 s12 s13)) (h5 : f 5 = some (aL 3 v5)) (h6 : f 6 = some (aL 3 v6)) (h7 : f 7 = some (aL 3 v7)) (ha : f a = some (oSt ka ma wa pa ap oa)) (hap : f ap = some (aI 9 A)) (hb : f b = some (oSt kb mb wb pb bp ob)) (hbp : f bp = some (aI 9 B)) (la : 11 < a) (lap : 11 < ap) (lb : 11 < b) (lbp : 11 < bp) (hi : i < 2) (hj : j < 2) (hA : ∀ k, k < 9 → nr (A k)) (hB : ∀ k, k < 9 → nr (B k))
    (hq : Q (.inl none) n (xup (xup (xup f 5 (aL 3 (dv A i))) 6 (aL 3 (dv B j))) 7 (aL 3 (gv A i B j)))) : xct g M_X6_take 0 0 [vR 3, vR a, vI (i : Int), vR b, vI (j : Int)] n f Q := by
  refine xct_of rfl rfl (Nat.le_of_ble_eq_true rfl) ?_
  have R : ∀ {k : Nat} {e : xE} (e5 e6 e7 : xE), f k = some e → 11 < k → (xup (xup (xup f 5 e5) 6 e6) 7 e7) k = some e := fun e5 e6 e7 h hk => (xup_n _ _ (by omega)).trans ((xup_n _ _ (by omega)).trans ((xup_n _ _ (by omega)).trans h))
  have L : ∀ (m t : Nat), t + m = 3 → xw g M_X6_take Q 0 0 3 [(0, vR 3), (1, vR a), (2, vI (i : Int)), (3, vR b), (4, vI (j : Int)), (5, vI (t : Int))] [] n (xup (xup (xup f 5 (aL 3 (pg (dv A i) v5 t))) 6 (aL 3 (pg (dv B j) v6 t))) 7 (aL 3 (pg (gv A i B j) v7 t))) := by
    intro m
    induction m with
    | zero =>
      intro t ht
      have h3t : t = 3 := by omega
      subst h3t
      rw [xup_comm (xup f 5 _) _ _ (show (6 : Nat) ≠ 7 by decide), xup_comm f _ _ (show (5 : Nat) ≠ 7 by decide), xup_comm (xup f 7 _) _ _ (show (5 : Nat) ≠ 6 by decide)]
      refine xw_cgL (c1 := dv A i) (fun k hk => if_pos hk) ?_
      rw [xup_comm (xup f 7 _) _ _ (show (6 : Nat) ≠ 5 by decide)]
      refine xw_cgL (c1 := dv B j) (fun k hk => if_pos hk) ?_
      rw [xup_comm f _ _ (show (7 : Nat) ≠ 5 by decide), xup_comm (xup f 5 _) _ _ (show (7 : Nat) ≠ 6 by decide)]
      refine xw_cgL (c1 := gv A i B j) (fun k hk => if_pos hk) ?_
      refine xw_iload dX6_take_3 rfl ?_
      refine xw_iconst dX6_take_5 ?_
      refine xw_icmpge (tgt := 91) dX6_take_6 (by decide) (by unfold inI; omega) (by unfold inI; omega) (fun c_6 => ?_) (fun c_6 => ?_)
      · skip
        exact xw_vret dX6_take_91 rfl hq
      · skip
        exfalso; omega
    | succ m ih =>
      intro t ht
      have q1 := hA (3 * (i + 1) + t) (by omega)
      have q2 := hA (3 * i + t) (by omega)
      have q3 := hB (3 * (j + 1) + t) (by omega)
      have q4 := hB (3 * j + t) (by omega)
      unfold nr at q1 q2 q3 q4
      refine xw_iload dX6_take_3 rfl ?_
      refine xw_iconst dX6_take_5 ?_
      refine xw_icmpge (tgt := 91) dX6_take_6 (by decide) (by unfold inI; omega) (by unfold inI; omega) (fun c_6 => ?_) (fun c_6 => ?_)
      · skip
        exfalso; omega
      · skip
        refine xw_aload_n dX6_take_9 rfl ?_
        refine xw_getfield dX6_take_10 fl_X6_15 h3 rfl ?_
        refine xw_iload dX6_take_13 rfl ?_
        refine xw_aload_n dX6_take_15 rfl ?_
        refine xw_iload_n dX6_take_16 rfl ?_
        refine xw_iconst dX6_take_17 ?_
        refine xw_iadd dX6_take_18 ?_
        refine xw_iload dX6_take_19 rfl ?_
        refine xw_callV (rc := 0) (rs := 0) (mc2 := 0) (ms2 := 0) (As := [vI ((i + 1 : Nat) : Int), vI (t : Int)]) (st := [vI (t : Int), vR 5]) dX6_take_21 mv_X6_57 (R _ _ _ ha la) rfl rfl (by decide) (by decide) (Nat.le_of_ble_eq_true rfl) rfl (ct_at (R _ _ _ ha la) (R _ _ _ hap lap) (by omega) ?_)
        refine xw_aload_n dX6_take_24 rfl ?_
        refine xw_iload_n dX6_take_25 rfl ?_
        refine xw_iload dX6_take_26 rfl ?_
        refine xw_callV (rc := 0) (rs := 0) (mc2 := 0) (ms2 := 0) (As := [vI (i : Int), vI (t : Int)]) (st := [vI (A (3 * (i + 1) + t)), vI (t : Int), vR 5]) dX6_take_28 mv_X6_57 (R _ _ _ ha la) rfl rfl (by decide) (by decide) (Nat.le_of_ble_eq_true rfl) rfl (ct_at (R _ _ _ ha la) (R _ _ _ hap lap) (by omega) ?_)
        refine xw_isub dX6_take_31 ?_
        refine xw_i2l dX6_take_32 (by unfold inI; omega) ?_
        refine xw_last (a := 5) (j := t) dX6_take_33 rfl rfl (by omega) (by decide) ?_
        rw [xup_comm (xup (xup f 5 _) 6 _) _ _ (show (7 : Nat) ≠ 5 by decide), xup_comm (xup f 5 _) _ _ (show (6 : Nat) ≠ 5 by decide), xup_up]
        refine xw_aload_n dX6_take_34 rfl ?_
        refine xw_getfield dX6_take_35 fl_X6_18 h3 rfl ?_
        refine xw_iload dX6_take_38 rfl ?_
        refine xw_aload_n dX6_take_40 rfl ?_
        refine xw_iload dX6_take_41 rfl ?_
        refine xw_iconst dX6_take_43 ?_
        refine xw_iadd dX6_take_44 ?_
        refine xw_iload dX6_take_45 rfl ?_
        refine xw_callV (rc := 0) (rs := 0) (mc2 := 0) (ms2 := 0) (As := [vI ((j + 1 : Nat) : Int), vI (t : Int)]) (st := [vI (t : Int), vR 6]) dX6_take_47 mv_X6_57 (R _ _ _ hb lb) rfl rfl (by decide) (by decide) (Nat.le_of_ble_eq_true rfl) rfl (ct_at (R _ _ _ hb lb) (R _ _ _ hbp lbp) (by omega) ?_)
        refine xw_aload_n dX6_take_50 rfl ?_
        refine xw_iload dX6_take_51 rfl ?_
        refine xw_iload dX6_take_53 rfl ?_
        refine xw_callV (rc := 0) (rs := 0) (mc2 := 0) (ms2 := 0) (As := [vI (j : Int), vI (t : Int)]) (st := [vI (B (3 * (j + 1) + t)), vI (t : Int), vR 6]) dX6_take_55 mv_X6_57 (R _ _ _ hb lb) rfl rfl (by decide) (by decide) (Nat.le_of_ble_eq_true rfl) rfl (ct_at (R _ _ _ hb lb) (R _ _ _ hbp lbp) (by omega) ?_)
        refine xw_isub dX6_take_58 ?_
        refine xw_i2l dX6_take_59 (by unfold inI; omega) ?_
        refine xw_last (a := 6) (j := t) dX6_take_60 rfl rfl (by omega) (by decide) ?_
        rw [xup_comm (xup (xup f 5 _) 6 _) _ _ (show (7 : Nat) ≠ 6 by decide), xup_up]
        refine xw_aload_n dX6_take_61 rfl ?_
        refine xw_getfield dX6_take_62 fl_X6_21 h3 rfl ?_
        refine xw_iload dX6_take_65 rfl ?_
        refine xw_aload_n dX6_take_67 rfl ?_
        refine xw_iload dX6_take_68 rfl ?_
        refine xw_iload dX6_take_70 rfl ?_
        refine xw_callV (rc := 0) (rs := 0) (mc2 := 0) (ms2 := 0) (As := [vI (j : Int), vI (t : Int)]) (st := [vI (t : Int), vR 7]) dX6_take_72 mv_X6_57 (R _ _ _ hb lb) rfl rfl (by decide) (by decide) (Nat.le_of_ble_eq_true rfl) rfl (ct_at (R _ _ _ hb lb) (R _ _ _ hbp lbp) (by omega) ?_)
        refine xw_aload_n dX6_take_75 rfl ?_
        refine xw_iload_n dX6_take_76 rfl ?_
        refine xw_iload dX6_take_77 rfl ?_
        refine xw_callV (rc := 0) (rs := 0) (mc2 := 0) (ms2 := 0) (As := [vI (i : Int), vI (t : Int)]) (st := [vI (B (3 * j + t)), vI (t : Int), vR 7]) dX6_take_79 mv_X6_57 (R _ _ _ ha la) rfl rfl (by decide) (by decide) (Nat.le_of_ble_eq_true rfl) rfl (ct_at (R _ _ _ ha la) (R _ _ _ hap lap) (by omega) ?_)
        refine xw_isub dX6_take_82 ?_
        refine xw_i2l dX6_take_83 (by unfold inI; omega) ?_
        refine xw_last (a := 7) (j := t) dX6_take_84 rfl rfl (by omega) (by decide) ?_
        rw [xup_up]
        rw [xup_comm (xup f 5 _) _ _ (show (6 : Nat) ≠ 7 by decide), xup_comm f _ _ (show (5 : Nat) ≠ 7 by decide), xup_comm (xup f 7 _) _ _ (show (5 : Nat) ≠ 6 by decide)]
        refine xw_cgL (c1 := pg (dv A i) v5 (t + 1)) (fun k hk => pg_step (dv A i) v5 t k rfl) ?_
        rw [xup_comm (xup f 7 _) _ _ (show (6 : Nat) ≠ 5 by decide)]
        refine xw_cgL (c1 := pg (dv B j) v6 (t + 1)) (fun k hk => pg_step (dv B j) v6 t k rfl) ?_
        rw [xup_comm f _ _ (show (7 : Nat) ≠ 5 by decide), xup_comm (xup f 5 _) _ _ (show (7 : Nat) ≠ 6 by decide)]
        refine xw_cgL (c1 := pg (gv A i B j) v7 (t + 1)) (fun k hk => pg_step (gv A i B j) v7 t k rfl) ?_
        refine xw_iinc dX6_take_85 rfl (by decide) ?_
        refine xw_goto (tgt := 3) dX6_take_88 (by decide) ?_
        exact xw_ls [(0, vR 3), (1, vR a), (2, vI (i : Int)), (3, vR b), (4, vI (j : Int)), (5, vI ((t + 1 : Nat) : Int))] ⟨rfl, rfl, rfl, rfl, rfl, rfl, trivial⟩ (ih (t + 1) (by omega))
  refine xw_iconst dX6_take_0 ?_
  refine xw_istore dX6_take_1 (by decide) ?_
  have e0 : xup (xup (xup f 5 (aL 3 v5)) 6 (aL 3 v6)) 7 (aL 3 v7) = f := by
    rw [xup_id h5, xup_id h6, xup_id h7]
  exact xw_ls [(0, vR 3), (1, vR a), (2, vI (i : Int)), (3, vR b), (4, vI (j : Int)), (5, vI ((0 : Nat) : Int))] ⟨rfl, rfl, rfl, rfl, rfl, rfl, trivial⟩ (xw_eqf e0.symm (L 3 0 rfl))
set_option maxHeartbeats 4000000 in
theorem ct_parTouch {s1 s9 s10 s11 s12 s13 : Int} {p q w : Nat → Int} (h3 : f 3 = some (oSg s1 s9 s10 s11 s12 s13)) (h5 : f 5 = some (aL 3 p)) (h6 : f 6 = some (aL 3 q)) (h7 : f 7 = some (aL 3 w)) (hs : sok f) (bp : bd p 2000) (bq : bd q 2000) (bw : bd w 2000) (h1 : parT p q w → ∀ f1, scr f f1 → Q (.inl (some (vI 1))) n f1) (h0 : ¬ parT p q w → ∀ f1, scr f f1 → Q (.inl (some (vI 0))) n f1) : xct g M_X6_parallelPiecesTouch 0 0 [vR 3] n f Q := by
  refine xct_of rfl rfl (Nat.le_of_ble_eq_true rfl) ?_
  obtain ⟨v10, h10⟩ := hs 10 (by decide) (by decide)
  have hc1 := bd_cr bw bp (Nat.le_refl _)
  have hd1 := bd_dt bw bp
  have hd0 := bd_dt bq bp
  have hd3 := bd_dt bp bp
  have hd2 : (dt w p + dt q p).natAbs ≤ 24000000 := by omega
  have hS : ∀ f1, f1 = xup f 10 (aL 3 (cr w p)) → scr f f1 := fun f1 e => by rw [e]; exact scr_up (scr_rf hs) (by decide) (by decide)
  unfold parT z3 at h1 h0
  refine xw_aload_n dX6_parallelPiecesTouch_0 rfl ?_
  refine xw_getfield dX6_parallelPiecesTouch_1 fl_X6_21 h3 rfl ?_
  refine xw_aload_n dX6_parallelPiecesTouch_4 rfl ?_
  refine xw_getfield dX6_parallelPiecesTouch_5 fl_X6_15 h3 rfl ?_
  refine xw_aload_n dX6_parallelPiecesTouch_8 rfl ?_
  refine xw_getfield dX6_parallelPiecesTouch_9 fl_X6_30 h3 rfl ?_
  refine xw_callS (rc := 0) (rs := 0) (mc2 := 0) (ms2 := 0) (As := [vR 7, vR 5, vR 10]) (st := []) dX6_parallelPiecesTouch_12 ms_X6_61 rfl (by decide) (by decide) (Nat.le_of_ble_eq_true rfl) rfl (ct_cross h7 h5 h10 (by decide) (by decide) ?_)
  refine xw_aload_n dX6_parallelPiecesTouch_15 rfl ?_
  refine xw_getfield dX6_parallelPiecesTouch_16 fl_X6_30 h3 rfl ?_
  refine xw_callS (rc := 0) (rs := 0) (mc2 := 0) (ms2 := 0) (As := [vR 10]) (st := []) dX6_parallelPiecesTouch_19 ms_X6_65 rfl (by decide) (by decide) (Nat.le_of_ble_eq_true rfl) rfl (ct_isZero (xup_s _ _ _) (bd_3 hc1 (by decide)) (fun h_19 => ?_) (fun h_19 => ?_))
  · skip
    refine xw_ifne (tgt := 27) dX6_parallelPiecesTouch_22 (by decide) (by unfold inI; omega) (fun _ => ?_) (fun c => absurd c (by decide))
    refine xw_aload_n dX6_parallelPiecesTouch_27 rfl ?_
    refine xw_getfield dX6_parallelPiecesTouch_28 fl_X6_21 h3 rfl ?_
    refine xw_aload_n dX6_parallelPiecesTouch_31 rfl ?_
    refine xw_getfield dX6_parallelPiecesTouch_32 fl_X6_15 h3 rfl ?_
    refine xw_callS (rc := 0) (rs := 0) (mc2 := 0) (ms2 := 0) (As := [vR 7, vR 5]) (st := []) dX6_parallelPiecesTouch_35 ms_X6_72 rfl (by decide) (by decide) (Nat.le_of_ble_eq_true rfl) rfl (ct_dot (va := w) (vb := p) h7 h5 ?_)
    refine xw_lstore_n dX6_parallelPiecesTouch_38 (by decide) ?_
    refine xw_lload_n dX6_parallelPiecesTouch_39 rfl ?_
    refine xw_aload_n dX6_parallelPiecesTouch_40 rfl ?_
    refine xw_getfield dX6_parallelPiecesTouch_41 fl_X6_18 h3 rfl ?_
    refine xw_aload_n dX6_parallelPiecesTouch_44 rfl ?_
    refine xw_getfield dX6_parallelPiecesTouch_45 fl_X6_15 h3 rfl ?_
    refine xw_callS (rc := 0) (rs := 0) (mc2 := 0) (ms2 := 0) (As := [vR 6, vR 5]) (st := [vL (dt w p)]) dX6_parallelPiecesTouch_48 ms_X6_72 rfl (by decide) (by decide) (Nat.le_of_ble_eq_true rfl) rfl (ct_dot (va := q) (vb := p) h6 h5 ?_)
    refine xw_ladd dX6_parallelPiecesTouch_51 ?_
    refine xw_lstore_n dX6_parallelPiecesTouch_52 (by decide) ?_
    refine xw_lload_n dX6_parallelPiecesTouch_53 rfl ?_
    refine xw_lload_n dX6_parallelPiecesTouch_54 rfl ?_
    refine xw_maxL dX6_parallelPiecesTouch_55 mm_X6_80 mm_maxL_s mm_ini mm_maxL_c (by decide) (by decide) (Nat.le_of_ble_eq_true rfl) (nL hd1 (by decide)) (nL hd2 (by decide)) ?_
    refine xw_lconst (z := 0) dX6_parallelPiecesTouch_58 (by decide) ?_
    refine xw_lcmplt (tgt := 87) dX6_parallelPiecesTouch_59 dX6_parallelPiecesTouch_60 (by decide) (by split <;> exact nL (A := 24000000) (by omega) (by decide)) (by unfold inL; omega) (fun c_59 => ?_) (fun c_59 => ?_)
    · skip
      refine xw_iconst dX6_parallelPiecesTouch_87 ?_
      exact xw_zret dX6_parallelPiecesTouch_88 rfl rfl (by first | exact h1 ⟨h_19, by split at c_59 <;> omega, by split at c_79 <;> omega⟩ _ (hS _ rfl) | exact h0 (fun h => by have := h.2.2; split at c_79 <;> omega) _ (hS _ rfl) | exact h0 (fun h => by have := h.2.1; split at c_59 <;> omega) _ (hS _ rfl))
    · skip
      refine xw_lload_n dX6_parallelPiecesTouch_63 rfl ?_
      refine xw_lload_n dX6_parallelPiecesTouch_64 rfl ?_
      refine xw_minL dX6_parallelPiecesTouch_65 mm_X6_86 mm_minL_s mm_ini mm_minL_c (by decide) (by decide) (Nat.le_of_ble_eq_true rfl) (nL hd1 (by decide)) (nL hd2 (by decide)) ?_
      refine xw_aload_n dX6_parallelPiecesTouch_68 rfl ?_
      refine xw_getfield dX6_parallelPiecesTouch_69 fl_X6_15 h3 rfl ?_
      refine xw_aload_n dX6_parallelPiecesTouch_72 rfl ?_
      refine xw_getfield dX6_parallelPiecesTouch_73 fl_X6_15 h3 rfl ?_
      refine xw_callS (rc := 0) (rs := 0) (mc2 := 0) (ms2 := 0) (As := [vR 5, vR 5]) (st := [vL (if dt w p + dt q p < dt w p then dt w p + dt q p else dt w p)]) dX6_parallelPiecesTouch_76 ms_X6_72 rfl (by decide) (by decide) (Nat.le_of_ble_eq_true rfl) rfl (ct_dot (va := p) (vb := p) h5 h5 ?_)
      refine xw_lcmpgt (tgt := 87) dX6_parallelPiecesTouch_79 dX6_parallelPiecesTouch_80 (by decide) (by split <;> exact nL (A := 24000000) (by omega) (by decide)) (nL hd3 (by decide)) (fun c_79 => ?_) (fun c_79 => ?_)
      · skip
        refine xw_iconst dX6_parallelPiecesTouch_87 ?_
        exact xw_zret dX6_parallelPiecesTouch_88 rfl rfl (by first | exact h1 ⟨h_19, by split at c_59 <;> omega, by split at c_79 <;> omega⟩ _ (hS _ rfl) | exact h0 (fun h => by have := h.2.2; split at c_79 <;> omega) _ (hS _ rfl) | exact h0 (fun h => by have := h.2.1; split at c_59 <;> omega) _ (hS _ rfl))
      · skip
        refine xw_iconst dX6_parallelPiecesTouch_83 ?_
        refine xw_goto (tgt := 88) dX6_parallelPiecesTouch_84 (by decide) ?_
        exact xw_zret dX6_parallelPiecesTouch_88 rfl rfl (by first | exact h1 ⟨h_19, by split at c_59 <;> omega, by split at c_79 <;> omega⟩ _ (hS _ rfl) | exact h0 (fun h => by have := h.2.2; split at c_79 <;> omega) _ (hS _ rfl) | exact h0 (fun h => by have := h.2.1; split at c_59 <;> omega) _ (hS _ rfl))
  · skip
    refine xw_ifne (tgt := 27) dX6_parallelPiecesTouch_22 (by decide) (by unfold inI; omega) (fun c => absurd c (by decide)) (fun _ => ?_)
    refine xw_iconst dX6_parallelPiecesTouch_25 ?_
    exact xw_zret dX6_parallelPiecesTouch_26 rfl rfl (h0 (fun h => h_19 h.1) _ (hS _ rfl))
set_option maxHeartbeats 4000000 in
theorem ct_piecesTouch {s1 s9 s10 s11 s12 s13 : Int} {p q w : Nat → Int} (h3 : f 3 = some (oSg s1 s9 s10 s11 s12 s13)) (h5 : f 5 = some (aL 3 p)) (h6 : f 6 = some (aL 3 q)) (h7 : f 7 = some (aL 3 w)) (hs : sok f) (bp : bd p 2000) (bq : bd q 2000) (bw : bd w 2000) (h1 : tchC p q w → ∀ f1, scr f f1 → Q (.inl (some (vI 1))) n f1) (h0 : ¬ tchC p q w → ∀ f1, scr f f1 → Q (.inl (some (vI 0))) n f1) : xct g M_X6_piecesTouch 0 0 [vR 3] n f Q := by
  refine xct_of rfl rfl (Nat.le_of_ble_eq_true rfl) ?_
  obtain ⟨v8, h8⟩ := hs 8 (by decide) (by decide)
  obtain ⟨v9, h9⟩ := hs 9 (by decide) (by decide)
  obtain ⟨v11, h11⟩ := hs 11 (by decide) (by decide)
  have hN := bd_cr bp bq (Nat.le_refl _)
  have hd1 := bd_dt bw hN
  have hd2 := bd_dt hN hN
  have hd3 := bd_dt (bd_cr bw bq (Nat.le_refl _)) hN
  have hd4 := bd_dt (bd_cr bw bp (Nat.le_refl _)) hN
  have hS1 : scr f (xup f 11 (aL 3 (cr p q))) := scr_up (scr_rf hs) (by decide) (by decide)
  have hS2 : scr f (xup (xup (xup f 11 (aL 3 (cr p q))) 8 (aL 3 (cr w q))) 9 (aL 3 (cr w p))) := scr_up (scr_up hS1 (by decide) (by decide)) (by decide) (by decide)
  have hz : (¬ z3 (cr p q) ∧ dt w (cr p q) = 0 ∧ prt (dt (cr w q) (cr p q)) (dt (cr p q) (cr p q)) ∧ prt (dt (cr w p) (cr p q)) (dt (cr p q) (cr p q))) → tchC p q w := Or.inr
  refine xw_aload_n dX6_piecesTouch_0 rfl ?_
  refine xw_getfield dX6_piecesTouch_1 fl_X6_15 h3 rfl ?_
  refine xw_aload_n dX6_piecesTouch_4 rfl ?_
  refine xw_getfield dX6_piecesTouch_5 fl_X6_18 h3 rfl ?_
  refine xw_aload_n dX6_piecesTouch_8 rfl ?_
  refine xw_getfield dX6_piecesTouch_9 fl_X6_33 h3 rfl ?_
  refine xw_callS (rc := 0) (rs := 0) (mc2 := 0) (ms2 := 0) (As := [vR 5, vR 6, vR 11]) (st := []) dX6_piecesTouch_12 ms_X6_61 rfl (by decide) (by decide) (Nat.le_of_ble_eq_true rfl) rfl (ct_cross h5 h6 h11 (by decide) (by decide) ?_)
  refine xw_aload_n dX6_piecesTouch_15 rfl ?_
  refine xw_getfield dX6_piecesTouch_16 fl_X6_33 h3 rfl ?_
  refine xw_callS (rc := 0) (rs := 0) (mc2 := 0) (ms2 := 0) (As := [vR 11]) (st := []) dX6_piecesTouch_19 ms_X6_65 rfl (by decide) (by decide) (Nat.le_of_ble_eq_true rfl) rfl (ct_isZero (xup_s _ _ _) (bd_3 hN (by decide)) (fun h_19 => ?_) (fun h_19 => ?_))
  · skip
    refine xw_ifeq (tgt := 30) dX6_piecesTouch_22 (by decide) (by unfold inI; omega) (fun c => absurd c (by decide)) (fun _ => ?_)
    refine xw_aload_n dX6_piecesTouch_25 rfl ?_
    refine xw_callV (a := 3) (rc := 0) (rs := 0) (mc2 := 0) (ms2 := 0) (As := []) (st := []) dX6_piecesTouch_26 mv_X6_69 h3 rfl rfl (by decide) (by decide) (Nat.le_of_ble_eq_true rfl) rfl (ct_parTouch (f := xup f 11 (aL 3 (cr p q))) h3 h5 h6 h7 hS1.2 bp bq bw (fun h_26 f1 hf1 => ?_) (fun h_26 f1 hf1 => ?_))
    · exact xw_zret dX6_piecesTouch_29 rfl rfl (h1 (Or.inl ⟨h_19, h_26⟩) f1 (scr_tr hS1 hf1))
    · exact xw_zret dX6_piecesTouch_29 rfl rfl (h0 (fun h => h.elim (fun k => h_26 k.2) (fun k => k.1 h_19)) f1 (scr_tr hS1 hf1))
    skip
  · skip
    refine xw_ifeq (tgt := 30) dX6_piecesTouch_22 (by decide) (by unfold inI; omega) (fun _ => ?_) (fun c => absurd c (by decide))
    refine xw_aload_n dX6_piecesTouch_30 rfl ?_
    refine xw_getfield dX6_piecesTouch_31 fl_X6_21 h3 rfl ?_
    refine xw_aload_n dX6_piecesTouch_34 rfl ?_
    refine xw_getfield dX6_piecesTouch_35 fl_X6_33 h3 rfl ?_
    refine xw_callS (rc := 0) (rs := 0) (mc2 := 0) (ms2 := 0) (As := [vR 7, vR 11]) (st := []) dX6_piecesTouch_38 ms_X6_72 rfl (by decide) (by decide) (Nat.le_of_ble_eq_true rfl) rfl (ct_dot (va := w) (vb := cr p q) h7 (xup_s _ _ _) ?_)
    refine xw_lconst (z := 0) dX6_piecesTouch_41 (by decide) ?_
    refine xw_lcmpeq (tgt := 48) dX6_piecesTouch_42 dX6_piecesTouch_43 (by decide) (nL hd1 (by decide)) (by unfold inL; omega) (fun c_42 => ?_) (fun c_42 => ?_)
    · skip
      refine xw_aload_n dX6_piecesTouch_48 rfl ?_
      refine xw_getfield dX6_piecesTouch_49 fl_X6_33 h3 rfl ?_
      refine xw_aload_n dX6_piecesTouch_52 rfl ?_
      refine xw_getfield dX6_piecesTouch_53 fl_X6_33 h3 rfl ?_
      refine xw_callS (rc := 0) (rs := 0) (mc2 := 0) (ms2 := 0) (As := [vR 11, vR 11]) (st := []) dX6_piecesTouch_56 ms_X6_72 rfl (by decide) (by decide) (Nat.le_of_ble_eq_true rfl) rfl (ct_dot (va := cr p q) (vb := cr p q) (xup_s _ _ _) (xup_s _ _ _) ?_)
      refine xw_lstore_n dX6_piecesTouch_59 (by decide) ?_
      refine xw_aload_n dX6_piecesTouch_60 rfl ?_
      refine xw_getfield dX6_piecesTouch_61 fl_X6_21 h3 rfl ?_
      refine xw_aload_n dX6_piecesTouch_64 rfl ?_
      refine xw_getfield dX6_piecesTouch_65 fl_X6_18 h3 rfl ?_
      refine xw_aload_n dX6_piecesTouch_68 rfl ?_
      refine xw_getfield dX6_piecesTouch_69 fl_X6_24 h3 rfl ?_
      refine xw_callS (rc := 0) (rs := 0) (mc2 := 0) (ms2 := 0) (As := [vR 7, vR 6, vR 8]) (st := []) dX6_piecesTouch_72 ms_X6_61 rfl (by decide) (by decide) (Nat.le_of_ble_eq_true rfl) rfl (ct_cross (va := w) (vb := q) h7 h6 h8 (by decide) (by decide) ?_)
      refine xw_aload_n dX6_piecesTouch_75 rfl ?_
      refine xw_getfield dX6_piecesTouch_76 fl_X6_21 h3 rfl ?_
      refine xw_aload_n dX6_piecesTouch_79 rfl ?_
      refine xw_getfield dX6_piecesTouch_80 fl_X6_15 h3 rfl ?_
      refine xw_aload_n dX6_piecesTouch_83 rfl ?_
      refine xw_getfield dX6_piecesTouch_84 fl_X6_27 h3 rfl ?_
      refine xw_callS (rc := 0) (rs := 0) (mc2 := 0) (ms2 := 0) (As := [vR 7, vR 5, vR 9]) (st := []) dX6_piecesTouch_87 ms_X6_61 rfl (by decide) (by decide) (Nat.le_of_ble_eq_true rfl) rfl (ct_cross (va := w) (vb := p) h7 h5 h9 (by decide) (by decide) ?_)
      refine xw_aload_n dX6_piecesTouch_90 rfl ?_
      refine xw_getfield dX6_piecesTouch_91 fl_X6_24 h3 rfl ?_
      refine xw_aload_n dX6_piecesTouch_94 rfl ?_
      refine xw_getfield dX6_piecesTouch_95 fl_X6_33 h3 rfl ?_
      refine xw_callS (rc := 0) (rs := 0) (mc2 := 0) (ms2 := 0) (As := [vR 8, vR 11]) (st := []) dX6_piecesTouch_98 ms_X6_72 rfl (by decide) (by decide) (Nat.le_of_ble_eq_true rfl) rfl (ct_dot (va := cr w q) (vb := cr p q) rfl rfl ?_)
      refine xw_lload_n dX6_piecesTouch_101 rfl ?_
      refine xw_callS (rc := 0) (rs := 0) (mc2 := 0) (ms2 := 0) (As := [vL (dt (cr w q) (cr p q)), vL (dt (cr p q) (cr p q))]) (st := []) dX6_piecesTouch_102 ms_X6_76 rfl (by decide) (by decide) (Nat.le_of_ble_eq_true rfl) rfl (ct_isPart (nL hd3 (by decide)) (nL hd2 (by decide)) (fun h_102 => ?_) (fun h_102 => ?_))
      · skip
        refine xw_ifeq (tgt := 130) dX6_piecesTouch_105 (by decide) (by unfold inI; omega) (fun c => absurd c (by decide)) (fun _ => ?_)
        refine xw_aload_n dX6_piecesTouch_108 rfl ?_
        refine xw_getfield dX6_piecesTouch_109 fl_X6_27 h3 rfl ?_
        refine xw_aload_n dX6_piecesTouch_112 rfl ?_
        refine xw_getfield dX6_piecesTouch_113 fl_X6_33 h3 rfl ?_
        refine xw_callS (rc := 0) (rs := 0) (mc2 := 0) (ms2 := 0) (As := [vR 9, vR 11]) (st := []) dX6_piecesTouch_116 ms_X6_72 rfl (by decide) (by decide) (Nat.le_of_ble_eq_true rfl) rfl (ct_dot (va := cr w p) (vb := cr p q) rfl rfl ?_)
        refine xw_lload_n dX6_piecesTouch_119 rfl ?_
        refine xw_callS (rc := 0) (rs := 0) (mc2 := 0) (ms2 := 0) (As := [vL (dt (cr w p) (cr p q)), vL (dt (cr p q) (cr p q))]) (st := []) dX6_piecesTouch_120 ms_X6_76 rfl (by decide) (by decide) (Nat.le_of_ble_eq_true rfl) rfl (ct_isPart (nL hd4 (by decide)) (nL hd2 (by decide)) (fun h_120 => ?_) (fun h_120 => ?_))
        · skip
          refine xw_ifeq (tgt := 130) dX6_piecesTouch_123 (by decide) (by unfold inI; omega) (fun c => absurd c (by decide)) (fun _ => ?_)
          refine xw_iconst dX6_piecesTouch_126 ?_
          refine xw_goto (tgt := 131) dX6_piecesTouch_127 (by decide) ?_
          exact xw_zret dX6_piecesTouch_131 rfl rfl (by first | exact h1 (hz ⟨h_19, c_42, h_102, h_120⟩) _ hS2 | exact h0 (fun h => h.elim (fun k => h_19 k.1) (fun k => h_120 k.2.2.2)) _ hS2 | exact h0 (fun h => h.elim (fun k => h_19 k.1) (fun k => h_102 k.2.2.1)) _ hS2)
        · skip
          refine xw_ifeq (tgt := 130) dX6_piecesTouch_123 (by decide) (by unfold inI; omega) (fun _ => ?_) (fun c => absurd c (by decide))
          refine xw_iconst dX6_piecesTouch_130 ?_
          exact xw_zret dX6_piecesTouch_131 rfl rfl (by first | exact h1 (hz ⟨h_19, c_42, h_102, h_120⟩) _ hS2 | exact h0 (fun h => h.elim (fun k => h_19 k.1) (fun k => h_120 k.2.2.2)) _ hS2 | exact h0 (fun h => h.elim (fun k => h_19 k.1) (fun k => h_102 k.2.2.1)) _ hS2)
      · skip
        refine xw_ifeq (tgt := 130) dX6_piecesTouch_105 (by decide) (by unfold inI; omega) (fun _ => ?_) (fun c => absurd c (by decide))
        refine xw_iconst dX6_piecesTouch_130 ?_
        exact xw_zret dX6_piecesTouch_131 rfl rfl (by first | exact h1 (hz ⟨h_19, c_42, h_102, h_120⟩) _ hS2 | exact h0 (fun h => h.elim (fun k => h_19 k.1) (fun k => h_120 k.2.2.2)) _ hS2 | exact h0 (fun h => h.elim (fun k => h_19 k.1) (fun k => h_102 k.2.2.1)) _ hS2)
    · skip
      refine xw_iconst dX6_piecesTouch_46 ?_
      exact xw_zret dX6_piecesTouch_47 rfl rfl (h0 (fun h => h.elim (fun k => h_19 k.1) (fun k => c_42 k.2.1)) _ hS1)
end C36
