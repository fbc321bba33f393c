/-! what the class sees of two pieces; whether two touch; the direction -/
def seeP (d p q w : Nat → Int) : Prop := prt (sgn (de p q d) * de w q d) (de p q d * sgn (de p q d)) ∧ prt (sgn (de p q d) * de w p d) (de p q d * sgn (de p q d))
def seeN (d p q w : Nat → Int) (s : ofS) : ofS := (s.1, (sgn (de p q d) * de w q d, (de p q d * sgn (de p q d), (sgn (de p q d) * de p q w, de p q d * sgn (de p q d)))))
def seeR (d p q w : Nat → Int) (k : Nat) (s : ofS) (r : Int) (s' : ofS) : Prop := (de p q d = 0 ∧ ((¬ lineM d p q w ∧ r = 0 ∧ s' = s) ∨ (lineM d p q w ∧ s' = ofL d p q w k s ∧ r = s'.1))) ∨ (de p q d ≠ 0 ∧ ((seeP d p q w ∧ r = 1 ∧ s' = seeN d p q w s) ∨ (¬ seeP d p q w ∧ r = 0 ∧ s' = s)))
theorem seeR_in {d p q w : Nat → Int} {k : Nat} {s s' : ofS} {r : Int} (h : seeR d p q w k s r s') (hh : inL s.2.2.2.1) (hk : k < 3) (bd4 : bd d 100) (bp : bd p 2000) (bq : bd q 2000) (bw : bd w 2000) : inL s'.2.2.2.1 := by
  rcases h with ⟨-, ⟨-, -, h⟩ | ⟨-, h, -⟩⟩ | ⟨-, ⟨-, -, h⟩ | ⟨-, -, h⟩⟩
  · rw [h]; exact hh
  · rw [h]
    exact (okS_La (ok4_c4 hk bd4 bp bq bw) hh (nb_bd (bd_cr bp bd4 (by decide)) (wide_lt _)) (nb_bd (bd_cr bq bd4 (by decide)) (wide_lt _)) (nb_bd (bd_cr bw bd4 (by decide)) (wide_lt _))).1
  · rw [h]; exact nb_L (nb_sg (bd_de bp bq bw) _) (by decide)
  · rw [h]; exact hh
theorem bd_dv {A : Nat → Int} {i : Nat} (hA : ∀ k, k < 9 → nr (A k)) (hi : i < 2) : bd (dv A i) 2000 := bd_of (fun k hk => by
  have h1 := hA (3 * (i + 1) + k) (by omega)
  have h2 := hA (3 * i + k) (by omega)
  unfold nr at h1 h2; unfold dv; omega)
theorem bd_gv {A B : Nat → Int} {i j : Nat} (hA : ∀ k, k < 9 → nr (A k)) (hB : ∀ k, k < 9 → nr (B k)) (hi : i < 2) (hj : j < 2) : bd (gv A i B j) 2000 := bd_of (fun k hk => by
  have h1 := hA (3 * i + k) (by omega)
  have h2 := hB (3 * j + k) (by omega)
  unfold nr at h1 h2; unfold gv; omega)
def v3 (x y z : Int) : Nat → Int := fun k => if k = 0 then x else if k = 1 then y else z
def tchS (A : Nat → Int) (pa : Nat) (B : Nat → Int) (pb : Nat) : Prop := ∃ i j, i < pa ∧ j < pb ∧ tchC (dv A i) (dv B j) (gv A i B j)
theorem scr_take {f : xH} {v5 v6 v7 : Nat → Int} (h : sok f) : scr f (xup (xup (xup f 5 (aL 3 v5)) 6 (aL 3 v6)) 7 (aL 3 v7)) := scr_up (scr_up (scr_up (scr_rf h) (by decide) (by decide)) (by decide) (by decide)) (by decide) (by decide)
section C40
variable {g : xG} {Q : xP} {n : Nat} {f : xH}
set_option maxHeartbeats 4000000 in
theorem ct_sees {k : Nat} {s : ofS} {d : Nat → Int} {ka ma wa oa kb mb wb ob : Int} {a b ap bp pa pb i j : Nat} {A B : Nat → Int} (h3 : f 3 = some (oSs (k : Int) s)) (h4 : f 4 = some (aL 3 d)) (hs : sok f) (ha : f a = some (oSt ka ma wa pa ap oa)) (hap : f ap = some (aI 9 A)) (hb : f b = some (oSt kb mb wb pb bp ob)) (hbp : f bp = some (aI 9 B)) (la : 11 < a) (lap : 11 < ap) (lb : 11 < b) (lbp : 11 < bp) (hi : i < 2) (hj : j < 2) (hA : ∀ k, k < 9 → nr (A k)) (hB : ∀ k, k < 9 → nr (B k)) (hk : k < 3) (hh : inL s.2.2.2.1) (bd4 : bd d 100)
    (h1 : ∀ s' f1, seeR d (dv A i) (dv B j) (gv A i B j) k s 1 s' → inL s'.2.2.2.1 → scr (xup f 3 (oSs (k : Int) s')) f1 → Q (.inl (some (vI 1))) n f1) (h0 : ∀ s' f1, seeR d (dv A i) (dv B j) (gv A i B j) k s 0 s' → inL s'.2.2.2.1 → scr (xup f 3 (oSs (k : Int) s')) f1 → Q (.inl (some (vI 0))) n f1) : xct g M_X6_sees 0 0 [vR 3, vR a, vI (i : Int), vR b, vI (j : Int)] n f Q := by
  refine xct_of rfl rfl (Nat.le_of_ble_eq_true rfl) ?_
  obtain ⟨v5, h5⟩ := hs 5 (by decide) (by decide)
  obtain ⟨v6, h6⟩ := hs 6 (by decide) (by decide)
  obtain ⟨v7, h7⟩ := hs 7 (by decide) (by decide)
  have bp' : bd (dv A i) 2000 := bd_dv hA hi
  have bq' : bd (dv B j) 2000 := bd_dv hB hj
  have bw' : bd (gv A i B j) 2000 := bd_gv hA hB hi hj
  obtain ⟨F, hF⟩ : ∃ F, F = xup (xup (xup f 5 (aL 3 (dv A i))) 6 (aL 3 (dv B j))) 7 (aL 3 (gv A i B j)) := ⟨_, rfl⟩
  have hS : scr f F := by rw [hF]; exact scr_take hs
  have h3F : F 3 = some (oSs (k : Int) s) := by rw [hF]; exact h3
  have h4F : F 4 = some (aL 3 d) := by rw [hF]; exact h4
  have h5F : F 5 = some (aL 3 (dv A i)) := by rw [hF]; rfl
  have h6F : F 6 = some (aL 3 (dv B j)) := by rw [hF]; rfl
  have h7F : F 7 = some (aL 3 (gv A i B j)) := by rw [hF]; rfl
  have same : xup f 3 (oSs (k : Int) s) = f := xup_id h3
  generalize hp : dv A i = p at *
  generalize hq : dv B j = q at *
  generalize hw : gv A i B j = w at *
  have B1 : nb (de p q d) 2400000000 := bd_de bp' bq' bd4
  have B2 : nb (de w q d) 2400000000 := bd_de bw' bq' bd4
  have B3 : nb (de w p d) 2400000000 := bd_de bw' bp' bd4
  have K1 : inL (de p q d) := nb_L B1 (by decide)
  have K2 : inL (sgn (de p q d) * de w q d) := nb_L (nb_sg B2 _) (by decide)
  have K3 : inL (de p q d * sgn (de p q d)) := nb_L (nb_mul B1 (sgn_n _)) (by decide)
  have K4 : inL (sgn (de p q d) * de w p d) := nb_L (nb_sg B3 _) (by decide)
  have KN : inL (seeN d p q w s).2.2.2.1 := nb_L (nb_sg (bd_de bp' bq' bw') _) (by decide)
  have T : ∀ z : Int, de p q d ≠ 0 → z = sgn (de p q d) → xw g M_X6_sees Q 0 0 52 [(0, vR 3), (5, vL (de p q d))] [vL z] n F := by
    intro z hne hz
    subst hz
    refine xw_lstore dX6_sees_52 (by decide) ?_
    refine xw_lload dX6_sees_54 rfl ?_
    refine xw_aload_n dX6_sees_56 rfl ?_
    refine xw_getfield dX6_sees_57 fl_X6_21 h3F rfl ?_
    refine xw_aload_n dX6_sees_60 rfl ?_
    refine xw_getfield dX6_sees_61 fl_X6_18 h3F rfl ?_
    refine xw_aload_n dX6_sees_64 rfl ?_
    refine xw_getfield dX6_sees_65 fl_X6_9 h3F rfl ?_
    refine xw_callS (rc := 0) (rs := 0) (mc2 := 0) (ms2 := 0) (As := [vR 7, vR 6, vR 4]) (st := [vL (sgn (de p q d))]) dX6_sees_68 ms_X6_89 rfl (by decide) (by decide) (Nat.le_of_ble_eq_true rfl) rfl (ct_det (va := w) (vb := q) (vc := d) h7F h6F h4F ?_)
    refine xw_lmul dX6_sees_71 ?_
    refine xw_lstore dX6_sees_72 (by decide) ?_
    refine xw_lload dX6_sees_74 rfl ?_
    refine xw_lload dX6_sees_76 rfl ?_
    refine xw_lmul dX6_sees_78 ?_
    refine xw_lstore dX6_sees_79 (by decide) ?_
    refine xw_lload dX6_sees_81 rfl ?_
    refine xw_lload dX6_sees_83 rfl ?_
    refine xw_callS (rc := 0) (rs := 0) (mc2 := 0) (ms2 := 0) (As := [vL (sgn (de p q d) * de w q d), vL (de p q d * sgn (de p q d))]) (st := []) dX6_sees_85 ms_X6_76 rfl (by decide) (by decide) (Nat.le_of_ble_eq_true rfl) rfl (ct_isPart K2 K3 (fun h_85 => ?_) (fun h_85 => ?_))
    · skip
      refine xw_ifeq (tgt := 117) dX6_sees_88 (by decide) (by unfold inI; omega) (fun c => absurd c (by decide)) (fun _ => ?_)
      refine xw_lload dX6_sees_91 rfl ?_
      refine xw_aload_n dX6_sees_93 rfl ?_
      refine xw_getfield dX6_sees_94 fl_X6_21 h3F rfl ?_
      refine xw_aload_n dX6_sees_97 rfl ?_
      refine xw_getfield dX6_sees_98 fl_X6_15 h3F rfl ?_
      refine xw_aload_n dX6_sees_101 rfl ?_
      refine xw_getfield dX6_sees_102 fl_X6_9 h3F rfl ?_
      refine xw_callS (rc := 0) (rs := 0) (mc2 := 0) (ms2 := 0) (As := [vR 7, vR 5, vR 4]) (st := [vL (sgn (de p q d))]) dX6_sees_105 ms_X6_89 rfl (by decide) (by decide) (Nat.le_of_ble_eq_true rfl) rfl (ct_det (va := w) (vb := p) (vc := d) h7F h5F h4F ?_)
      refine xw_lmul dX6_sees_108 ?_
      refine xw_lload dX6_sees_109 rfl ?_
      refine xw_callS (rc := 0) (rs := 0) (mc2 := 0) (ms2 := 0) (As := [vL (sgn (de p q d) * de w p d), vL (de p q d * sgn (de p q d))]) (st := []) dX6_sees_111 ms_X6_76 rfl (by decide) (by decide) (Nat.le_of_ble_eq_true rfl) rfl (ct_isPart K4 K3 (fun h_111 => ?_) (fun h_111 => ?_))
      · skip
        refine xw_ifne (tgt := 119) dX6_sees_114 (by decide) (by unfold inI; omega) (fun _ => ?_) (fun c => absurd c (by decide))
        refine xw_aload_n dX6_sees_119 rfl ?_
        refine xw_lload dX6_sees_120 rfl ?_
        refine xw_putfield dX6_sees_122 (fp_X6_98 _) h3F rfl rfl ?_
        rw [fX6_10]
        refine xw_aload_n dX6_sees_125 rfl ?_
        refine xw_lload dX6_sees_126 rfl ?_
        refine xw_putfield dX6_sees_128 (fp_X6_102 _) (xup_s _ _ _) rfl rfl ?_
        rw [fX6_11]
        rw [xup_up]
        refine xw_aload_n dX6_sees_131 rfl ?_
        refine xw_lload dX6_sees_132 rfl ?_
        refine xw_aload_n dX6_sees_134 rfl ?_
        refine xw_getfield dX6_sees_135 fl_X6_15 (xup_s _ _ _) rfl ?_
        refine xw_aload_n dX6_sees_138 rfl ?_
        refine xw_getfield dX6_sees_139 fl_X6_18 (xup_s _ _ _) rfl ?_
        refine xw_aload_n dX6_sees_142 rfl ?_
        refine xw_getfield dX6_sees_143 fl_X6_21 (xup_s _ _ _) rfl ?_
        refine xw_callS (rc := 0) (rs := 0) (mc2 := 0) (ms2 := 0) (As := [vR 5, vR 6, vR 7]) (st := [vL (sgn (de p q d)), vR 3]) dX6_sees_146 ms_X6_89 rfl (by decide) (by decide) (Nat.le_of_ble_eq_true rfl) rfl (ct_det (va := p) (vb := q) (vc := w) h5F h6F h7F ?_)
        refine xw_lmul dX6_sees_149 ?_
        refine xw_putfield dX6_sees_150 (fp_X6_105 _) (xup_s _ _ _) rfl rfl ?_
        rw [fX6_12]
        rw [xup_up]
        refine xw_aload_n dX6_sees_153 rfl ?_
        refine xw_lload dX6_sees_154 rfl ?_
        refine xw_putfield dX6_sees_156 (fp_X6_108 _) (xup_s _ _ _) rfl rfl ?_
        rw [fX6_13]
        rw [xup_up]
        refine xw_iconst dX6_sees_159 ?_
        exact xw_zret dX6_sees_160 rfl rfl (h1 (seeN d p q w s) _ (Or.inr ⟨hne, Or.inl ⟨⟨h_85, h_111⟩, rfl, rfl⟩⟩) KN (scr_3 hS))
      · skip
        refine xw_ifne (tgt := 119) dX6_sees_114 (by decide) (by unfold inI; omega) (fun c => absurd c (by decide)) (fun _ => ?_)
        refine xw_iconst dX6_sees_117 ?_
        exact xw_zret dX6_sees_118 rfl rfl (by first | exact h0 s F (Or.inr ⟨hne, Or.inr ⟨fun h => h_85 h.1, rfl, rfl⟩⟩) hh (by rw [same]; exact hS) | exact h0 s F (Or.inr ⟨hne, Or.inr ⟨fun h => h_111 h.2, rfl, rfl⟩⟩) hh (by rw [same]; exact hS))
    · skip
      refine xw_ifeq (tgt := 117) dX6_sees_88 (by decide) (by unfold inI; omega) (fun _ => ?_) (fun c => absurd c (by decide))
      refine xw_iconst dX6_sees_117 ?_
      exact xw_zret dX6_sees_118 rfl rfl (by first | exact h0 s F (Or.inr ⟨hne, Or.inr ⟨fun h => h_85 h.1, rfl, rfl⟩⟩) hh (by rw [same]; exact hS) | exact h0 s F (Or.inr ⟨hne, Or.inr ⟨fun h => h_111 h.2, rfl, rfl⟩⟩) hh (by rw [same]; exact hS))
  refine xw_aload_n dX6_sees_0 rfl ?_
  refine xw_aload_n dX6_sees_1 rfl ?_
  refine xw_iload_n dX6_sees_2 rfl ?_
  refine xw_aload_n dX6_sees_3 rfl ?_
  refine xw_iload dX6_sees_4 rfl ?_
  refine xw_callV (rc := 0) (rs := 0) (mc2 := 0) (ms2 := 0) (a := 3) (As := [vR a, vI (i : Int), vR b, vI (j : Int)]) (st := []) dX6_sees_6 mv_X6_49 h3 rfl rfl (by decide) (by decide) (Nat.le_of_ble_eq_true rfl) rfl (ct_take h3 h5 h6 h7 ha hap hb hbp la lap lb lbp hi hj hA hB ?_)
  rw [hp, hq, hw, ← hF]
  refine xw_aload_n dX6_sees_9 rfl ?_
  refine xw_getfield dX6_sees_10 fl_X6_15 h3F rfl ?_
  refine xw_aload_n dX6_sees_13 rfl ?_
  refine xw_getfield dX6_sees_14 fl_X6_18 h3F rfl ?_
  refine xw_aload_n dX6_sees_17 rfl ?_
  refine xw_getfield dX6_sees_18 fl_X6_9 h3F rfl ?_
  refine xw_callS (rc := 0) (rs := 0) (mc2 := 0) (ms2 := 0) (As := [vR 5, vR 6, vR 4]) (st := []) dX6_sees_21 ms_X6_89 rfl (by decide) (by decide) (Nat.le_of_ble_eq_true rfl) rfl (ct_det (va := p) (vb := q) (vc := d) h5F h6F h4F ?_)
  refine xw_lstore dX6_sees_24 (by decide) ?_
  refine xw_lload dX6_sees_26 rfl ?_
  refine xw_lconst (z := 0) dX6_sees_28 (by decide) ?_
  refine xw_lcmpne (tgt := 38) dX6_sees_29 dX6_sees_30 (by decide) K1 (by unfold inL; omega) (fun c_29 => ?_) (fun c_29 => ?_)
  · skip
    refine xw_lload dX6_sees_38 rfl ?_
    refine xw_lconst (z := 0) dX6_sees_40 (by decide) ?_
    refine xw_lcmpge (tgt := 51) dX6_sees_41 dX6_sees_42 (by decide) K1 (by unfold inL; omega) (fun c_41 => ?_) (fun c_41 => ?_)
    · skip
      refine xw_lconst (z := 1) dX6_sees_51 (by decide) ?_
      exact xw_ls [(0, vR 3), (5, vL (de p q d))] ⟨rfl, rfl, trivial⟩ (T _ c_29 (by unfold sgn; first | rw [if_pos (by omega)] | rw [if_neg (by omega)]))
    · skip
      refine xw_ldc2 (z := -1) dX6_sees_45 kl_X6_96 (by decide) ?_
      refine xw_goto (tgt := 52) dX6_sees_48 (by decide) ?_
      exact xw_ls [(0, vR 3), (5, vL (de p q d))] ⟨rfl, rfl, trivial⟩ (T _ c_29 (by unfold sgn; first | rw [if_pos (by omega)] | rw [if_neg (by omega)]))
  · skip
    refine xw_aload_n dX6_sees_33 rfl ?_
    refine xw_callV (rc := 0) (rs := 0) (mc2 := 0) (ms2 := 0) (a := 3) (As := []) (st := []) dX6_sees_34 mv_X6_93 h3F rfl rfl (by decide) (by decide) (Nat.le_of_ble_eq_true rfl) rfl (ct_oneLine h3F h4F h5F h6F h7F hS.2 hk hh bd4 bp' bq' bw' (fun h_34 f1 hf1 => ?_) (fun h_34 f1 hf1 => ?_))
    · exact xw_zret dX6_sees_37 rfl rfl (h0 s f1 (Or.inl ⟨c_29, Or.inl ⟨h_34, rfl, rfl⟩⟩) hh (by rw [same]; exact scr_tr hS hf1))
    · have hok := okS_La (ok4_c4 hk bd4 bp' bq' bw') hh (nb_bd (bd_cr bp' bd4 (by decide)) (wide_lt (lnv d p q))) (nb_bd (bd_cr bq' bd4 (by decide)) (wide_lt (lnv d p q))) (nb_bd (bd_cr bw' bd4 (by decide)) (wide_lt (lnv d p q)))
      have hok2 : okS (ofL d p q w k s) := hok
      refine xw_zret dX6_sees_37 rfl (z01 hok2) ?_
      have hsc : scr (xup f 3 (oSs (k : Int) (ofL d p q w k s))) f1 := scr_tr (scr_3 hS) hf1
      rcases hok2.2 with e | e
      · rw [e]; exact h0 _ f1 (Or.inl ⟨c_29, Or.inr ⟨h_34, rfl, e.symm⟩⟩) hok2.1 hsc
      · rw [e.1]; exact h1 _ f1 (Or.inl ⟨c_29, Or.inr ⟨h_34, rfl, e.1.symm⟩⟩) hok2.1 hsc
    skip
set_option maxHeartbeats 4000000 in
theorem ct_lookAlong {k : Nat} {s : ofS} {d : Nat → Int} {x y z : Int} (h3 : f 3 = some (oSs (k : Int) s)) (h4 : f 4 = some (aL 3 d)) (hx : nb x 100) (hy : nb y 100) (hz : nb z 100) (hq : Q (.inl none) n (xup (xup f 4 (aL 3 (v3 x y z))) 3 (oSs (wide (v3 x y z) : Int) s))) : xct g M_X6_lookAlong 0 0 [vR 3, vI x, vI y, vI z] n f Q := by
  refine xct_of rfl rfl (Nat.le_of_ble_eq_true rfl) ?_
  have hb : bd (v3 x y z) 100 := ⟨hx, hy, hz⟩
  unfold nb at hx hy hz
  refine xw_aload_n dX6_lookAlong_0 rfl ?_
  refine xw_getfield dX6_lookAlong_1 fl_X6_9 h3 rfl ?_
  refine xw_iconst dX6_lookAlong_4 ?_
  refine xw_iload_n dX6_lookAlong_5 rfl ?_
  refine xw_i2l dX6_lookAlong_6 (by unfold inI; omega) ?_
  refine xw_last dX6_lookAlong_7 h4 (j := 0) rfl (by decide) (by decide) ?_
  skip
  refine xw_aload_n dX6_lookAlong_8 rfl ?_
  refine xw_getfield dX6_lookAlong_9 fl_X6_9 h3 rfl ?_
  refine xw_iconst dX6_lookAlong_12 ?_
  refine xw_iload_n dX6_lookAlong_13 rfl ?_
  refine xw_i2l dX6_lookAlong_14 (by unfold inI; omega) ?_
  refine xw_last dX6_lookAlong_15 rfl (j := 1) rfl (by decide) (by decide) ?_
  rw [xup_up]
  refine xw_aload_n dX6_lookAlong_16 rfl ?_
  refine xw_getfield dX6_lookAlong_17 fl_X6_9 h3 rfl ?_
  refine xw_iconst dX6_lookAlong_20 ?_
  refine xw_iload_n dX6_lookAlong_21 rfl ?_
  refine xw_i2l dX6_lookAlong_22 (by unfold inI; omega) ?_
  refine xw_last dX6_lookAlong_23 rfl (j := 2) rfl (by decide) (by decide) ?_
  rw [xup_up]
  refine xw_cgL (c1 := v3 x y z) (fun k hk => ?_) ?_
  · rcases lt3 hk with rfl | rfl | rfl <;> rfl
  refine xw_aload_n dX6_lookAlong_24 rfl ?_
  refine xw_aload_n dX6_lookAlong_25 rfl ?_
  refine xw_getfield dX6_lookAlong_26 fl_X6_9 h3 rfl ?_
  refine xw_callS (rc := 0) (rs := 0) (mc2 := 0) (ms2 := 0) (As := [vR 4]) (st := [vR 3]) dX6_lookAlong_29 ms_X6_40 rfl (by decide) (by decide) (Nat.le_of_ble_eq_true rfl) rfl (ct_widest (v := v3 x y z) rfl (bd_3s hb (by decide)) ?_)
  refine xw_putfield dX6_lookAlong_32 (fp_X6_36 _) h3 rfl rfl ?_
  rw [fX6_1]
  exact xw_vret dX6_lookAlong_35 rfl hq
set_option maxHeartbeats 4000000 in
theorem ct_touch {k : Nat} {s : ofS} {ka ma wa oa kb mb wb ob : Int} {a b ap bp pa pb : Nat} {A B : Nat → Int} (h3 : f 3 = some (oSs (k : Int) s)) (hs : sok f) (ha : f a = some (oSt ka ma wa pa ap oa)) (hap : f ap = some (aI 9 A)) (hb : f b = some (oSt kb mb wb pb bp ob)) (hbp : f bp = some (aI 9 B)) (la : 11 < a) (lap : 11 < ap) (lb : 11 < b) (lbp : 11 < bp) (hpa : pa ≤ 2) (hpb : pb ≤ 2) (hA : ∀ k, k < 9 → nr (A k)) (hB : ∀ k, k < 9 → nr (B k))
    (h1 : tchS A pa B pb → ∀ f1, scr f f1 → Q (.inl (some (vI 1))) n f1) (h0 : ¬ tchS A pa B pb → ∀ f1, scr f f1 → Q (.inl (some (vI 0))) n f1) : xct g M_X6_touch 0 0 [vR 3, vR a, vR b] n f Q := by
  refine xct_of rfl rfl (Nat.le_of_ble_eq_true rfl) ?_
  have I : ∀ (i : Nat), i < pa → (∀ f2, scr f f2 → (∀ j', j' < pb → ¬ tchC (dv A i) (dv B j') (gv A i B j')) → xw g M_X6_touch Q 0 0 46 [(0, vR 3), (1, vR a), (2, vR b), (3, vI (i : Int))] [] n f2) → ∀ (m j : Nat), j + m = pb → ∀ f1, scr f f1 → (∀ j', j' < j → ¬ tchC (dv A i) (dv B j') (gv A i B j')) → xw g M_X6_touch Q 0 0 13 [(0, vR 3), (1, vR a), (2, vR b), (3, vI (i : Int)), (4, vI (j : Int))] [] n f1 := by
    intro i hi K m
    induction m with
    | zero =>
      intro j hj f1 hf1 hall
      have hb1 : f1 b = some (oSt kb mb wb pb bp ob) := (hf1.1 b (Or.inr lb)).trans hb
      refine xw_iload dX6_touch_13 rfl ?_
      refine xw_aload_n dX6_touch_15 rfl ?_
      refine xw_getfield dX6_touch_16 fl_X6_44 hb1 rfl ?_
      refine xw_icmpge (tgt := 46) dX6_touch_19 (by decide) (by unfold inI; omega) (by unfold inI; omega) (fun c_19 => ?_) (fun c_19 => ?_)
      · skip
        exact xw_ls [(0, vR 3), (1, vR a), (2, vR b), (3, vI (i : Int))] ⟨rfl, rfl, rfl, rfl, trivial⟩ (K f1 hf1 (fun j' hj' => hall j' (by omega)))
      · skip
        exfalso; omega
    | succ m ih =>
      intro j hj f1 hf1 hall
      have hb1 : f1 b = some (oSt kb mb wb pb bp ob) := (hf1.1 b (Or.inr lb)).trans hb
      have ha1 : f1 a = some (oSt ka ma wa pa ap oa) := (hf1.1 a (Or.inr la)).trans ha
      have hap1 : f1 ap = some (aI 9 A) := (hf1.1 ap (Or.inr lap)).trans hap
      have hbp1 : f1 bp = some (aI 9 B) := (hf1.1 bp (Or.inr lbp)).trans hbp
      have h31 : f1 3 = some (oSs (k : Int) s) := (hf1.1 3 (Or.inl (by decide))).trans h3
      obtain ⟨v5, h5⟩ := hf1.2 5 (by decide) (by decide)
      obtain ⟨v6, h6⟩ := hf1.2 6 (by decide) (by decide)
      obtain ⟨v7, h7⟩ := hf1.2 7 (by decide) (by decide)
      refine xw_iload dX6_touch_13 rfl ?_
      refine xw_aload_n dX6_touch_15 rfl ?_
      refine xw_getfield dX6_touch_16 fl_X6_44 hb1 rfl ?_
      refine xw_icmpge (tgt := 46) dX6_touch_19 (by decide) (by unfold inI; omega) (by unfold inI; omega) (fun c_19 => ?_) (fun c_19 => ?_)
      · skip
        exfalso; omega
      · skip
        refine xw_aload_n dX6_touch_22 rfl ?_
        refine xw_aload_n dX6_touch_23 rfl ?_
        refine xw_iload_n dX6_touch_24 rfl ?_
        refine xw_aload_n dX6_touch_25 rfl ?_
        refine xw_iload dX6_touch_26 rfl ?_
        refine xw_callV (rc := 0) (rs := 0) (mc2 := 0) (ms2 := 0) (a := 3) (As := [vR a, vI (i : Int), vR b, vI (j : Int)]) (st := []) dX6_touch_28 mv_X6_49 h31 rfl rfl (by decide) (by decide) (Nat.le_of_ble_eq_true rfl) rfl (ct_take h31 h5 h6 h7 ha1 hap1 hb1 hbp1 la lap lb lbp (by omega) (by omega) hA hB ?_)
        refine xw_aload_n dX6_touch_31 rfl ?_
        refine xw_callV (rc := 0) (rs := 0) (mc2 := 0) (ms2 := 0) (a := 3) (As := []) (st := []) dX6_touch_32 mv_X6_53 h31 rfl rfl (by decide) (by decide) (Nat.le_of_ble_eq_true rfl) rfl (ct_piecesTouch (p := dv A i) (q := dv B j) (w := gv A i B j) h31 rfl rfl rfl (scr_take hf1.2).2 (bd_dv hA (by omega)) (bd_dv hB (by omega)) (bd_gv hA hB (by omega) (by omega)) (fun h_32 f2 hf2 => ?_) (fun h_32 f2 hf2 => ?_))
        · skip
          refine xw_ifeq (tgt := 40) dX6_touch_35 (by decide) (by unfold inI; omega) (fun c => absurd c (by decide)) (fun _ => ?_)
          refine xw_iconst dX6_touch_38 ?_
          exact xw_zret dX6_touch_39 rfl rfl (h1 ⟨i, j, hi, by omega, h_32⟩ f2 (scr_tr hf1 (scr_tr (scr_take hf1.2) hf2)))
        · skip
          refine xw_ifeq (tgt := 40) dX6_touch_35 (by decide) (by unfold inI; omega) (fun _ => ?_) (fun c => absurd c (by decide))
          refine xw_iinc dX6_touch_40 rfl (by decide) ?_
          refine xw_goto (tgt := 13) dX6_touch_43 (by decide) ?_
          exact xw_ls [(0, vR 3), (1, vR a), (2, vR b), (3, vI (i : Int)), (4, vI ((j + 1 : Nat) : Int))] ⟨rfl, rfl, rfl, rfl, rfl, trivial⟩ (ih (j + 1) (by omega) f2 (scr_tr hf1 (scr_tr (scr_take hf1.2) hf2)) (fun j' hj' => (Nat.lt_or_ge j' j).elim (fun q => hall j' q) (fun q => by have e9 : j' = j := (by omega); rw [e9]; exact h_32)))
  have O : ∀ (m i : Nat), i + m = pa → ∀ f1, scr f f1 → (∀ i' j', i' < i → j' < pb → ¬ tchC (dv A i') (dv B j') (gv A i' B j')) → xw g M_X6_touch Q 0 0 2 [(0, vR 3), (1, vR a), (2, vR b), (3, vI (i : Int))] [] n f1 := by
    intro m
    induction m with
    | zero =>
      intro i hi f1 hf1 hall
      have ha1 : f1 a = some (oSt ka ma wa pa ap oa) := (hf1.1 a (Or.inr la)).trans ha
      refine xw_iload_n dX6_touch_2 rfl ?_
      refine xw_aload_n dX6_touch_3 rfl ?_
      refine xw_getfield dX6_touch_4 fl_X6_44 ha1 rfl ?_
      refine xw_icmpge (tgt := 52) dX6_touch_7 (by decide) (by unfold inI; omega) (by unfold inI; omega) (fun c_7 => ?_) (fun c_7 => ?_)
      · skip
        refine xw_iconst dX6_touch_52 ?_
        exact xw_zret dX6_touch_53 rfl rfl (h0 (fun ⟨i', j', q1, q2, q3⟩ => hall i' j' (by omega) q2 q3) f1 hf1)
      · skip
        exfalso; omega
    | succ m ih =>
      intro i hi f1 hf1 hall
      have ha1 : f1 a = some (oSt ka ma wa pa ap oa) := (hf1.1 a (Or.inr la)).trans ha
      have K : ∀ f2, scr f f2 → (∀ j', j' < pb → ¬ tchC (dv A i) (dv B j') (gv A i B j')) → xw g M_X6_touch Q 0 0 46 [(0, vR 3), (1, vR a), (2, vR b), (3, vI (i : Int))] [] n f2 := by
        intro f2 hf2 hall2
        refine xw_iinc dX6_touch_46 rfl (by decide) ?_
        refine xw_goto (tgt := 2) dX6_touch_49 (by decide) ?_
        exact xw_ls [(0, vR 3), (1, vR a), (2, vR b), (3, vI ((i + 1 : Nat) : Int))] ⟨rfl, rfl, rfl, rfl, trivial⟩ (ih (i + 1) (by omega) f2 hf2 (fun i' j' q1 q2 => (Nat.lt_or_ge i' i).elim (fun q => hall i' j' q q2) (fun q => by have e9 : i' = i := (by omega); rw [e9]; exact hall2 j' q2)))
      refine xw_iload_n dX6_touch_2 rfl ?_
      refine xw_aload_n dX6_touch_3 rfl ?_
      refine xw_getfield dX6_touch_4 fl_X6_44 ha1 rfl ?_
      refine xw_icmpge (tgt := 52) dX6_touch_7 (by decide) (by unfold inI; omega) (by unfold inI; omega) (fun c_7 => ?_) (fun c_7 => ?_)
      · skip
        exfalso; omega
      · skip
        refine xw_iconst dX6_touch_10 ?_
        refine xw_istore dX6_touch_11 (by decide) ?_
        exact xw_ls [(0, vR 3), (1, vR a), (2, vR b), (3, vI (i : Int)), (4, vI ((0 : Nat) : Int))] ⟨rfl, rfl, rfl, rfl, rfl, trivial⟩ (I i (by omega) K pb 0 (by omega) f1 hf1 (fun j' hj' => by omega))
  refine xw_iconst dX6_touch_0 ?_
  refine xw_istore_n dX6_touch_1 (by decide) ?_
  exact xw_ls [(0, vR 3), (1, vR a), (2, vR b), (3, vI ((0 : Nat) : Int))] ⟨rfl, rfl, rfl, rfl, trivial⟩ (O pa 0 (by omega) f (scr_rf hs) (fun i' j' q1 => by omega))
end C40
