/-! the model: knot -/
/-- what the knots of a table are good for -/
def knOK (sz : Nat) (B : Nat → Nat → Prop) (kn : Nat → Int) (kc : Nat) : Prop := (∀ i, i < sz → -1 ≤ kn i ∧ kn i < (kc : Int)) ∧ (∀ k : Nat, k < kc → ∃ p, p < sz ∧ kn p = (k : Int)) ∧ (∀ p, p < sz → kn p ≠ -1 → ∃ v, 1 ≤ v ∧ pth (kE sz kn (kn p) B) p v p) ∧ kc ≤ 40
noncomputable def knN (N : Nat → Nat) (sz : Nat) (kn : Nat → Int) (k i : Int) : Int := if xnth (fun p => decide (kn p = k)) i 0 0 sz = -1 then -1 else (N (xnth (fun p => decide (kn p = k)) i 0 0 sz).toNat : Int)
section C9f
variable {g : xG} {y : xM} {Q : xP} {n : Nat} {f : xH} {th : Int} {bn : Nat} {β : Nat → xBx} {gn : Nat} {σ : Nat → xSt} {d : Nat → Int} {as : List xAc} {ps : Nat} {pb : Nat → Int} {pu : Nat} {pr : Nat → Int} {sz : Nat} {N : Nat → Nat} {av : Nat → Nat}
set_option maxHeartbeats 8000000 in
theorem mct_knot {z x i : Int} {kn : Nat → Int} {kc : Nat} (h : MS f th bn β gn σ d as ps pb pu pr) (hz : inI z) (hx : inI x) (hi : inI i) (hN : onO gn σ sz N) (hav : avR sz av (fun i j => mBar d σ (N i) (N j))) (ekn : kn = (mkA (fun i j => WP av sz i j) sz).1) (ekc : kc = (mkA (fun i j => WP av sz i j) sz).2) (hok : knOK sz (fun i j => mBar d σ (N i) (N j)) kn kc)
    (h0 : ∀ f1, MS f1 0 bn β gn σ d as ps pb pu pr → kC f f1 → ¬ ((0 ≤ z ∧ z < (kc : Int)) ∧ 0 ≤ i ∧ (x = 0 ∨ x = 1)) → Q (.inl (some (vI (-1)))) n f1)
    (h1 : ∀ f1, MS f1 0 bn β gn σ d as ps pb pu pr → kC f f1 → (0 ≤ z ∧ z < (kc : Int)) → 0 ≤ i → x = 0 → Q (.inl (some (vI (knN N sz kn z i)))) n f1)
    (h2 : ∀ f1 (p least : Nat) (q : Nat → Nat), MS f1 0 bn β gn σ d as ps pb pu pr → kC f f1 → (0 ≤ z ∧ z < (kc : Int)) → 0 ≤ i → x = 1 → rgP (kE sz kn z (fun i j => mBar d σ (N i) (N j))) sz kn z p least → rgS (kE sz kn z (fun i j => mBar d σ (N i) (N j))) p least q least → (∀ r, r < least → q r < sz) → Q (.inl (some (vI (if i < (least : Int) then (N (q i.toNat) : Int) else -1)))) n f1) : xct g M_X10_knot 0 0 [vR 38, vI z, vI x, vI i] n f Q := by
  refine xct_of rfl rfl (Nat.le_of_ble_eq_true rfl) ?_
  obtain ⟨B, hB⟩ : ∃ B : Nat → Nat → Prop, B = (fun i j => mBar d σ (N i) (N j)) := ⟨_, rfl⟩
  rw [← hB] at hok h2
  obtain ⟨k1, k2, k3, k4⟩ := id hok
  have S : ∀ F, MS F 0 bn β gn σ d as ps pb pu pr → kC f F → xw g M_X10_knot Q 0 0 5 [(0, vR 38), (1, vI z), (2, vI x), (3, vI i)] [] n F := by
    intro F0 hF0 kF0
    obtain ⟨m0, hm0, hE0⟩ := MS_E hF0
    obtain ⟨g38, g6, _, hst, _⟩ := id hE0
    have hsh : msh F0 := hF0.choose_spec.2.2.2.2.2.2.2.1
    have h40 : sz ≤ 40 := by rw [hN.1]; exact hF0.choose_spec.2.2.2.2.2.2.2.2.1
    have hgn : gn ≤ 100 := hE0.2.2.2.1.choose_spec.choose_spec.choose_spec.choose_spec.choose_spec.2.2.2.2.2.1
    have main : ∀ (F1 : xH) (m1 : Nat → Int), gR F0 F1 m0 m1 → kS F1 m1 sz N B kn kc → xw g M_X10_knot Q 0 0 9 [(0, vR 38), (1, vI z), (2, vI x), (3, vI i)] [] n F1 := by
      intro F1 m1 hG hK
      have h38 := hG.2.1
      have m49 := hK.1
      have m50 := hK.2.2.2.1
      obtain ⟨on, h70, hon9⟩ := id hK.2.1
      obtain ⟨ko, h72, hk9⟩ := id hK.2.2.2.2
      have hM := MS_gr hF0 hm0 hG
      have MB : (0 ≤ z ∧ z < (kc : Int)) → 0 ≤ i → x = 0 → ∀ (t j c : Nat), j + t = sz → c ≤ j → xnth (fun p => decide (kn p = z)) i (c : Int) j t = xnth (fun p => decide (kn p = z)) i 0 0 sz → xw g M_X10_knot Q 0 0 71 [(0, vR 38), (1, vI z), (3, vI i), (4, vI (c : Int)), (5, vI (j : Int))] [] n F1 := by
        intro hz9 hi9 hx9 t
        have RT := h1 F1 hM.1 (kC_tr kF0 hM.2.1) hz9 hi9 hx9
        unfold knN at RT
        induction t with
        | zero =>
          intro j c hj hcj he
          rw [← he, xnth, if_pos rfl] at RT
          refine xw_iload dX10_knot_71 rfl ?_
          refine xw_aload_n dX10_knot_73 rfl ?_
          refine xw_getfield dX10_knot_74 fl_X10_285 h38 rfl ?_
          refine xw_topi (sz : Int) m49 ?_
          refine xw_icmpge (tgt := 122) dX10_knot_77 (by decide) (by first | assumption | (unfold inI; omega) | (unfold inI at *; omega)) (by first | assumption | (unfold inI; omega) | (unfold inI at *; omega)) (fun c_77 => ?_) (fun c_77 => ?_)
          · skip
            refine xw_iconst dX10_knot_122 ?_
            exact xw_iret dX10_knot_123 rfl RT
          · skip
            exfalso; omega
        | succ t ih =>
          intro j c hj hcj he
          have nj := hN.2 j (by omega)
          have kj := hk9 j (by omega)
          have ikj : inI (ko (N j)) := by have := k1 j (by omega); rw [kj]; unfold inI; omega
          rw [xnth] at he
          refine xw_iload dX10_knot_71 rfl ?_
          refine xw_aload_n dX10_knot_73 rfl ?_
          refine xw_getfield dX10_knot_74 fl_X10_285 h38 rfl ?_
          refine xw_topi (sz : Int) m49 ?_
          refine xw_icmpge (tgt := 122) dX10_knot_77 (by decide) (by first | assumption | (unfold inI; omega) | (unfold inI at *; omega)) (by first | assumption | (unfold inI; omega) | (unfold inI at *; omega)) (fun c_77 => ?_) (fun c_77 => ?_)
          · skip
            exfalso; omega
          · skip
            refine xw_aload_n dX10_knot_80 rfl ?_
            refine xw_getfield dX10_knot_81 fl_X10_118 h38 rfl ?_
            refine xw_aload_n dX10_knot_84 rfl ?_
            refine xw_getfield dX10_knot_85 fl_X10_112 h38 rfl ?_
            refine xw_iload dX10_knot_88 rfl ?_
            refine xw_iald dX10_knot_90 h70 (j := j) rfl (by omega) (by decide) ?_
            refine xw_topi (N j : Int) (hon9 j (by omega)) ?_
            refine xw_iald dX10_knot_91 h72 (j := N j) rfl (by omega) (by decide) ?_
            refine xw_iload_n dX10_knot_92 rfl ?_
            refine xw_icmpeq (tgt := 99) dX10_knot_93 (by decide) ikj hz (fun c_93 => ?_) (fun c_93 => ?_)
            · skip
              refine xw_iload dX10_knot_99 rfl ?_
              refine xw_iload_n dX10_knot_101 rfl ?_
              refine xw_icmpne (tgt := 113) dX10_knot_102 (by decide) (by first | assumption | (unfold inI; omega) | (unfold inI at *; omega)) (by first | assumption | (unfold inI; omega) | (unfold inI at *; omega)) (fun c_102 => ?_) (fun c_102 => ?_)
              · skip
                refine xw_iinc dX10_knot_113 rfl (by decide) ?_
                refine xw_iinc dX10_knot_116 rfl (by decide) ?_
                refine xw_goto (tgt := 71) dX10_knot_119 (by decide) ?_
                first
                  | exact xw_ls [(0, vR 38), (1, vI z), (3, vI i), (4, vI (c : Int)), (5, vI ((j + 1 : Nat) : Int))] ⟨rfl, rfl, rfl, rfl, rfl, trivial⟩ (ih (j + 1) c (by omega) (by omega) (by rw [← he, if_neg (by rw [decide_eq_true_eq]; omega)]))
                  | exact xw_ls [(0, vR 38), (1, vI z), (3, vI i), (4, vI ((c + 1 : Nat) : Int)), (5, vI ((j + 1 : Nat) : Int))] ⟨rfl, rfl, rfl, rfl, rfl, trivial⟩ (ih (j + 1) (c + 1) (by omega) (by omega) (by rw [← he, if_pos (decide_eq_true (by omega)), if_neg (by omega)]; rfl))
              · skip
                refine xw_aload_n dX10_knot_105 rfl ?_
                refine xw_getfield dX10_knot_106 fl_X10_112 h38 rfl ?_
                refine xw_iload dX10_knot_109 rfl ?_
                refine xw_iald dX10_knot_111 h70 (j := j) rfl (by omega) (by decide) ?_
                refine xw_topi (N j : Int) (hon9 j (by omega)) ?_
                exact xw_iret dX10_knot_112 rfl (by
                  rw [if_pos (decide_eq_true (by omega)), if_pos (by omega)] at he
                  rw [← he, if_neg (by omega), Int.toNat_natCast] at RT
                  exact RT)
            · skip
              refine xw_goto (tgt := 116) dX10_knot_96 (by decide) ?_
              refine xw_iinc dX10_knot_116 rfl (by decide) ?_
              refine xw_goto (tgt := 71) dX10_knot_119 (by decide) ?_
              first
                | exact xw_ls [(0, vR 38), (1, vI z), (3, vI i), (4, vI (c : Int)), (5, vI ((j + 1 : Nat) : Int))] ⟨rfl, rfl, rfl, rfl, rfl, trivial⟩ (ih (j + 1) c (by omega) (by omega) (by rw [← he, if_neg (by rw [decide_eq_true_eq]; omega)]))
                | exact xw_ls [(0, vR 38), (1, vI z), (3, vI i), (4, vI ((c + 1 : Nat) : Int)), (5, vI ((j + 1 : Nat) : Int))] ⟨rfl, rfl, rfl, rfl, rfl, trivial⟩ (ih (j + 1) (c + 1) (by omega) (by omega) (by rw [← he, if_pos (decide_eq_true (by omega)), if_neg (by omega)]; rfl))
      have RG : (0 ≤ z ∧ z < (kc : Int)) → 0 ≤ i → x = 1 → xw g M_X10_knot Q 0 0 41 [(0, vR 38), (1, vI z), (3, vI i)] [] n F1 := by
        intro hz9 hi9 hx9
        obtain ⟨p0, hp0, hp1⟩ := k2 z.toNat (by omega)
        have zz : ((z.toNat : Nat) : Int) = z := by omega
        rw [zz] at hp1
        refine xw_aload_n dX10_knot_41 rfl ?_
        refine xw_iload_n dX10_knot_42 rfl ?_
        refine xw_callV (rc := 0) (rs := 0) (mc2 := 0) (ms2 := 0) (a := 38) (As := [vI z]) (st := []) dX10_knot_43 mv_X10_310 h38 rfl rfl (by decide) (by decide) (Nat.le_of_ble_eq_true rfl) rfl (ct_findRing h38 hG.2.2.2 hN hgn h40 hK (fun i hi => by have := k1 i hi; unfold inI; omega) hz (fun p hp => by rw [hB]; exact fun q => q.1 rfl) ⟨p0, hp0, hp1⟩ (fun p hp hkp => by have := k3 p hp (by omega); rw [hkp] at this; exact this) (fun F2 m2 p least q G2 c1 c2 c3 c4 c5 c6 => ?_))
        have hM2 := MS_gr hF0 hm0 (gR_tr hG G2)
        have RT := h2 F2 p least q hM2.1 (kC_tr kF0 hM2.2.1) hz9 hi9 hx9 c1 c2 c3
        obtain ⟨rg, h73, hr9⟩ := c4
        refine xw_iload_n dX10_knot_46 rfl ?_
        refine xw_aload_n dX10_knot_47 rfl ?_
        refine xw_getfield dX10_knot_48 fl_X10_307 G2.2.1 rfl ?_
        refine xw_topi (least : Int) c5 ?_
        refine xw_icmpge (tgt := 63) dX10_knot_51 (by decide) (by first | assumption | (unfold inI; omega) | (unfold inI at *; omega)) (by first | assumption | (unfold inI; omega) | (unfold inI at *; omega)) (fun c_51 => ?_) (fun c_51 => ?_)
        · skip
          refine xw_iconst dX10_knot_63 ?_
          exact xw_iret dX10_knot_64 rfl (by first | (rw [if_pos (by omega)] at RT; exact RT) | (rw [if_neg (by omega)] at RT; exact RT))
        · skip
          refine xw_aload_n dX10_knot_54 rfl ?_
          refine xw_getfield dX10_knot_55 fl_X10_121 G2.2.1 rfl ?_
          refine xw_iload_n dX10_knot_58 rfl ?_
          refine xw_iald dX10_knot_59 h73 (j := i.toNat) (by omega) (by omega) (by decide) ?_
          refine xw_topi (N (q i.toNat) : Int) (hr9 _ (by omega)) ?_
          refine xw_goto (tgt := 64) dX10_knot_60 (by decide) ?_
          exact xw_iret dX10_knot_64 rfl (by first | (rw [if_pos (by omega)] at RT; exact RT) | (rw [if_neg (by omega)] at RT; exact RT))
      refine xw_iload_n dX10_knot_9 rfl ?_
      refine xw_iflt (tgt := 34) dX10_knot_10 (by decide) (by first | assumption | (unfold inI; omega) | (unfold inI at *; omega)) (fun c_10 => ?_) (fun c_10 => ?_)
      · skip
        refine xw_iconst dX10_knot_34 ?_
        exact xw_iret dX10_knot_35 rfl (h0 F1 hM.1 (kC_tr kF0 hM.2.1) (by omega))
      · skip
        refine xw_iload_n dX10_knot_13 rfl ?_
        refine xw_aload_n dX10_knot_14 rfl ?_
        refine xw_getfield dX10_knot_15 fl_X10_294 h38 rfl ?_
        refine xw_topi (kc : Int) m50 ?_
        refine xw_icmpge (tgt := 34) dX10_knot_18 (by decide) (by first | assumption | (unfold inI; omega) | (unfold inI at *; omega)) (by first | assumption | (unfold inI; omega) | (unfold inI at *; omega)) (fun c_18 => ?_) (fun c_18 => ?_)
        · skip
          refine xw_iconst dX10_knot_34 ?_
          exact xw_iret dX10_knot_35 rfl (h0 F1 hM.1 (kC_tr kF0 hM.2.1) (by omega))
        · skip
          refine xw_iload_n dX10_knot_21 rfl ?_
          refine xw_iflt (tgt := 34) dX10_knot_22 (by decide) (by first | assumption | (unfold inI; omega) | (unfold inI at *; omega)) (fun c_22 => ?_) (fun c_22 => ?_)
          · skip
            refine xw_iconst dX10_knot_34 ?_
            exact xw_iret dX10_knot_35 rfl (h0 F1 hM.1 (kC_tr kF0 hM.2.1) (by omega))
          · skip
            refine xw_iload_n dX10_knot_25 rfl ?_
            refine xw_iflt (tgt := 34) dX10_knot_26 (by decide) (by first | assumption | (unfold inI; omega) | (unfold inI at *; omega)) (fun c_26 => ?_) (fun c_26 => ?_)
            · skip
              refine xw_iconst dX10_knot_34 ?_
              exact xw_iret dX10_knot_35 rfl (h0 F1 hM.1 (kC_tr kF0 hM.2.1) (by omega))
            · skip
              refine xw_iload_n dX10_knot_29 rfl ?_
              refine xw_iconst dX10_knot_30 ?_
              refine xw_icmple (tgt := 36) dX10_knot_31 (by decide) (by first | assumption | (unfold inI; omega) | (unfold inI at *; omega)) (by first | assumption | (unfold inI; omega) | (unfold inI at *; omega)) (fun c_31 => ?_) (fun c_31 => ?_)
              · skip
                refine xw_iload_n dX10_knot_36 rfl ?_
                refine xw_iconst dX10_knot_37 ?_
                refine xw_icmpne (tgt := 65) dX10_knot_38 (by decide) (by first | assumption | (unfold inI; omega) | (unfold inI at *; omega)) (by first | assumption | (unfold inI; omega) | (unfold inI at *; omega)) (fun c_38 => ?_) (fun c_38 => ?_)
                · skip
                  refine xw_iconst dX10_knot_65 ?_
                  refine xw_istore dX10_knot_66 (by decide) ?_
                  refine xw_iconst dX10_knot_68 ?_
                  refine xw_istore dX10_knot_69 (by decide) ?_
                  exact xw_ls [(0, vR 38), (1, vI z), (3, vI i), (4, vI ((0 : Nat) : Int)), (5, vI ((0 : Nat) : Int))] ⟨rfl, rfl, rfl, rfl, rfl, trivial⟩ (MB (by omega) (by omega) (by omega) sz 0 0 (by omega) (Nat.le_refl _) rfl)
                · skip
                  exact xw_ls [(0, vR 38), (1, vI z), (3, vI i)] ⟨rfl, rfl, rfl, trivial⟩ (RG (by omega) (by omega) (by omega))
              · skip
                refine xw_iconst dX10_knot_34 ?_
                exact xw_iret dX10_knot_35 rfl (h0 F1 hM.1 (kC_tr kF0 hM.2.1) (by omega))
    refine xw_aload_n dX10_knot_5 rfl ?_
    refine xw_callV (rc := 0) (rs := 0) (mc2 := 0) (ms2 := 0) (a := 38) (As := []) (st := []) dX10_knot_6 mv_X10_297 g38 rfl rfl (by decide) (by decide) (Nat.le_of_ble_eq_true rfl) rfl (mct_findKnots hE0 hsh hN h40 hav (fun F1 m1 hG m49 hon hb m50 hkn hle => ?_))
    exact xw_ls [(0, vR 38), (1, vI z), (2, vI x), (3, vI i)] ⟨rfl, rfl, rfl, rfl, trivial⟩ (main F1 m1 hG ⟨m49, hon, by rw [hB]; exact hb, by rw [ekc]; exact m50, by rw [ekn]; exact hkn⟩)
  obtain ⟨m, h38, hm, _⟩ := id h
  refine xw_aload_n dX10_knot_0 rfl ?_
  refine xw_iconst dX10_knot_1 ?_
  refine xw_putfield dX10_knot_2 (fp_X10_1 _) h38 rfl rfl ?_
  rw [xmd_0]
  exact S _ (MS_th 0 h h38 hm).1 (MS_th 0 h h38 hm).2
end C9f
