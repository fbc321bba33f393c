/-! the model: crossings, crossing -/
theorem msh_cl {f : xH} (h : msh f) : ∃ L, mcl f 0 L := by
  obtain ⟨a, ha⟩ := msh_at h (k := 59) (t := 0) (N := 200) (by decide)
  obtain ⟨b, hb⟩ := msh_at h (k := 60) (t := 0) (N := 200) (by decide)
  obtain ⟨c, hc9⟩ := msh_at h (k := 61) (t := 0) (N := 200) (by decide)
  obtain ⟨e, he⟩ := msh_at h (k := 62) (t := 1) (N := 200) (by decide)
  obtain ⟨a1, ha1⟩ := msh_at h (k := 63) (t := 1) (N := 200) (by decide)
  obtain ⟨b1, hb1⟩ := msh_at h (k := 64) (t := 1) (N := 200) (by decide)
  obtain ⟨c1, hc1⟩ := msh_at h (k := 65) (t := 1) (N := 200) (by decide)
  exact ⟨fun _ => c00, a, b, c, e, a1, b1, c1, ha, hb, hc9, he, ha1, hb1, hc1, fun j hj => absurd hj (Nat.not_lt_zero _)⟩
theorem fcI_sh {f F : xH} {m m1 : Nat → Int} {l : xLs} (h : msh f) (hf : fcI f F m m1 l) : msh F := by
  obtain ⟨⟨c1, c2, c3, U, V, W, D, A, B, C, g48, g49, g50, g51, g56, g57, g58⟩, ⟨A1, B1, C1, D1, E1, G1, H1, k59, k60, k61, k62, k63, k64, k65, _⟩, _⟩ := hf
  intro p hp
  by_cases e : p.1 ∈ fcS
  · have hp2 : p = (48, (1, 3)) ∨ p = (49, (1, 3)) ∨ p = (50, (1, 3)) ∨ p = (51, (1, 3)) ∨ p = (56, (1, 3)) ∨ p = (57, (1, 3)) ∨ p = (58, (1, 3)) ∨ p = (59, (0, 200)) ∨ p = (60, (0, 200)) ∨ p = (61, (0, 200)) ∨ p = (62, (1, 200)) ∨ p = (63, (1, 200)) ∨ p = (64, (1, 200)) ∨ p = (65, (1, 200)) := by
      have key : ∀ p ∈ shL, p.1 ∈ fcS → (p = (48, (1, 3)) ∨ p = (49, (1, 3)) ∨ p = (50, (1, 3)) ∨ p = (51, (1, 3)) ∨ p = (56, (1, 3)) ∨ p = (57, (1, 3)) ∨ p = (58, (1, 3)) ∨ p = (59, (0, 200)) ∨ p = (60, (0, 200)) ∨ p = (61, (0, 200)) ∨ p = (62, (1, 200)) ∨ p = (63, (1, 200)) ∨ p = (64, (1, 200)) ∨ p = (65, (1, 200))) := by decide
      exact key p hp e
    rcases hp2 with rfl | rfl | rfl | rfl | rfl | rfl | rfl | rfl | rfl | rfl | rfl | rfl | rfl | rfl
    · exact ⟨U, g48⟩
    · exact ⟨V, g49⟩
    · exact ⟨W, g50⟩
    · exact ⟨D, g51⟩
    · exact ⟨A, g56⟩
    · exact ⟨B, g57⟩
    · exact ⟨C, g58⟩
    · exact ⟨_, k59⟩
    · exact ⟨_, k60⟩
    · exact ⟨_, k61⟩
    · exact ⟨_, k62⟩
    · exact ⟨_, k63⟩
    · exact ⟨_, k64⟩
    · exact ⟨_, k65⟩
  · obtain ⟨c, hc9⟩ := h p hp
    exact ⟨c, (c1 _ e).trans hc9⟩
section C94
variable {g : xG} {y : xM} {Q : xP} {n : Nat} {f : xH} {th : Int} {bn : Nat} {β : Nat → xBx} {gn : Nat} {σ : Nat → xSt} {d : Nat → Int} {as : List xAc} {ps : Nat} {pb : Nat → Int} {pu : Nat} {pr : Nat → Int}
theorem MS_fc {f1 : xH} {m m1 : Nat → Int} {l : xLs} (h : MS f th bn β gn σ d as ps pb pu pr) (hm : mfd m th bn gn σ d as ps pu) (hf : fcI f f1 m m1 l) : MS f1 th bn β gn σ d as ps pb pu pr ∧ kC f f1 ∧ mfd m1 th bn gn σ d as ps pu := by
  have hsh : msh f := h.choose_spec.2.2.2.2.2.2.2.1
  have c3 := hf.1.2.2.1
  obtain ⟨a1, a2, a3, a4, a5, a6, a7, a8, a9, a10⟩ := hm
  have hm1 : mfd m1 th bn gn σ d as ps pu := ⟨(c3 0 (by omega)).trans a1, (c3 1 (by omega)).trans a2, (c3 6 (by omega)).trans a3, (c3 7 (by omega)).trans a4, (c3 13 (by omega)).trans a5, (c3 14 (by omega)).trans a6, (c3 15 (by omega)).trans a7, (c3 23 (by omega)).trans a8, (c3 42 (by omega)).trans a9, (c3 60 (by omega)).trans a10⟩
  exact ⟨MS_s h hf.1.2.1 hm1 (fcI_sh hsh hf) (fun k q => hf.1.1 k (by simp only [List.mem_cons, List.not_mem_nil, or_false]; omega)), fun k q => hf.1.1 k (by simp only [List.mem_cons, List.not_mem_nil, or_false]; omega), hm1⟩
set_option maxHeartbeats 4000000 in
theorem mct_crossings {a : Int} (h : MS f th bn β gn σ d as ps pb pu pr) (ha : inI a) (h1 : ∀ (s : Nat) f1, a = (s : Int) → s < gn → hrS (σ s) = 1 → MS f1 0 bn β gn σ d as ps pb pu pr → kC f f1 → Q (.inl (some (vI ((mlist d gn σ s).1 : Int)))) n f1) (hx1 : ¬ hre gn σ a → ∀ f1, MS f1 1 bn β gn σ d as ps pb pu pr → kC f f1 → Q (.inl (some (vI 0))) n f1) : xct g M_X10_crossings 0 0 [vR 38, vI a] n f Q := by
  refine xct_of rfl rfl (Nat.le_of_ble_eq_true rfl) ?_
  have S : ∀ F, MS F 0 bn β gn σ d as ps pb pu pr → kC f F → xw g M_X10_crossings Q 0 0 5 [(0, vR 38), (1, vI a)] [] n F := by
    intro F hF kF
    obtain ⟨m, hm, hE⟩ := MS_E hF
    obtain ⟨h38, m6, _, hst, _⟩ := id hE
    have m0 : m 0 = 0 := hm.1
    have T9 := MS_th 1 hF h38 hm
    have hsh : msh F := hF.choose_spec.2.2.2.2.2.2.2.1
    have h40 : hc σ gn ≤ 40 := hF.choose_spec.2.2.2.2.2.2.2.2.1
    refine xw_aload_n dX10_crossings_5 rfl ?_
    refine xw_iload_n dX10_crossings_6 rfl ?_
    refine xw_callV (rc := 0) (rs := 0) (mc2 := 0) (ms2 := 0) (a := 38) (As := [vI a]) (st := []) dX10_crossings_7 mv_X10_213 h38 rfl rfl (by decide) (by decide) (Nat.le_of_ble_eq_true rfl) rfl (ct_isThere h38 m0 m6 hst ha (fun s e1 e2 e3 => ?_) (fun q1 => ?_))
    · skip
      refine xw_ifne (tgt := 15) dX10_crossings_10 (by decide) (by unfold inI; omega) (fun _ => ?_) (fun c => absurd c (by decide))
      refine xw_aload_n dX10_crossings_15 rfl ?_
      subst e1
      refine xw_iload_n dX10_crossings_16 rfl ?_
      refine xw_callV (rc := 0) (rs := 0) (mc2 := 0) (ms2 := 0) (a := 38) (As := [vI (s : Int)]) (st := []) dX10_crossings_17 mv_X10_271 h38 rfl rfl (by decide) (by decide) (Nat.le_of_ble_eq_true rfl) rfl (ct_findC hE e2 h40 (msh_cl hsh) (fun F2 m2 c1 c2 => ?_))
      refine xw_aload_n dX10_crossings_20 rfl ?_
      refine xw_getfield dX10_crossings_21 fl_X10_264 c1.1.2.1 rfl ?_
      refine xw_topi _ c1.2.2.1 ?_
      exact xw_iret dX10_crossings_24 rfl (h1 s F2 rfl e2 e3 (MS_fc hF hm c1).1 (kC_tr kF (MS_fc hF hm c1).2.1))
    · skip
      refine xw_ifne (tgt := 15) dX10_crossings_10 (by decide) (by unfold inI; omega) (fun c => absurd c (by decide)) (fun _ => ?_)
      refine xw_iconst dX10_crossings_13 ?_
      exact xw_iret dX10_crossings_14 rfl (hx1 q1 _ T9.1 (kC_tr kF T9.2))
  obtain ⟨m, h38, hm, _⟩ := id h
  refine xw_aload_n dX10_crossings_0 rfl ?_
  refine xw_iconst dX10_crossings_1 ?_
  refine xw_putfield dX10_crossings_2 (fp_X10_1 _) h38 rfl rfl ?_
  rw [xmd_0]
  exact S _ (MS_th 0 h h38 hm).1 (MS_th 0 h h38 hm).2
set_option maxHeartbeats 4000000 in
theorem mct_crossing {a k w : Int} (h : MS f th bn β gn σ d as ps pb pu pr) (ha : inI a) (hk : inI k) (hw9 : inI w) (h1 : ∀ (s : Nat) f1 r, a = (s : Int) → s < gn → hrS (σ s) = 1 → MS f1 0 bn β gn σ d as ps pb pu pr → kC f f1 → ((¬ (0 ≤ k ∧ k < ((mlist d gn σ s).1 : Int)) ∧ r = -1) ∨ ((0 ≤ k ∧ k < ((mlist d gn σ s).1 : Int)) ∧ crsA ((mlist d gn σ s).2 k.toNat) w r)) → Q (.inl (some (vI r))) n f1) (hx1 : ¬ hre gn σ a → ∀ f1, MS f1 1 bn β gn σ d as ps pb pu pr → kC f f1 → Q (.inl (some (vI 0))) n f1) : xct g M_X10_crossing 0 0 [vR 38, vI a, vI k, vI w] n f Q := by
  refine xct_of rfl rfl (Nat.le_of_ble_eq_true rfl) ?_
  have S : ∀ F, MS F 0 bn β gn σ d as ps pb pu pr → kC f F → xw g M_X10_crossing Q 0 0 5 [(0, vR 38), (1, vI a), (2, vI k), (3, vI w)] [] n F := by
    intro F hF kF
    obtain ⟨m, hm, hE⟩ := MS_E hF
    obtain ⟨h38, m6, _, hst, _⟩ := id hE
    have m0 : m 0 = 0 := hm.1
    have T9 := MS_th 1 hF h38 hm
    have hsh : msh F := hF.choose_spec.2.2.2.2.2.2.2.1
    have h40 : hc σ gn ≤ 40 := hF.choose_spec.2.2.2.2.2.2.2.2.1
    have D : ∀ (s : Nat) (F2 : xH) (m2 : Nat → Int), a = (s : Int) → s < gn → hrS (σ s) = 1 → fcI F F2 m m2 (mlist d gn σ s) → (mlist d gn σ s).1 ≤ 160 → (0 ≤ k ∧ k < ((mlist d gn σ s).1 : Int)) → xw g M_X10_crossing Q 0 0 34 [(0, vR 38), (2, vI k), (3, vI w)] [] n F2 := by
      intro s F2 m2 e1 e2 e3 c1 c2 hkr
      have hM := MS_fc hF hm c1
      have R : ∀ r, crsA ((mlist d gn σ s).2 k.toNat) w r → Q (.inl (some (vI r))) n F2 := fun r hr => h1 s F2 r e1 e2 e3 hM.1 (kC_tr kF hM.2.1) (Or.inr ⟨hkr, hr⟩)
      obtain ⟨⟨d1, d38, d3, d4⟩, ⟨A1, B1, C1, D1, E1, G1, H1, k59, k60, k61, k62, k63, k64, k65, hj⟩, m40, hok⟩ := c1
      have hJ := hj k.toNat (by omega)
      have hO := hok k.toNat (by omega)
      rw [← hJ] at R hO
      rcases (by omega : w = 0 ∨ w = 1 ∨ w = 2 ∨ w = 3 ∨ (w < 0 ∨ 3 < w)) with rfl | rfl | rfl | rfl | hw3
      · refine xw_iload_n dX10_crossing_34 rfl ?_
        refine xw_tin (tgt := 64) dX10_crossing_35 hw9 (by decide) (by decide) rfl (by decide) ?_
        refine xw_aload_n dX10_crossing_64 rfl ?_
        refine xw_getfield dX10_crossing_65 fl_X10_79 d38 rfl ?_
        refine xw_iload_n dX10_crossing_68 rfl ?_
        refine xw_iald dX10_crossing_69 k59 (j := k.toNat) (by omega) (by omega) (by decide) ?_
        exact xw_iret dX10_crossing_70 rfl (R _ (Or.inl ⟨rfl, rfl⟩))
      · refine xw_iload_n dX10_crossing_34 rfl ?_
        refine xw_tin (tgt := 71) dX10_crossing_35 hw9 (by decide) (by decide) rfl (by decide) ?_
        refine xw_aload_n dX10_crossing_71 rfl ?_
        refine xw_getfield dX10_crossing_72 fl_X10_82 d38 rfl ?_
        refine xw_iload_n dX10_crossing_75 rfl ?_
        refine xw_iald dX10_crossing_76 k60 (j := k.toNat) (by omega) (by omega) (by decide) ?_
        exact xw_iret dX10_crossing_77 rfl (R _ (Or.inr (Or.inl ⟨rfl, rfl⟩)))
      · refine xw_iload_n dX10_crossing_34 rfl ?_
        refine xw_tin (tgt := 78) dX10_crossing_35 hw9 (by decide) (by decide) rfl (by decide) ?_
        refine xw_aload_n dX10_crossing_78 rfl ?_
        refine xw_getfield dX10_crossing_79 fl_X10_85 d38 rfl ?_
        refine xw_iload_n dX10_crossing_82 rfl ?_
        refine xw_iald dX10_crossing_83 k61 (j := k.toNat) (by omega) (by omega) (by decide) ?_
        exact xw_iret dX10_crossing_84 rfl (R _ (Or.inr (Or.inr (Or.inl ⟨rfl, rfl⟩))))
      · refine xw_iload_n dX10_crossing_34 rfl ?_
        refine xw_tin (tgt := 85) dX10_crossing_35 hw9 (by decide) (by decide) rfl (by decide) ?_
        have iG : inL (G1 k.toNat) := nb_L hO.2.2.2.1 (by decide)
        refine xw_aload_n dX10_crossing_85 rfl ?_
        refine xw_getfield dX10_crossing_86 fl_X10_94 d38 rfl ?_
        refine xw_iload_n dX10_crossing_89 rfl ?_
        refine xw_lald dX10_crossing_90 k64 (j := k.toNat) (by omega) (by omega) (by decide) ?_
        refine xw_lconst (z := 0) dX10_crossing_91 (by decide) ?_
        refine xw_lcmple (tgt := 100) dX10_crossing_92 dX10_crossing_93 (by decide) iG (by unfold inL; omega) (fun c_92 => ?_) (fun c_92 => ?_)
        · skip
          refine xw_iconst dX10_crossing_100 ?_
          exact xw_iret dX10_crossing_101 rfl (by first
            | exact R 1 (Or.inr (Or.inr (Or.inr (Or.inl ⟨rfl, (if_pos (show 0 < G1 k.toNat by omega)).symm⟩))))
            | exact R 0 (Or.inr (Or.inr (Or.inr (Or.inl ⟨rfl, (if_neg (show ¬ 0 < G1 k.toNat by omega)).symm⟩)))))
        · skip
          refine xw_iconst dX10_crossing_96 ?_
          refine xw_goto (tgt := 101) dX10_crossing_97 (by decide) ?_
          exact xw_iret dX10_crossing_101 rfl (by first
            | exact R 1 (Or.inr (Or.inr (Or.inr (Or.inl ⟨rfl, (if_pos (show 0 < G1 k.toNat by omega)).symm⟩))))
            | exact R 0 (Or.inr (Or.inr (Or.inr (Or.inl ⟨rfl, (if_neg (show ¬ 0 < G1 k.toNat by omega)).symm⟩)))))
      · refine xw_iload_n dX10_crossing_34 rfl ?_
        refine xw_tout (tgt := 102) dX10_crossing_35 hw9 hw3 (by decide) ?_
        refine xw_iconst dX10_crossing_102 ?_
        exact xw_iret dX10_crossing_103 rfl (R _ (Or.inr (Or.inr (Or.inr (Or.inr ⟨hw3, rfl⟩)))))
    refine xw_aload_n dX10_crossing_5 rfl ?_
    refine xw_iload_n dX10_crossing_6 rfl ?_
    refine xw_callV (rc := 0) (rs := 0) (mc2 := 0) (ms2 := 0) (a := 38) (As := [vI a]) (st := []) dX10_crossing_7 mv_X10_213 h38 rfl rfl (by decide) (by decide) (Nat.le_of_ble_eq_true rfl) rfl (ct_isThere h38 m0 m6 hst ha (fun s e1 e2 e3 => ?_) (fun q1 => ?_))
    · skip
      refine xw_ifne (tgt := 15) dX10_crossing_10 (by decide) (by unfold inI; omega) (fun _ => ?_) (fun c => absurd c (by decide))
      refine xw_aload_n dX10_crossing_15 rfl ?_
      subst e1
      refine xw_iload_n dX10_crossing_16 rfl ?_
      refine xw_callV (rc := 0) (rs := 0) (mc2 := 0) (ms2 := 0) (a := 38) (As := [vI (s : Int)]) (st := []) dX10_crossing_17 mv_X10_271 h38 rfl rfl (by decide) (by decide) (Nat.le_of_ble_eq_true rfl) rfl (ct_findC hE e2 h40 (msh_cl hsh) (fun F2 m2 c1 c2 => ?_))
      refine xw_iload_n dX10_crossing_20 rfl ?_
      refine xw_iflt (tgt := 32) dX10_crossing_21 (by decide) (by first | assumption | (unfold inI; omega) | (unfold inI at *; omega)) (fun c_21 => ?_) (fun c_21 => ?_)
      · skip
        refine xw_iconst dX10_crossing_32 ?_
        exact xw_iret dX10_crossing_33 rfl (h1 s F2 _ rfl e2 e3 (MS_fc hF hm c1).1 (kC_tr kF (MS_fc hF hm c1).2.1) (Or.inl ⟨by omega, rfl⟩))
      · skip
        refine xw_iload_n dX10_crossing_24 rfl ?_
        refine xw_aload_n dX10_crossing_25 rfl ?_
        refine xw_getfield dX10_crossing_26 fl_X10_264 c1.1.2.1 rfl ?_
        refine xw_topi _ c1.2.2.1 ?_
        refine xw_icmplt (tgt := 34) dX10_crossing_29 (by decide) (by first | assumption | (unfold inI; omega) | (unfold inI at *; omega)) (by first | assumption | (unfold inI; omega) | (unfold inI at *; omega)) (fun c_29 => ?_) (fun c_29 => ?_)
        · skip
          exact xw_ls [(0, vR 38), (2, vI k), (3, vI w)] ⟨rfl, rfl, rfl, trivial⟩ (D s F2 m2 rfl e2 e3 c1 c2 (by omega))
        · skip
          refine xw_iconst dX10_crossing_32 ?_
          exact xw_iret dX10_crossing_33 rfl (h1 s F2 _ rfl e2 e3 (MS_fc hF hm c1).1 (kC_tr kF (MS_fc hF hm c1).2.1) (Or.inl ⟨by omega, rfl⟩))
    · skip
      refine xw_ifne (tgt := 15) dX10_crossing_10 (by decide) (by unfold inI; omega) (fun c => absurd c (by decide)) (fun _ => ?_)
      refine xw_iconst dX10_crossing_13 ?_
      exact xw_iret dX10_crossing_14 rfl (hx1 q1 _ T9.1 (kC_tr kF T9.2))
  obtain ⟨m, h38, hm, _⟩ := id h
  refine xw_aload_n dX10_crossing_0 rfl ?_
  refine xw_iconst dX10_crossing_1 ?_
  refine xw_putfield dX10_crossing_2 (fp_X10_1 _) h38 rfl rfl ?_
  rw [xmd_0]
  exact S _ (MS_th 0 h h38 hm).1 (MS_th 0 h h38 hm).2
end C94
