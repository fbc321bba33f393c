/-! the model's acts upon sticks -/
theorem mst_set {f1 : xH} {gn s : Nat} {σ : Nat → xSt} {X : xSt} {K M W P Z P1 Z1 : Nat → Int} (hs : s < gn) (hgn : gn ≤ 100) (h : ∀ s, s < gn → okK (σ s) ∧ K s = (σ s).1 ∧ M s = (σ s).2.1 ∧ W s = woS (σ s) ∧ Z s = hrS (σ s) ∧ ∀ j, j < 9 → P (9 * s + j) = ptS (σ s) j) (hX : okK X) (e1 : X.1 = (σ s).1) (e2 : X.2.1 = (σ s).2.1) (e3 : woS X = woS (σ s)) (hP : ∀ j, j < 9 → P1 (9 * s + j) = ptS X j) (hP1 : ∀ j, (j < 9 * s ∨ 9 * s + 9 ≤ j) → P1 j = P j) (hZ : Z1 s = hrS X) (hZ1 : ∀ t, t ≠ s → Z1 t = Z t) (hZ9 : ∀ s, s < 101 → Z s = 0 ∨ Z s = 1) (g43 : f1 43 = some (aI 101 K)) (g44 : f1 44 = some (aI 101 M)) (g45 : f1 45 = some (aI 101 W)) (g46 : f1 46 = some (aI 909 P1)) (g47 : f1 47 = some (aZ 101 Z1)) : mst f1 gn (xui σ s X) := by
  refine ⟨K, M, W, P1, Z1, g43, g44, g45, g46, g47, hgn, fun t ht => ?_, fun t ht => ?_⟩
  · by_cases e : t = s
    · subst e
      rw [xui_s]
      have q := h t ht
      exact ⟨hX, by rw [e1]; exact q.2.1, by rw [e2]; exact q.2.2.1, by rw [e3]; exact q.2.2.2.1, hZ, hP⟩
    · rw [xui_n _ _ e]
      have q := h t ht
      exact ⟨q.1, q.2.1, q.2.2.1, q.2.2.2.1, by rw [hZ1 t e]; exact q.2.2.2.2.1, fun j hj => by rw [hP1 _ (by omega)]; exact q.2.2.2.2.2 j hj⟩
  · by_cases e : t = s
    · subst e
      rw [hZ]
      exact hX.2.2.2.1
    · rw [hZ1 t e]; exact hZ9 t ht
theorem und_tk {σ : Nat → xSt} {s : Nat} (hr : hrS (σ s) = 1) : und (xui σ s (stS (σ s) 0)) (aCt 3 (s : Int) 0 0 0) = σ := by
  have e1 : (aCt 3 (s : Int) 0 0 0).2.1.toNat = s := Int.toNat_natCast s
  unfold und
  rw [e1, if_neg (by show ¬ (3 : Int) = 1; decide), if_neg (by show ¬ (3 : Int) = 2; decide), xui_s]
  funext t
  by_cases e : t = s
  · subst e
    rw [xui_s]
    show stS (stS (σ t) 0) 1 = σ t
    unfold stS
    show ((σ t).1, ((σ t).2.1, ((σ t).2.2.1, ((1 : Int), (σ t).2.2.2.2)))) = σ t
    rw [← hr]
  · rw [xui_n _ _ e, xui_n _ _ e]
theorem und_mv {σ : Nat → xSt} {s : Nat} {x y z : Int} : und (xui σ s (mvS (σ s) x y z)) (aCt 2 (s : Int) x y z) = σ := by
  have e1 : (aCt 2 (s : Int) x y z).2.1.toNat = s := Int.toNat_natCast s
  unfold und
  rw [e1, if_neg (by show ¬ (2 : Int) = 1; decide), if_pos (by show (2 : Int) = 2; rfl), xui_s]
  funext t
  by_cases e : t = s
  · subst e
    rw [xui_s]
    show ((σ t).1, ((σ t).2.1, ((σ t).2.2.1, ((σ t).2.2.2.1, shf (shf (ptS (σ t)) (pcS (σ t) + 1) x y z) (pcS (σ t) + 1) (-x) (-y) (-z))))) = σ t
    rw [shf_bk]
  · rw [xui_n _ _ e, xui_n _ _ e]
section C82
variable {g : xG} {y : xM} {Q : xP} {n : Nat} {f : xH} {th : Int} {bn : Nat} {β : Nat → xBx} {gn : Nat} {σ : Nat → xSt} {d : Nat → Int} {as : List xAc} {ps : Nat} {pb : Nat → Int} {pu : Nat} {pr : Nat → Int}
set_option maxHeartbeats 4000000 in
theorem ct_isThere {z : Int} {m : Nat → Int} (h38 : f 38 = some (oMd m)) (h0 : m 0 = 0) (h6 : m 6 = (gn : Int)) (hst : mst f gn σ) (hz : inI z) (h1 : ∀ s : Nat, z = (s : Int) → s < gn → hrS (σ s) = 1 → Q (.inl (some (vI 1))) n f) (h2 : ¬ hre gn σ z → Q (.inl (some (vI 0))) n (xup f 38 (oMd (xui m 0 1)))) : xct g M_X10_isThere 0 0 [vR 38, vI z] n f Q := by
  refine xct_of rfl rfl (Nat.le_of_ble_eq_true rfl) ?_
  obtain ⟨K, M, W, P, Z, s43, s44, s45, s46, s47, hgn, hall, hz9⟩ := hst
  have E : ∀ gd : Int, (gd = 0 ∨ gd = 1) → (gd = 1 → hre gn σ z) → (gd = 0 → ¬ hre gn σ z) → xw g M_X10_isThere Q 0 0 27 [(0, vR 38), (1, vI z)] [vI gd, vR 38] n f := by
    intro gd hg q1 q2
    refine xw_iconst dX10_isThere_27 ?_
    refine xw_callV (rc := 0) (rs := 0) (mc2 := 0) (ms2 := 0) (a := 38) (As := [vI gd, vI 1]) (st := []) dX10_isThere_28 mv_X10_136 h38 rfl rfl (by decide) (by decide) (Nat.le_of_ble_eq_true rfl) rfl (ct_may h38 h0 hg (by decide) (by unfold inI; omega) (fun e => ?_) (fun e => ?_))
    · skip
      exact xw_zret dX10_isThere_31 rfl rfl (by first | (obtain ⟨s, k1, k2, k3⟩ := q1 e; exact h1 s k1 k2 k3) | exact h2 (q2 e))
    · skip
      exact xw_zret dX10_isThere_31 rfl rfl (by first | (obtain ⟨s, k1, k2, k3⟩ := q1 e; exact h1 s k1 k2 k3) | exact h2 (q2 e))
  by_cases hc9 : 0 ≤ z ∧ z < (gn : Int)
  · obtain ⟨s, rfl⟩ : ∃ s : Nat, z = (s : Int) := ⟨z.toNat, by omega⟩
    have q := hall s (by omega)
    have hzs := hz9 s (by omega)
    refine xw_aload_n dX10_isThere_0 rfl ?_
    refine xw_iload_n dX10_isThere_1 rfl ?_
    refine xw_iflt (tgt := 26) dX10_isThere_2 (by decide) (by first | assumption | (unfold inI; omega) | (unfold inI at *; omega)) (fun c_2 => ?_) (fun c_2 => ?_)
    · skip
      exfalso; omega
    · skip
      refine xw_iload_n dX10_isThere_5 rfl ?_
      refine xw_aload_n dX10_isThere_6 rfl ?_
      refine xw_getfield dX10_isThere_7 fl_X10_181 h38 rfl ?_
      refine xw_topi (gn : Int) h6 ?_
      refine xw_icmpge (tgt := 26) dX10_isThere_10 (by decide) (by first | assumption | (unfold inI; omega) | (unfold inI at *; omega)) (by first | assumption | (unfold inI; omega) | (unfold inI at *; omega)) (fun c_10 => ?_) (fun c_10 => ?_)
      · skip
        exfalso; omega
      · skip
        refine xw_aload_n dX10_isThere_13 rfl ?_
        refine xw_getfield dX10_isThere_14 fl_X10_39 h38 rfl ?_
        refine xw_iload_n dX10_isThere_17 rfl ?_
        refine xw_zald dX10_isThere_18 s47 (j := s) rfl (by omega) (by decide) ?_
        refine xw_ifeq (tgt := 26) dX10_isThere_19 (by decide) (by unfold inI; omega) (fun c_19 => ?_) (fun c_19 => ?_)
        · skip
          refine xw_iconst dX10_isThere_26 ?_
          first
            | exact E 1 (Or.inr rfl) (fun _ => ⟨s, rfl, by omega, by rw [← q.2.2.2.2.1]; omega⟩) (fun k => absurd k (by decide))
            | exact E 0 (Or.inl rfl) (fun k => absurd k (by decide)) (fun _ ⟨t, k1, k2, k3⟩ => by rw [show t = s by omega, ← q.2.2.2.2.1] at k3; omega)
        · skip
          refine xw_iconst dX10_isThere_22 ?_
          refine xw_goto (tgt := 27) dX10_isThere_23 (by decide) ?_
          first
            | exact E 1 (Or.inr rfl) (fun _ => ⟨s, rfl, by omega, by rw [← q.2.2.2.2.1]; omega⟩) (fun k => absurd k (by decide))
            | exact E 0 (Or.inl rfl) (fun k => absurd k (by decide)) (fun _ ⟨t, k1, k2, k3⟩ => by rw [show t = s by omega, ← q.2.2.2.2.1] at k3; omega)
  · skip
    refine xw_aload_n dX10_isThere_0 rfl ?_
    refine xw_iload_n dX10_isThere_1 rfl ?_
    refine xw_iflt (tgt := 26) dX10_isThere_2 (by decide) (by first | assumption | (unfold inI; omega) | (unfold inI at *; omega)) (fun c_2 => ?_) (fun c_2 => ?_)
    · skip
      refine xw_iconst dX10_isThere_26 ?_
      exact E 0 (Or.inl rfl) (fun k => absurd k (by decide)) (fun _ ⟨t, k1, k2, k3⟩ => by omega)
    · skip
      refine xw_iload_n dX10_isThere_5 rfl ?_
      refine xw_aload_n dX10_isThere_6 rfl ?_
      refine xw_getfield dX10_isThere_7 fl_X10_181 h38 rfl ?_
      refine xw_topi (gn : Int) h6 ?_
      refine xw_icmpge (tgt := 26) dX10_isThere_10 (by decide) (by first | assumption | (unfold inI; omega) | (unfold inI at *; omega)) (by first | assumption | (unfold inI; omega) | (unfold inI at *; omega)) (fun c_10 => ?_) (fun c_10 => ?_)
      · skip
        refine xw_iconst dX10_isThere_26 ?_
        exact E 0 (Or.inl rfl) (fun k => absurd k (by decide)) (fun _ ⟨t, k1, k2, k3⟩ => by omega)
      · skip
        exfalso; omega
set_option maxHeartbeats 4000000 in
theorem ct_mtake {s : Nat} (h : MS f 0 bn β gn σ d as ps pb pu pr) (hch : ∀ x ∈ as, x.2.1.toNat < gn) (hs : s < gn) (hr9 : hrS (σ s) = 1) (hq : ∀ f1, MS f1 0 bn β gn (xui σ s (stS (σ s) 0)) d (aCt 3 (s : Int) 0 0 0 :: as.take 7) ps pb pu pr → kC f f1 → Q (.inl none) n f1) : xct g M_X10_take 0 0 [vR 38, vI (s : Int)] n f Q := by
  refine xct_of rfl rfl (Nat.le_of_ble_eq_true rfl) ?_
  obtain ⟨m, h38, hm, hbx, hst, hac, hpg, hpr, hsh, h40, hd1, hd2⟩ := id h
  obtain ⟨m0, m1, m6, m7, m13, m14, m15, m23, m42, m60⟩ := id hm
  obtain ⟨K, M, W, P, Z, s43, s44, s45, s46, s47, hgn, hall, hz9⟩ := id hst
  obtain ⟨A, S, AP, a52, a53, a54, hl8, hai, hap⟩ := id hac
  have hcn := hc_off hr9 (X := stS (σ s) 0) rfl gn
  rw [if_pos hs] at hcn
  have q := hall s hs
  have htl : (as.take 7).length = min as.length 7 := by rw [List.length_take]; omega
  refine xw_aload_n dX10_take_0 rfl ?_
  refine xw_iconst dX10_take_1 ?_
  refine xw_iload_n dX10_take_2 rfl ?_
  refine xw_callV (rc := 0) (rs := 0) (mc2 := 0) (ms2 := 0) (a := 38) (As := [vI 3, vI (s : Int)]) (st := []) dX10_take_3 mv_X10_209 h38 rfl rfl (by decide) (by decide) (Nat.le_of_ble_eq_true rfl) rfl (ct_acted h38 s46 a52 a53 a54 m23 hl8 (by omega) (fun f1 A2 S2 AP2 mm hmm hf1 i38 i52 i53 i54 hA => ?_))
  have j47 : f1 47 = some (aZ 101 Z) := fr_at hf1 s47 (by decide)
  refine xw_aload_n dX10_take_6 rfl ?_
  refine xw_getfield dX10_take_7 fl_X10_39 i38 rfl ?_
  refine xw_iload_n dX10_take_10 rfl ?_
  refine xw_iconst dX10_take_11 ?_
  refine xw_zast dX10_take_12 j47 (j := s) rfl (by omega) (by decide) rfl ?_
  refine xw_aload_n dX10_take_13 rfl ?_
  refine xw_dup dX10_take_14 rfl ?_
  refine xw_getfield dX10_take_15 fl_X10_199 i38 rfl ?_
  refine xw_iconst dX10_take_18 ?_
  refine xw_isub dX10_take_19 ?_
  refine xw_putfield dX10_take_20 (fp_X10_199 _) i38 rfl rfl ?_
  rw [xmd_7]
  exact xw_vret dX10_take_23 rfl (hq _ ⟨xui mm 7 (mm 7 - 1), rfl, ⟨(hmm.2 0 (by decide)).trans m0, (hmm.2 1 (by decide)).trans m1, (hmm.2 6 (by decide)).trans m6, by show mm 7 - 1 = _; rw [hmm.2 7 (by decide), m7]; omega, (hmm.2 13 (by decide)).trans m13, (hmm.2 14 (by decide)).trans m14, (hmm.2 15 (by decide)).trans m15, by show mm 23 = _; rw [hmm.1, List.length_cons, htl], (hmm.2 42 (by decide)).trans m42, (hmm.2 60 (by decide)).trans m60⟩, mbx_fr hbx (fun k q1 q2 => (xup_n _ _ (by omega)).trans ((xup_n _ _ (by omega)).trans (hf1 k (fun q => by simp only [List.mem_cons, List.not_mem_nil, or_false] at q; omega)))), mst_set hs hgn hall (X := stS (σ s) 0) (P1 := P) (Z1 := xui Z s 0) (okK_st q.1 (Or.inl rfl)) rfl rfl rfl q.2.2.2.2.2 (fun _ _ => rfl) (xui_s _ _ _) (fun t ht => xui_n _ _ ht) hz9 (fr_at hf1 s43 (by decide)) (fr_at hf1 s44 (by decide)) (fr_at hf1 s45 (by decide)) (fr_at hf1 s46 (by decide)) rfl, mac_act hl8 hai hap hch (by rw [htl]; exact hA) i52 i53 i54 (fun t _ => by rw [und_tk hr9]) (fun k => absurd k (by decide)), mpg_fr hpg (hf1 66 (by decide)), mpr_fr hpr (hf1 77 (by decide)), msh_o (msh_o (fun p hp => by obtain ⟨c, hc9⟩ := hsh p hp; exact ⟨c, (hf1 p.1 ((by decide : ∀ p ∈ shL, p.1 ∉ [38, 52, 53, 54]) p hp)).trans hc9⟩) (by decide)) (by decide), by omega, hd1, hd2⟩ (kC_up (kC_up (fun k k9 => hf1 k (fun q => by simp only [List.mem_cons, List.not_mem_nil, or_false] at q; omega)) (by decide) (by decide)) (by decide) (by decide)))
set_option maxHeartbeats 4000000 in
theorem mct_away {z : Int} (h : MS f th bn β gn σ d as ps pb pu pr) (hch : ∀ x ∈ as, x.2.1.toNat < gn) (hz : inI z) (h1 : ∀ (s : Nat) f1, z = (s : Int) → s < gn → hrS (σ s) = 1 → MS f1 0 bn β gn (xui σ s (stS (σ s) 0)) d (aCt 3 z 0 0 0 :: as.take 7) ps pb pu pr → kC f f1 → Q (.inl (some (vI (hc (xui σ s (stS (σ s) 0)) gn : Int)))) n f1) (hx1 : ¬ hre gn σ z → ∀ f1, MS f1 1 bn β gn σ d as ps pb pu pr → kC f f1 → Q (.inl (some (vI 0))) n f1) : xct g M_X10_away 0 0 [vR 38, vI z] n f Q := by
  refine xct_of rfl rfl (Nat.le_of_ble_eq_true rfl) ?_
  have S : ∀ F, MS F 0 bn β gn σ d as ps pb pu pr → kC f F → xw g M_X10_away Q 0 0 5 [(0, vR 38), (1, vI z)] [] n F := by
    intro F hF kF
    obtain ⟨m, h38, hm, hbx, hst, hac, hpg, hpr, hsh, h40, hd1, hd2⟩ := id hF
    obtain ⟨m0, m1, m6, m7, m13, m14, m15, m23, m42, m60⟩ := id hm
    have ZZ : ∀ f1, Q (.inl (some (vI 0))) n f1 → xw g M_X10_away Q 0 0 13 [(0, vR 38)] [] n f1 := by
      intro f1 hq
      refine xw_iconst dX10_away_13 ?_
      exact xw_iret dX10_away_14 rfl hq
    refine xw_aload_n dX10_away_5 rfl ?_
    refine xw_iload_n dX10_away_6 rfl ?_
    refine xw_callV (rc := 0) (rs := 0) (mc2 := 0) (ms2 := 0) (a := 38) (As := [vI z]) (st := []) dX10_away_7 mv_X10_213 h38 rfl rfl (by decide) (by decide) (Nat.le_of_ble_eq_true rfl) rfl (ct_isThere h38 m0 m6 hst hz (fun s e1 e2 e3 => ?_) (fun q => ?_))
    · skip
      refine xw_ifne (tgt := 15) dX10_away_10 (by decide) (by unfold inI; omega) (fun _ => ?_) (fun c => absurd c (by decide))
      subst e1
      refine xw_aload_n dX10_away_15 rfl ?_
      refine xw_iload_n dX10_away_16 rfl ?_
      refine xw_callV (rc := 0) (rs := 0) (mc2 := 0) (ms2 := 0) (a := 38) (As := [vI (s : Int)]) (st := []) dX10_away_17 mv_X10_217 h38 rfl rfl (by decide) (by decide) (Nat.le_of_ble_eq_true rfl) rfl (ct_mtake hF hch e2 e3 (fun f1 hf1 k1 => ?_))
      obtain ⟨mm, n38, hmm, _⟩ := id hf1
      refine xw_aload_n dX10_away_20 rfl ?_
      refine xw_getfield dX10_away_21 fl_X10_199 n38 rfl ?_
      refine xw_topi _ hmm.2.2.2.1 ?_
      exact xw_iret dX10_away_24 rfl (h1 s f1 rfl e2 e3 hf1 (kC_tr kF k1))
    · skip
      refine xw_ifne (tgt := 15) dX10_away_10 (by decide) (by unfold inI; omega) (fun c => absurd c (by decide)) (fun _ => ?_)
      exact xw_ls [(0, vR 38)] ⟨rfl, trivial⟩ (ZZ _ (hx1 q _ (MS_th 1 hF h38 hm).1 (kC_tr kF (MS_th 1 hF h38 hm).2)))
  obtain ⟨m, h38, hm, _⟩ := id h
  refine xw_aload_n dX10_away_0 rfl ?_
  refine xw_iconst dX10_away_1 ?_
  refine xw_putfield dX10_away_2 (fp_X10_1 _) h38 rfl rfl ?_
  rw [xmd_0]
  exact S _ (MS_th 0 h h38 hm).1 (MS_th 0 h h38 hm).2
set_option maxHeartbeats 4000000 in
theorem mct_turn {a b c : Int} (h : MS f th bn β gn σ d as ps pb pu pr) (ha : inI a) (hb : inI b) (hc9 : inI c) (h1 : nb a 100 ∧ nb b 100 ∧ nb c 100 → ¬ (a = 0 ∧ b = 0 ∧ c = 0) → ∀ f1, MS f1 0 bn β gn σ (v3 a b c) as ps pb pu pr → kC f f1 → Q (.inl none) n f1) (hx1 : ¬ ((nb a 100 ∧ nb b 100 ∧ nb c 100) ∧ ¬ (a = 0 ∧ b = 0 ∧ c = 0)) → ∀ f1, MS f1 1 bn β gn σ d as ps pb pu pr → kC f f1 → Q (.inl none) n f1) : xct g M_X10_turn 0 0 [vR 38, vI a, vI b, vI c] n f Q := by
  refine xct_of rfl rfl (Nat.le_of_ble_eq_true rfl) ?_
  have S : ∀ F, MS F 0 bn β gn σ d as ps pb pu pr → kC f F → xw g M_X10_turn Q 0 0 5 [(0, vR 38), (1, vI a), (2, vI b), (3, vI c)] [] n F := by
    intro F hF kF
    obtain ⟨m, h38, hm, hbx, hst, hac, hpg, hpr, hsh, h40, hd1, hd2⟩ := id hF
    obtain ⟨m0, m1, m6, m7, m13, m14, m15, m23, m42, m60⟩ := id hm
    have B : ∀ gd : Int, (gd = 0 ∨ gd = 1) → (gd = 1 → ((nb a 100 ∧ nb b 100 ∧ nb c 100) ∧ ¬ (a = 0 ∧ b = 0 ∧ c = 0))) → (gd = 0 → ¬ ((nb a 100 ∧ nb b 100 ∧ nb c 100) ∧ ¬ (a = 0 ∧ b = 0 ∧ c = 0))) → xw g M_X10_turn Q 0 0 71 [(0, vR 38), (1, vI a), (2, vI b), (3, vI c)] [vI gd, vR 38] n F := by
      intro gd hg q1 q2
      refine xw_iconst dX10_turn_71 ?_
      refine xw_callV (rc := 0) (rs := 0) (mc2 := 0) (ms2 := 0) (a := 38) (As := [vI gd, vI 1]) (st := []) dX10_turn_72 mv_X10_136 h38 rfl rfl (by decide) (by decide) (Nat.le_of_ble_eq_true rfl) rfl (ct_may h38 m0 hg (by decide) (by unfold inI; omega) (fun e => ?_) (fun e => ?_))
      · skip
        refine xw_ifne (tgt := 79) dX10_turn_75 (by decide) (by unfold inI; omega) (fun _ => ?_) (fun c => absurd c (by decide))
        refine xw_aload_n dX10_turn_79 rfl ?_
        refine xw_iload_n dX10_turn_80 rfl ?_
        refine xw_putfield dX10_turn_81 (fp_X10_155 _) h38 rfl rfl ?_
        rw [xmd_13]
        refine xw_aload_n dX10_turn_84 rfl ?_
        refine xw_iload_n dX10_turn_85 rfl ?_
        refine xw_putfield dX10_turn_86 (fp_X10_158 _) rfl rfl rfl ?_
        rw [xmd_14]
        refine xw_aload_n dX10_turn_89 rfl ?_
        refine xw_iload_n dX10_turn_90 rfl ?_
        refine xw_putfield dX10_turn_91 (fp_X10_43 _) rfl rfl rfl ?_
        rw [xmd_15]
        exact xw_vret dX10_turn_94 rfl (h1 (q1 e).1 (q1 e).2 _ ⟨xui (xui (xui m 13 a) 14 b) 15 c, rfl, ⟨m0, m1, m6, m7, rfl, rfl, rfl, m23, m42, m60⟩, mbx_fr hbx (fun k q1 q2 => (xup_n _ _ (by omega)).trans ((xup_n _ _ (by omega)).trans (xup_n _ _ (by omega)))), mst_fr hst (fun k q1 q2 => (xup_n _ _ (by omega)).trans ((xup_n _ _ (by omega)).trans (xup_n _ _ (by omega)))), mac_fr hac (fun k q1 q2 => (xup_n _ _ (by omega)).trans ((xup_n _ _ (by omega)).trans (xup_n _ _ (by omega)))), mpg_fr hpg rfl, mpr_fr hpr rfl, msh_o (msh_o (msh_o hsh (by decide)) (by decide)) (by decide), h40, (q1 e).1, (q1 e).2⟩ (kC_up (kC_up (kC_up kF (by decide) (by decide)) (by decide) (by decide)) (by decide) (by decide)))
      · skip
        refine xw_ifne (tgt := 79) dX10_turn_75 (by decide) (by unfold inI; omega) (fun c => absurd c (by decide)) (fun _ => ?_)
        exact xw_vret dX10_turn_78 rfl (hx1 (q2 e) _ (MS_th 1 hF h38 hm).1 (kC_tr kF (MS_th 1 hF h38 hm).2))
    have A : ∀ gd : Int, (gd = 0 ∨ gd = 1) → (gd = 1 → (nb a 100 ∧ nb b 100 ∧ nb c 100)) → (gd = 0 → ¬ (nb a 100 ∧ nb b 100 ∧ nb c 100)) → xw g M_X10_turn Q 0 0 46 [(0, vR 38), (1, vI a), (2, vI b), (3, vI c)] [vI gd] n F := by
      intro gd hg q1 q2
      refine xw_istore dX10_turn_46 (by decide) ?_
      refine xw_aload_n dX10_turn_48 rfl ?_
      refine xw_iload dX10_turn_49 rfl ?_
      refine xw_ifeq (tgt := 70) dX10_turn_51 (by decide) (by unfold inI; omega) (fun c_51 => ?_) (fun c_51 => ?_)
      · skip
        refine xw_iconst dX10_turn_70 ?_
        first
          | exact xw_ls [(0, vR 38), (1, vI a), (2, vI b), (3, vI c)] ⟨rfl, rfl, rfl, rfl, trivial⟩ (B 0 (Or.inl rfl) (fun k => absurd k (by decide)) (fun _ k => q2 (by omega) k.1))
          | exact xw_ls [(0, vR 38), (1, vI a), (2, vI b), (3, vI c)] ⟨rfl, rfl, rfl, rfl, trivial⟩ (B 1 (Or.inr rfl) (fun _ => ⟨q1 (by omega), by omega⟩) (fun k => absurd k (by decide)))
          | exact xw_ls [(0, vR 38), (1, vI a), (2, vI b), (3, vI c)] ⟨rfl, rfl, rfl, rfl, trivial⟩ (B 0 (Or.inl rfl) (fun k => absurd k (by decide)) (fun _ k => k.2 (by omega)))
      · skip
        refine xw_iload_n dX10_turn_54 rfl ?_
        refine xw_ifne (tgt := 66) dX10_turn_55 (by decide) (by first | assumption | (unfold inI; omega) | (unfold inI at *; omega)) (fun c_55 => ?_) (fun c_55 => ?_)
        · skip
          refine xw_iconst dX10_turn_66 ?_
          refine xw_goto (tgt := 71) dX10_turn_67 (by decide) ?_
          first
            | exact xw_ls [(0, vR 38), (1, vI a), (2, vI b), (3, vI c)] ⟨rfl, rfl, rfl, rfl, trivial⟩ (B 0 (Or.inl rfl) (fun k => absurd k (by decide)) (fun _ k => q2 (by omega) k.1))
            | exact xw_ls [(0, vR 38), (1, vI a), (2, vI b), (3, vI c)] ⟨rfl, rfl, rfl, rfl, trivial⟩ (B 1 (Or.inr rfl) (fun _ => ⟨q1 (by omega), by omega⟩) (fun k => absurd k (by decide)))
            | exact xw_ls [(0, vR 38), (1, vI a), (2, vI b), (3, vI c)] ⟨rfl, rfl, rfl, rfl, trivial⟩ (B 0 (Or.inl rfl) (fun k => absurd k (by decide)) (fun _ k => k.2 (by omega)))
        · skip
          refine xw_iload_n dX10_turn_58 rfl ?_
          refine xw_ifne (tgt := 66) dX10_turn_59 (by decide) (by first | assumption | (unfold inI; omega) | (unfold inI at *; omega)) (fun c_59 => ?_) (fun c_59 => ?_)
          · skip
            refine xw_iconst dX10_turn_66 ?_
            refine xw_goto (tgt := 71) dX10_turn_67 (by decide) ?_
            first
              | exact xw_ls [(0, vR 38), (1, vI a), (2, vI b), (3, vI c)] ⟨rfl, rfl, rfl, rfl, trivial⟩ (B 0 (Or.inl rfl) (fun k => absurd k (by decide)) (fun _ k => q2 (by omega) k.1))
              | exact xw_ls [(0, vR 38), (1, vI a), (2, vI b), (3, vI c)] ⟨rfl, rfl, rfl, rfl, trivial⟩ (B 1 (Or.inr rfl) (fun _ => ⟨q1 (by omega), by omega⟩) (fun k => absurd k (by decide)))
              | exact xw_ls [(0, vR 38), (1, vI a), (2, vI b), (3, vI c)] ⟨rfl, rfl, rfl, rfl, trivial⟩ (B 0 (Or.inl rfl) (fun k => absurd k (by decide)) (fun _ k => k.2 (by omega)))
          · skip
            refine xw_iload_n dX10_turn_62 rfl ?_
            refine xw_ifeq (tgt := 70) dX10_turn_63 (by decide) (by first | assumption | (unfold inI; omega) | (unfold inI at *; omega)) (fun c_63 => ?_) (fun c_63 => ?_)
            · skip
              refine xw_iconst dX10_turn_70 ?_
              first
                | exact xw_ls [(0, vR 38), (1, vI a), (2, vI b), (3, vI c)] ⟨rfl, rfl, rfl, rfl, trivial⟩ (B 0 (Or.inl rfl) (fun k => absurd k (by decide)) (fun _ k => q2 (by omega) k.1))
                | exact xw_ls [(0, vR 38), (1, vI a), (2, vI b), (3, vI c)] ⟨rfl, rfl, rfl, rfl, trivial⟩ (B 1 (Or.inr rfl) (fun _ => ⟨q1 (by omega), by omega⟩) (fun k => absurd k (by decide)))
                | exact xw_ls [(0, vR 38), (1, vI a), (2, vI b), (3, vI c)] ⟨rfl, rfl, rfl, rfl, trivial⟩ (B 0 (Or.inl rfl) (fun k => absurd k (by decide)) (fun _ k => k.2 (by omega)))
            · skip
              refine xw_iconst dX10_turn_66 ?_
              refine xw_goto (tgt := 71) dX10_turn_67 (by decide) ?_
              first
                | exact xw_ls [(0, vR 38), (1, vI a), (2, vI b), (3, vI c)] ⟨rfl, rfl, rfl, rfl, trivial⟩ (B 0 (Or.inl rfl) (fun k => absurd k (by decide)) (fun _ k => q2 (by omega) k.1))
                | exact xw_ls [(0, vR 38), (1, vI a), (2, vI b), (3, vI c)] ⟨rfl, rfl, rfl, rfl, trivial⟩ (B 1 (Or.inr rfl) (fun _ => ⟨q1 (by omega), by omega⟩) (fun k => absurd k (by decide)))
                | exact xw_ls [(0, vR 38), (1, vI a), (2, vI b), (3, vI c)] ⟨rfl, rfl, rfl, rfl, trivial⟩ (B 0 (Or.inl rfl) (fun k => absurd k (by decide)) (fun _ k => k.2 (by omega)))
    unfold nb at A
    refine xw_iload_n dX10_turn_5 rfl ?_
    refine xw_bipush (z := -100) dX10_turn_6 (by decide) ?_
    refine xw_icmplt (tgt := 45) dX10_turn_8 (by decide) (by first | assumption | (unfold inI; omega) | (unfold inI at *; omega)) (by first | assumption | (unfold inI; omega) | (unfold inI at *; omega)) (fun c_8 => ?_) (fun c_8 => ?_)
    · skip
      refine xw_iconst dX10_turn_45 ?_
      first
        | exact A 1 (Or.inr rfl) (fun _ => by omega) (fun k => absurd k (by decide))
        | exact A 0 (Or.inl rfl) (fun k => absurd k (by decide)) (fun _ => by omega)
    · skip
      refine xw_iload_n dX10_turn_11 rfl ?_
      refine xw_bipush (z := 100) dX10_turn_12 (by decide) ?_
      refine xw_icmpgt (tgt := 45) dX10_turn_14 (by decide) (by first | assumption | (unfold inI; omega) | (unfold inI at *; omega)) (by first | assumption | (unfold inI; omega) | (unfold inI at *; omega)) (fun c_14 => ?_) (fun c_14 => ?_)
      · skip
        refine xw_iconst dX10_turn_45 ?_
        first
          | exact A 1 (Or.inr rfl) (fun _ => by omega) (fun k => absurd k (by decide))
          | exact A 0 (Or.inl rfl) (fun k => absurd k (by decide)) (fun _ => by omega)
      · skip
        refine xw_iload_n dX10_turn_17 rfl ?_
        refine xw_bipush (z := -100) dX10_turn_18 (by decide) ?_
        refine xw_icmplt (tgt := 45) dX10_turn_20 (by decide) (by first | assumption | (unfold inI; omega) | (unfold inI at *; omega)) (by first | assumption | (unfold inI; omega) | (unfold inI at *; omega)) (fun c_20 => ?_) (fun c_20 => ?_)
        · skip
          refine xw_iconst dX10_turn_45 ?_
          first
            | exact A 1 (Or.inr rfl) (fun _ => by omega) (fun k => absurd k (by decide))
            | exact A 0 (Or.inl rfl) (fun k => absurd k (by decide)) (fun _ => by omega)
        · skip
          refine xw_iload_n dX10_turn_23 rfl ?_
          refine xw_bipush (z := 100) dX10_turn_24 (by decide) ?_
          refine xw_icmpgt (tgt := 45) dX10_turn_26 (by decide) (by first | assumption | (unfold inI; omega) | (unfold inI at *; omega)) (by first | assumption | (unfold inI; omega) | (unfold inI at *; omega)) (fun c_26 => ?_) (fun c_26 => ?_)
          · skip
            refine xw_iconst dX10_turn_45 ?_
            first
              | exact A 1 (Or.inr rfl) (fun _ => by omega) (fun k => absurd k (by decide))
              | exact A 0 (Or.inl rfl) (fun k => absurd k (by decide)) (fun _ => by omega)
          · skip
            refine xw_iload_n dX10_turn_29 rfl ?_
            refine xw_bipush (z := -100) dX10_turn_30 (by decide) ?_
            refine xw_icmplt (tgt := 45) dX10_turn_32 (by decide) (by first | assumption | (unfold inI; omega) | (unfold inI at *; omega)) (by first | assumption | (unfold inI; omega) | (unfold inI at *; omega)) (fun c_32 => ?_) (fun c_32 => ?_)
            · skip
              refine xw_iconst dX10_turn_45 ?_
              first
                | exact A 1 (Or.inr rfl) (fun _ => by omega) (fun k => absurd k (by decide))
                | exact A 0 (Or.inl rfl) (fun k => absurd k (by decide)) (fun _ => by omega)
            · skip
              refine xw_iload_n dX10_turn_35 rfl ?_
              refine xw_bipush (z := 100) dX10_turn_36 (by decide) ?_
              refine xw_icmpgt (tgt := 45) dX10_turn_38 (by decide) (by first | assumption | (unfold inI; omega) | (unfold inI at *; omega)) (by first | assumption | (unfold inI; omega) | (unfold inI at *; omega)) (fun c_38 => ?_) (fun c_38 => ?_)
              · skip
                refine xw_iconst dX10_turn_45 ?_
                first
                  | exact A 1 (Or.inr rfl) (fun _ => by omega) (fun k => absurd k (by decide))
                  | exact A 0 (Or.inl rfl) (fun k => absurd k (by decide)) (fun _ => by omega)
              · skip
                refine xw_iconst dX10_turn_41 ?_
                refine xw_goto (tgt := 46) dX10_turn_42 (by decide) ?_
                first
                  | exact A 1 (Or.inr rfl) (fun _ => by omega) (fun k => absurd k (by decide))
                  | exact A 0 (Or.inl rfl) (fun k => absurd k (by decide)) (fun _ => by omega)
  obtain ⟨m, h38, hm, _⟩ := id h
  refine xw_aload_n dX10_turn_0 rfl ?_
  refine xw_iconst dX10_turn_1 ?_
  refine xw_putfield dX10_turn_2 (fp_X10_1 _) h38 rfl rfl ?_
  rw [xmd_0]
  exact S _ (MS_th 0 h h38 hm).1 (MS_th 0 h h38 hm).2
set_option maxHeartbeats 4000000 in
theorem mct_after {z : Int} (h : MS f th bn β gn σ d as ps pb pu pr) (hz : inI z) (hq : ∀ f1 r, MS f1 0 bn (β) gn σ d as ps pb pu pr → kC f f1 → aftR gn σ z r → Q (.inl (some (vI r))) n f1) : xct g M_X10_after 0 0 [vR 38, vI z] n f Q := by
  refine xct_of rfl rfl (Nat.le_of_ble_eq_true rfl) ?_
  have S : ∀ F, MS F 0 bn β gn σ d as ps pb pu pr → kC f F → xw g M_X10_after Q 0 0 5 [(0, vR 38), (1, vI z)] [] n F := by
    intro F hF kF
    obtain ⟨m, h38, hm, hbx, hst, hac, hpg, hpr, hsh, h40, hd1, hd2⟩ := id hF
    obtain ⟨m0, m1, m6, m7, m13, m14, m15, m23, m42, m60⟩ := id hm
    obtain ⟨K, M, W, P, Z, s43, s44, s45, s46, s47, hgn, hall, hz9⟩ := id hst
    have L : ∀ (j o : Nat), (o + j = gn ∨ (gn ≤ o ∧ j = 0)) → (∀ t : Nat, t < o → z < (t : Int) → t < gn → hrS (σ t) ≠ 1) → (∀ t : Nat, o ≤ t → t < gn → z < (t : Int)) → (o : Int) ≤ 2147483647 → xw g M_X10_after Q 0 0 30 [(0, vR 38), (2, vI (o : Int))] [] n F := by
      intro j
      induction j with
      | zero =>
        intro o ho hi hj hk
        refine xw_iload_n dX10_after_30 rfl ?_
        refine xw_aload_n dX10_after_31 rfl ?_
        refine xw_getfield dX10_after_32 fl_X10_181 h38 rfl ?_
        refine xw_topi (gn : Int) m6 ?_
        refine xw_icmpge (tgt := 55) dX10_after_35 (by decide) (by first | assumption | (unfold inI; omega) | (unfold inI at *; omega)) (by first | assumption | (unfold inI; omega) | (unfold inI at *; omega)) (fun c_35 => ?_) (fun c_35 => ?_)
        · skip
          refine xw_iconst dX10_after_55 ?_
          exact xw_iret dX10_after_56 rfl (hq F (-1) hF kF (Or.inl ⟨rfl, fun t ht hzt => hi t (by omega) hzt ht⟩))
        · skip
          exfalso; omega
      | succ j ih =>
        intro o ho hi hj hk
        have q := hall o (by omega)
        have hzo := hz9 o (by omega)
        refine xw_iload_n dX10_after_30 rfl ?_
        refine xw_aload_n dX10_after_31 rfl ?_
        refine xw_getfield dX10_after_32 fl_X10_181 h38 rfl ?_
        refine xw_topi (gn : Int) m6 ?_
        refine xw_icmpge (tgt := 55) dX10_after_35 (by decide) (by first | assumption | (unfold inI; omega) | (unfold inI at *; omega)) (by first | assumption | (unfold inI; omega) | (unfold inI at *; omega)) (fun c_35 => ?_) (fun c_35 => ?_)
        · skip
          exfalso; omega
        · skip
          refine xw_aload_n dX10_after_38 rfl ?_
          refine xw_getfield dX10_after_39 fl_X10_39 h38 rfl ?_
          refine xw_iload_n dX10_after_42 rfl ?_
          refine xw_zald dX10_after_43 s47 (j := o) rfl (by omega) (by decide) ?_
          refine xw_ifeq (tgt := 49) dX10_after_44 (by decide) (by unfold inI; omega) (fun c_44 => ?_) (fun c_44 => ?_)
          · skip
            refine xw_iinc dX10_after_49 rfl (by decide) ?_
            refine xw_goto (tgt := 30) dX10_after_52 (by decide) ?_
            exact xw_ls [(0, vR 38), (2, vI ((o + 1 : Nat) : Int))] ⟨rfl, rfl, trivial⟩ (ih (o + 1) (by omega) (fun t ht hzt htg => by
                by_cases e : t = o
                · subst e; rw [← q.2.2.2.2.1]; omega
                · exact hi t (by omega) hzt htg) (fun t ht htg => hj t (by omega) htg) (by omega))
          · skip
            refine xw_iload_n dX10_after_47 rfl ?_
            exact xw_iret dX10_after_48 rfl (hq F o hF kF (Or.inr ⟨o, by omega, rfl, hj o (Nat.le_refl _) (by omega), by rw [← q.2.2.2.2.1]; omega, fun t ht hzt => hi t ht hzt (by omega)⟩))
    have St : ∀ o : Nat, (∀ t : Nat, t < o → z < (t : Int) → t < gn → False) → (∀ t : Nat, o ≤ t → t < gn → z < (t : Int)) → (o : Int) ≤ 2147483647 → xw g M_X10_after Q 0 0 29 [(0, vR 38), (1, vI z)] [vI (o : Int)] n F := by
      intro o k1 k2 k3
      refine xw_istore_n dX10_after_29 (by decide) ?_
      exact xw_ls [(0, vR 38), (2, vI (o : Int))] ⟨rfl, rfl, trivial⟩ (L (gn - o) o (by omega) (fun t a b c => (k1 t a b c).elim) k2 k3)
    have hzu := hz
    unfold inI at hzu
    refine xw_iload_n dX10_after_5 rfl ?_
    refine xw_ifge (tgt := 13) dX10_after_6 (by decide) (by first | assumption | (unfold inI; omega) | (unfold inI at *; omega)) (fun c_6 => ?_) (fun c_6 => ?_)
    · skip
      refine xw_iload_n dX10_after_13 rfl ?_
      refine xw_ldc (z := 2147483647) dX10_after_14 kc_X10_224 (by decide) ?_
      refine xw_icmpne (tgt := 26) dX10_after_16 (by decide) hz (by unfold inI; omega) (fun c_16 => ?_) (fun c_16 => ?_)
      · skip
        refine xw_iload_n dX10_after_26 rfl ?_
        refine xw_iconst dX10_after_27 ?_
        refine xw_iadd dX10_after_28 ?_
        first
          | exact St 0 (fun t a _ _ => absurd a (Nat.not_lt_zero t)) (fun t _ _ => by omega) (by omega)
          | exact xw_topi (gn : Int) m6 (St gn (fun t a b c => by omega) (fun t a _ => by omega) (by omega))
          | exact xw_topi ((z.toNat + 1 : Nat) : Int) (by omega) (St (z.toNat + 1) (fun t a b c => by omega) (fun t a _ => by omega) (by omega))
      · skip
        refine xw_aload_n dX10_after_19 rfl ?_
        refine xw_getfield dX10_after_20 fl_X10_181 h38 rfl ?_
        refine xw_goto (tgt := 29) dX10_after_23 (by decide) ?_
        first
          | exact St 0 (fun t a _ _ => absurd a (Nat.not_lt_zero t)) (fun t _ _ => by omega) (by omega)
          | exact xw_topi (gn : Int) m6 (St gn (fun t a b c => by omega) (fun t a _ => by omega) (by omega))
          | exact xw_topi ((z.toNat + 1 : Nat) : Int) (by omega) (St (z.toNat + 1) (fun t a b c => by omega) (fun t a _ => by omega) (by omega))
    · skip
      refine xw_iconst dX10_after_9 ?_
      refine xw_goto (tgt := 29) dX10_after_10 (by decide) ?_
      first
        | exact St 0 (fun t a _ _ => absurd a (Nat.not_lt_zero t)) (fun t _ _ => by omega) (by omega)
        | exact xw_topi (gn : Int) m6 (St gn (fun t a b c => by omega) (fun t a _ => by omega) (by omega))
        | exact xw_topi ((z.toNat + 1 : Nat) : Int) (by omega) (St (z.toNat + 1) (fun t a b c => by omega) (fun t a _ => by omega) (by omega))
  obtain ⟨m, h38, hm, _⟩ := id h
  refine xw_aload_n dX10_after_0 rfl ?_
  refine xw_iconst dX10_after_1 ?_
  refine xw_putfield dX10_after_2 (fp_X10_1 _) h38 rfl rfl ?_
  rw [xmd_0]
  exact S _ (MS_th 0 h h38 hm).1 (MS_th 0 h h38 hm).2
end C82
