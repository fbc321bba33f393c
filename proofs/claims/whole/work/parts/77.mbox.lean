/-! the model's boxes, proof and page -/
theorem MS_th {f : xH} {th : Int} {bn : Nat} {β : Nat → xBx} {gn : Nat} {σ : Nat → xSt} {d : Nat → Int} {as : List xAc} {ps : Nat} {pb : Nat → Int} {pu : Nat} {pr : Nat → Int} {m : Nat → Int} (x : Int) (h : MS f th bn β gn σ d as ps pb pu pr) (h38 : f 38 = some (oMd m)) (hm : mfd m th bn gn σ d as ps pu) : MS (xup f 38 (oMd (xui m 0 x))) x bn β gn σ d as ps pb pu pr ∧ kC f (xup f 38 (oMd (xui m 0 x))) := by
  obtain ⟨m9, a1, a2, a3, a4, a5, a6, a7, a8, a9⟩ := id h
  exact ⟨MS_s h (xup_s _ _ _) ⟨rfl, hm.2⟩ (msh_o a8 (by decide)) (fun k q => xup_n _ _ (by omega)), kC_up (kC_rf f) (by decide) (by decide)⟩
theorem oMd_0 {f : xH} {m m1 : Nat → Int} (h : f 38 = some (oMd m)) (h1 : f 38 = some (oMd m1)) : (m 1 = m1 1) := by
  have e := Option.some.inj (h.symm.trans h1)
  have e2 := congrArg (fun e : xE => match e with | .inr o => o.2 1 | .inl _ => vN) e
  exact Sum.inl.inj e2
/-- m values are written from place a on -/
def stf (c : Nat → Int) (a m : Nat) (v : Nat → Int) : Nat → Int := fun t => if a ≤ t ∧ t < a + m then v (t - a) else c t
theorem stf_0 (c : Nat → Int) (a : Nat) (v : Nat → Int) : stf c a 0 v = c := by
  funext t; unfold stf; rw [if_neg (by omega)]
theorem stf_s (c : Nat → Int) (a i : Nat) (v : Nat → Int) : xui (stf c a i v) (a + i) (v i) = stf c a (i + 1) v := by
  funext t
  unfold xui stf
  by_cases e : t = a + i
  · rw [if_pos e, if_pos (by omega), show t - a = i by omega]
  · rw [if_neg e]
    by_cases e2 : a ≤ t ∧ t < a + i
    · rw [if_pos e2, if_pos (by omega)]
    · rw [if_neg e2, if_neg (by omega)]
theorem stf_in {c : Nat → Int} {a m : Nat} {v : Nat → Int} {j : Nat} (h : j < m) : stf c a m v (a + j) = v j := by
  unfold stf; rw [if_pos (by omega), show a + j - a = j by omega]
theorem stf_out {c : Nat → Int} {a m : Nat} {v : Nat → Int} {t : Nat} (h : ¬ (a ≤ t ∧ t < a + m)) : stf c a m v t = c t := by
  unfold stf; rw [if_neg h]
theorem mbx_set {f1 : xH} {bn b : Nat} {β : Nat → xBx} {x : xBx} {W R U R1 U1 : Nat → Int} (hb : b < bn) (hbn : bn ≤ 8) (h1 : ∀ b, b < bn → okB (β b) ∧ W b = (β b).1 ∧ (∀ k, k < 20 → R (20 * b + k) = (β b).2.2 k) ∧ ∀ j, j < 600 → U (600 * b + j) = (β b).2.1 j) (h2 : ∀ b, b < 8 → bn ≤ b → (∀ k, k < 20 → R (20 * b + k) = -1) ∧ ∀ j, j < 600 → U (600 * b + j) = 0) (hx : okB x) (hx1 : x.1 = (β b).1) (hR : ∀ k, k < 20 → R1 (20 * b + k) = x.2.2 k) (hR1 : ∀ j, (j < 20 * b ∨ 20 * b + 20 ≤ j) → R1 j = R j) (hU : ∀ j, j < 600 → U1 (600 * b + j) = x.2.1 j) (hU1 : ∀ j, (j < 600 * b ∨ 600 * b + 600 ≤ j) → U1 j = U j) (g39 : f1 39 = some (aI 8 W)) (g40 : f1 40 = some (aI 160 R1)) (g41 : f1 41 = some (aL 4800 U1)) : mbx f1 bn (xui β b x) := by
  refine ⟨W, R1, U1, g39, g40, g41, hbn, fun c hc9 => ?_, fun c c8 hc9 => ?_⟩
  · by_cases e : c = b
    · subst e
      rw [xui_s]
      exact ⟨hx, by rw [hx1]; exact (h1 c hc9).2.1, hR, hU⟩
    · rw [xui_n _ _ e]
      have q := h1 c hc9
      exact ⟨q.1, q.2.1, fun k hk => by rw [hR1 _ (by omega)]; exact q.2.2.1 k hk, fun j hj => by rw [hU1 _ (by omega)]; exact q.2.2.2 j hj⟩
  · have q := h2 c c8 hc9
    exact ⟨fun k hk => by rw [hR1 _ (by omega)]; exact q.1 k hk, fun j hj => by rw [hU1 _ (by omega)]; exact q.2 j hj⟩
section C77
variable {g : xG} {y : xM} {Q : xP} {n : Nat} {f : xH} {th : Int} {bn : Nat} {β : Nat → xBx} {gn : Nat} {σ : Nat → xSt} {d : Nat → Int} {as : List xAc} {ps : Nat} {pb : Nat → Int} {pu : Nat} {pr : Nat → Int}
set_option maxHeartbeats 4000000 in
theorem mct_box {w : Int} (h : MS f th bn β gn σ d as ps pb pu pr) (hz : inI w) (h1 : (0 ≤ w ∧ w ≤ 2) → bn < 8 → ∀ f1, MS f1 0 (bn + 1) (xui β bn (nbx w)) gn σ d as ps pb pu pr → kC f f1 → Q (.inl (some (vI (bn : Int)))) n f1) (hx1 : ¬ (0 ≤ w ∧ w ≤ 2) → ∀ f1, MS f1 1 bn β gn σ d as ps pb pu pr → kC f f1 → Q (.inl (some (vI 0))) n f1) (hx2 : (0 ≤ w ∧ w ≤ 2) → ¬ bn < 8 → ∀ f1, MS f1 2 bn β gn σ d as ps pb pu pr → kC f f1 → Q (.inl (some (vI 0))) n f1) : xct g M_X10_box 0 0 [vR 38, vI w] n f Q := by
  refine xct_of rfl rfl (Nat.le_of_ble_eq_true rfl) ?_
  have S : ∀ F, MS F 0 bn β gn σ d as ps pb pu pr → kC f F → xw g M_X10_box Q 0 0 5 [(0, vR 38), (1, vI w)] [] n F := by
    intro F hF kF
    obtain ⟨m, h38, hm, hbx, hst, hac, hpg, hpr, hsh, h40, hd1, hd2⟩ := id hF
    obtain ⟨m0, m1, m6, m7, m13, m14, m15, m23, m42, m60⟩ := id hm
    obtain ⟨W, R, U, b39, b40, b41, bb, b1, b2⟩ := id hbx
    have E : (0 ≤ w ∧ w ≤ 2) → bn < 8 → xw g M_X10_box Q 0 0 51 [(0, vR 38), (1, vI w)] [] n F := by
      intro q1 q2
      have hnew : ∀ b, b < bn + 1 → okB (xui β bn (nbx w) b) ∧ xui W bn w b = (xui β bn (nbx w) b).1 ∧ (∀ k, k < 20 → R (20 * b + k) = (xui β bn (nbx w) b).2.2 k) ∧ ∀ j, j < 600 → U (600 * b + j) = (xui β bn (nbx w) b).2.1 j := by
        intro b hb9
        by_cases e : b = bn
        · subst e
          rw [xui_s, xui_s]
          have q := b2 b q2 (Nat.le_refl _)
          exact ⟨⟨q1, fun k hk => by show -1 ≤ (-1 : Int) ∧ (-1 : Int) ≤ 30; omega, fun j hj => by show inL 0; unfold inL; omega⟩, rfl, q.1, q.2⟩
        · rw [xui_n _ _ e, xui_n _ _ e]
          exact b1 b (by omega)
      refine xw_aload_n dX10_box_51 rfl ?_
      refine xw_getfield dX10_box_52 fl_X10_13 h38 rfl ?_
      refine xw_aload_n dX10_box_55 rfl ?_
      refine xw_getfield dX10_box_56 fl_X10_140 h38 rfl ?_
      refine xw_iload_n dX10_box_59 rfl ?_
      refine xw_iast dX10_box_60 b39 (j := bn) m1 (by omega) (by decide) ?_
      refine xw_aload_n dX10_box_61 rfl ?_
      refine xw_dup dX10_box_62 rfl ?_
      refine xw_getfield dX10_box_63 fl_X10_140 h38 rfl ?_
      refine xw_iconst dX10_box_66 ?_
      refine xw_iadd dX10_box_67 ?_
      refine xw_putfield dX10_box_68 (fp_X10_140 _) h38 rfl rfl ?_
      rw [xmd_1]
      refine xw_aload_n dX10_box_71 rfl ?_
      refine xw_getfield dX10_box_72 fl_X10_140 rfl rfl ?_
      refine xw_iconst dX10_box_75 ?_
      refine xw_isub dX10_box_76 ?_
      refine xw_topi (bn : Int) (by show m 1 + 1 - 1 = _; omega) ?_
      exact xw_iret dX10_box_77 rfl (h1 q1 q2 _ ⟨xui m 1 (m 1 + 1), rfl, ⟨m0, by show m 1 + 1 = _; omega, m6, m7, m13, m14, m15, m23, m42, m60⟩, ⟨xui W bn w, R, U, rfl, b40, b41, by omega, hnew, fun b hb8 hb9 => b2 b hb8 (by omega)⟩, mst_fr hst (fun k q1 q2 => (xup_n _ _ (by omega)).trans (xup_n _ _ (by omega))), mac_fr hac (fun k q1 q2 => (xup_n _ _ (by omega)).trans (xup_n _ _ (by omega))), mpg_fr hpg rfl, mpr_fr hpr rfl, msh_o (msh_o hsh (by decide)) (by decide), h40, hd1, hd2⟩ (kC_up (kC_up kF (by decide) (by decide)) (by decide) (by decide)))
    have Z : ∀ f1, Q (.inl (some (vI 0))) n f1 → xw g M_X10_box Q 0 0 49 [(0, vR 38), (1, vI w)] [] n f1 := by
      intro f1 hq
      refine xw_iconst dX10_box_49 ?_
      exact xw_iret dX10_box_50 rfl hq
    have B : ∀ gd : Int, (0 ≤ w ∧ w ≤ 2) → (gd = 0 ∨ gd = 1) → (gd = 1 → bn < 8) → (gd = 0 → ¬ bn < 8) → xw g M_X10_box Q 0 0 42 [(0, vR 38), (1, vI w)] [vI gd, vR 38] n F := by
      intro gd q0 hg q1 q2
      refine xw_iconst dX10_box_42 ?_
      refine xw_callV (rc := 0) (rs := 0) (mc2 := 0) (ms2 := 0) (a := 38) (As := [vI gd, vI 2]) (st := []) dX10_box_43 mv_X10_136 h38 rfl rfl (by decide) (by decide) (Nat.le_of_ble_eq_true rfl) rfl (ct_may h38 m0 hg (by decide) (by unfold inI; omega) (fun e => ?_) (fun e => ?_))
      · skip
        refine xw_ifne (tgt := 51) dX10_box_46 (by decide) (by unfold inI; omega) (fun _ => ?_) (fun c => absurd c (by decide))
        exact E q0 (q1 e)
      · skip
        refine xw_ifne (tgt := 51) dX10_box_46 (by decide) (by unfold inI; omega) (fun c => absurd c (by decide)) (fun _ => ?_)
        exact Z _ (hx2 q0 (q2 e) _ (MS_th 2 hF h38 hm).1 (kC_tr kF (MS_th 2 hF h38 hm).2))
    have A : ∀ gd : Int, (gd = 0 ∨ gd = 1) → (gd = 1 → (0 ≤ w ∧ w ≤ 2)) → (gd = 0 → ¬ (0 ≤ w ∧ w ≤ 2)) → xw g M_X10_box Q 0 0 20 [(0, vR 38), (1, vI w)] [vI gd, vR 38] n F := by
      intro gd hg q1 q2
      refine xw_iconst dX10_box_20 ?_
      refine xw_callV (rc := 0) (rs := 0) (mc2 := 0) (ms2 := 0) (a := 38) (As := [vI gd, vI 1]) (st := []) dX10_box_21 mv_X10_136 h38 rfl rfl (by decide) (by decide) (Nat.le_of_ble_eq_true rfl) rfl (ct_may h38 m0 hg (by decide) (by unfold inI; omega) (fun e => ?_) (fun e => ?_))
      · skip
        refine xw_ifeq (tgt := 49) dX10_box_24 (by decide) (by unfold inI; omega) (fun c => absurd c (by decide)) (fun _ => ?_)
        refine xw_aload_n dX10_box_27 rfl ?_
        refine xw_aload_n dX10_box_28 rfl ?_
        refine xw_getfield dX10_box_29 fl_X10_140 h38 rfl ?_
        refine xw_bipush (z := 8) dX10_box_32 (by decide) ?_
        refine xw_ls [(0, vR 38), (1, vI w)] ⟨rfl, rfl, trivial⟩ ?_
        refine xw_stk [vI 8, vI (bn : Int), vR 38] (by rw [← m1]; rfl) ?_
        refine xw_icmpge (tgt := 41) dX10_box_34 (by decide) (by first | assumption | (unfold inI; omega) | (unfold inI at *; omega)) (by first | assumption | (unfold inI; omega) | (unfold inI at *; omega)) (fun c_34 => ?_) (fun c_34 => ?_)
        · skip
          refine xw_iconst dX10_box_41 ?_
          first | exact B 1 (q1 e) (Or.inr rfl) (fun _ => by omega) (fun q => absurd q (by decide)) | exact B 0 (q1 e) (Or.inl rfl) (fun q => absurd q (by decide)) (fun _ => by omega)
        · skip
          refine xw_iconst dX10_box_37 ?_
          refine xw_goto (tgt := 42) dX10_box_38 (by decide) ?_
          first | exact B 1 (q1 e) (Or.inr rfl) (fun _ => by omega) (fun q => absurd q (by decide)) | exact B 0 (q1 e) (Or.inl rfl) (fun q => absurd q (by decide)) (fun _ => by omega)
      · skip
        refine xw_ifeq (tgt := 49) dX10_box_24 (by decide) (by unfold inI; omega) (fun _ => ?_) (fun c => absurd c (by decide))
        exact Z _ (hx1 (q2 e) _ (MS_th 1 hF h38 hm).1 (kC_tr kF (MS_th 1 hF h38 hm).2))
    refine xw_aload_n dX10_box_5 rfl ?_
    refine xw_iload_n dX10_box_6 rfl ?_
    refine xw_iflt (tgt := 19) dX10_box_7 (by decide) (by first | assumption | (unfold inI; omega) | (unfold inI at *; omega)) (fun c_7 => ?_) (fun c_7 => ?_)
    · skip
      refine xw_iconst dX10_box_19 ?_
      first | exact A 1 (Or.inr rfl) (fun _ => by omega) (fun q => absurd q (by decide)) | exact A 0 (Or.inl rfl) (fun q => absurd q (by decide)) (fun _ => by omega)
    · skip
      refine xw_iload_n dX10_box_10 rfl ?_
      refine xw_iconst dX10_box_11 ?_
      refine xw_icmpgt (tgt := 19) dX10_box_12 (by decide) (by first | assumption | (unfold inI; omega) | (unfold inI at *; omega)) (by first | assumption | (unfold inI; omega) | (unfold inI at *; omega)) (fun c_12 => ?_) (fun c_12 => ?_)
      · skip
        refine xw_iconst dX10_box_19 ?_
        first | exact A 1 (Or.inr rfl) (fun _ => by omega) (fun q => absurd q (by decide)) | exact A 0 (Or.inl rfl) (fun q => absurd q (by decide)) (fun _ => by omega)
      · skip
        refine xw_iconst dX10_box_15 ?_
        refine xw_goto (tgt := 20) dX10_box_16 (by decide) ?_
        first | exact A 1 (Or.inr rfl) (fun _ => by omega) (fun q => absurd q (by decide)) | exact A 0 (Or.inl rfl) (fun q => absurd q (by decide)) (fun _ => by omega)
  obtain ⟨m, h38, hm, _⟩ := id h
  refine xw_aload_n dX10_box_0 rfl ?_
  refine xw_iconst dX10_box_1 ?_
  refine xw_putfield dX10_box_2 (fp_X10_1 _) h38 rfl rfl ?_
  rw [xmd_0]
  exact S _ (MS_th 0 h h38 hm).1 (MS_th 0 h h38 hm).2
set_option maxHeartbeats 4000000 in
theorem mct_row {z w x : Int} (h : MS f th bn β gn σ d as ps pb pu pr) (hz : inI z) (hw9 : inI w) (hx9 : inI x) (h1 : ∀ b k : Nat, z = (b : Int) → w = (k : Int) → b < bn → k < 20 → (0 ≤ x ∧ x ≤ 30) → ∀ f1, MS f1 0 bn (xui β b ((β b).1, (zrow (β b).2.1 k 30, xui (β b).2.2 k x))) gn σ d as ps pb pu pr → kC f f1 → Q (.inl (some (vI x))) n f1) (h2 : ∀ b k : Nat, z = (b : Int) → w = (k : Int) → b < bn → k < 20 → ¬ (0 ≤ x ∧ x ≤ 30) → ∀ f1, MS f1 0 bn (β) gn σ d as ps pb pu pr → kC f f1 → Q (.inl (some (vI (-1)))) n f1) (hx1 : ¬ ((0 ≤ z ∧ z < (bn : Int)) ∧ 0 ≤ w ∧ w < 20) → ∀ f1, MS f1 1 bn β gn σ d as ps pb pu pr → kC f f1 → Q (.inl (some (vI 0))) n f1) : xct g M_X10_row 0 0 [vR 38, vI z, vI w, vI x] n f Q := by
  refine xct_of rfl rfl (Nat.le_of_ble_eq_true rfl) ?_
  have S : ∀ F, MS F 0 bn β gn σ d as ps pb pu pr → kC f F → xw g M_X10_row Q 0 0 5 [(0, vR 38), (1, vI z), (2, vI w), (3, vI x)] [] n F := by
    intro F hF kF
    obtain ⟨m, h38, hm, hbx, hst, hac, hpg, hpr, hsh, h40, hd1, hd2⟩ := id hF
    obtain ⟨m0, m1, m6, m7, m13, m14, m15, m23, m42, m60⟩ := id hm
    obtain ⟨W, R, U, b39, b40, b41, bb, b1, b2⟩ := id hbx
    have Z : ∀ f1, Q (.inl (some (vI 0))) n f1 → xw g M_X10_row Q 0 0 14 [(0, vR 38)] [] n f1 := by
      intro f1 hq
      refine xw_iconst dX10_row_14 ?_
      exact xw_iret dX10_row_15 rfl hq
    have E : ∀ b k : Nat, z = (b : Int) → w = (k : Int) → b < bn → k < 20 → (0 ≤ x ∧ x ≤ 30) → xw g M_X10_row Q 0 0 28 [(0, vR 38), (1, vI z), (2, vI w), (3, vI x)] [] n F := by
      intro b k e1 e2 e3 e4 hx3
      subst e1 e2
      have q := b1 b e3
      have L : ∀ (j i : Nat), i + j = 30 → xw g M_X10_row Q 0 0 47 [(0, vR 38), (3, vI x), (4, vI ((20 * b + k : Nat) : Int)), (5, vI (i : Int))] [] n (xup (xup F 40 (aI 160 (xui R (20 * b + k) x))) 41 (aL 4800 (stf U (30 * (20 * b + k)) i (fun _ => 0)))) := by
        intro j
        induction j with
        | zero =>
          intro i hi
          obtain rfl : i = 30 := by omega
          refine xw_iload dX10_row_47 rfl ?_
          refine xw_bipush (z := 30) dX10_row_49 (by decide) ?_
          refine xw_icmpge (tgt := 74) dX10_row_51 (by decide) (by first | assumption | (unfold inI; omega) | (unfold inI at *; omega)) (by first | assumption | (unfold inI; omega) | (unfold inI at *; omega)) (fun c_51 => ?_) (fun c_51 => ?_)
          · skip
            refine xw_iload_n dX10_row_74 rfl ?_
            exact xw_iret dX10_row_75 rfl (h1 b k rfl rfl e3 e4 hx3 _ ⟨m, h38, hm, mbx_set e3 bb b1 b2 (x := ((β b).1, (zrow (β b).2.1 k 30, xui (β b).2.2 k x))) (R1 := xui R (20 * b + k) x) (U1 := stf U (30 * (20 * b + k)) 30 (fun _ => 0)) ⟨q.1.1, fun k9 hk9 => by
                show -1 ≤ xui (β b).2.2 k x k9 ∧ xui (β b).2.2 k x k9 ≤ 30
                unfold xui; split
                · omega
                · exact q.1.2.1 k9 hk9, fun j9 hj9 => by
                show inL (zrow (β b).2.1 k 30 j9)
                unfold zrow; split
                · unfold inL; omega
                · exact q.1.2.2 j9 hj9⟩ rfl (fun k9 hk9 => by
                show xui R (20 * b + k) x (20 * b + k9) = xui (β b).2.2 k x k9
                by_cases e : k9 = k
                · rw [e, xui_s, xui_s]
                · rw [xui_n _ _ e, xui_n _ _ (by omega)]; exact q.2.2.1 k9 hk9) (fun j9 hj9 => xui_n _ _ (by omega)) (fun j9 hj9 => by
                show stf U (30 * (20 * b + k)) 30 (fun _ => 0) (600 * b + j9) = zrow (β b).2.1 k 30 j9
                unfold zrow stf
                by_cases e : 30 * k ≤ j9 ∧ j9 < 30 * k + 30
                · rw [if_pos e, if_pos (by omega)]
                · rw [if_neg e, if_neg (by omega)]; exact q.2.2.2 j9 hj9) (fun j9 hj9 => stf_out (by omega)) b39 rfl rfl, mst_fr hst (fun k q1 q2 => (xup_n _ _ (by omega)).trans (xup_n _ _ (by omega))), mac_fr hac (fun k q1 q2 => (xup_n _ _ (by omega)).trans (xup_n _ _ (by omega))), mpg_fr hpg rfl, mpr_fr hpr rfl, msh_o (msh_o hsh (by decide)) (by decide), h40, hd1, hd2⟩ (kC_up (kC_up kF (by decide) (by decide)) (by decide) (by decide)))
          · skip
            exfalso; omega
        | succ j ih =>
          intro i hi
          refine xw_iload dX10_row_47 rfl ?_
          refine xw_bipush (z := 30) dX10_row_49 (by decide) ?_
          refine xw_icmpge (tgt := 74) dX10_row_51 (by decide) (by first | assumption | (unfold inI; omega) | (unfold inI at *; omega)) (by first | assumption | (unfold inI; omega) | (unfold inI at *; omega)) (fun c_51 => ?_) (fun c_51 => ?_)
          · skip
            exfalso; omega
          · skip
            refine xw_aload_n dX10_row_54 rfl ?_
            refine xw_getfield dX10_row_55 fl_X10_20 h38 rfl ?_
            refine xw_bipush (z := 30) dX10_row_58 (by decide) ?_
            refine xw_iload dX10_row_60 rfl ?_
            refine xw_imul dX10_row_62 ?_
            refine xw_iload dX10_row_63 rfl ?_
            refine xw_iadd dX10_row_65 ?_
            refine xw_lconst (z := 0) dX10_row_66 (by decide) ?_
            refine xw_last dX10_row_67 rfl (j := 30 * (20 * b + k) + i) (by omega) (by omega) (by decide) ?_
            rw [xup_up, stf_s U (30 * (20 * b + k)) i (fun _ => 0)]
            refine xw_iinc dX10_row_68 rfl (by decide) ?_
            refine xw_goto (tgt := 47) dX10_row_71 (by decide) ?_
            exact xw_ls [(0, vR 38), (3, vI x), (4, vI ((20 * b + k : Nat) : Int)), (5, vI ((i + 1 : Nat) : Int))] ⟨rfl, rfl, rfl, rfl, trivial⟩ (ih (i + 1) (by omega))
      refine xw_bipush (z := 20) dX10_row_28 (by decide) ?_
      refine xw_iload_n dX10_row_30 rfl ?_
      refine xw_imul dX10_row_31 ?_
      refine xw_iload_n dX10_row_32 rfl ?_
      refine xw_iadd dX10_row_33 ?_
      refine xw_topi ((20 * b + k : Nat) : Int) (by omega) ?_
      refine xw_istore dX10_row_34 (by decide) ?_
      refine xw_aload_n dX10_row_36 rfl ?_
      refine xw_getfield dX10_row_37 fl_X10_17 h38 rfl ?_
      refine xw_iload dX10_row_40 rfl ?_
      refine xw_iload_n dX10_row_42 rfl ?_
      refine xw_iast dX10_row_43 b40 (j := 20 * b + k) rfl (by omega) (by decide) ?_
      refine xw_iconst dX10_row_44 ?_
      refine xw_istore dX10_row_45 (by decide) ?_
      refine xw_ls [(0, vR 38), (3, vI x), (4, vI ((20 * b + k : Nat) : Int)), (5, vI ((0 : Nat) : Int))] ⟨rfl, rfl, rfl, rfl, trivial⟩ ?_
      have hL := L 30 0 (by omega)
      rw [stf_0] at hL
      rw [xup_id (a := 41) (f := xup F 40 (aI 160 (xui R (20 * b + k) x))) b41] at hL
      exact hL
    refine xw_aload_n dX10_row_5 rfl ?_
    refine xw_iload_n dX10_row_6 rfl ?_
    refine xw_iload_n dX10_row_7 rfl ?_
    refine xw_callV (rc := 0) (rs := 0) (mc2 := 0) (ms2 := 0) (a := 38) (As := [vI z, vI w]) (st := []) dX10_row_8 mv_X10_143 h38 rfl rfl (by decide) (by decide) (Nat.le_of_ble_eq_true rfl) rfl (ct_isRow h38 m0 m1 bb hz hw9 (fun b k e1 e2 e3 e4 => ?_) (fun q => ?_))
    · skip
      refine xw_ifne (tgt := 16) dX10_row_11 (by decide) (by unfold inI; omega) (fun _ => ?_) (fun c => absurd c (by decide))
      refine xw_iload_n dX10_row_16 rfl ?_
      refine xw_iflt (tgt := 26) dX10_row_17 (by decide) (by first | assumption | (unfold inI; omega) | (unfold inI at *; omega)) (fun c_17 => ?_) (fun c_17 => ?_)
      · skip
        refine xw_iconst dX10_row_26 ?_
        exact xw_iret dX10_row_27 rfl (h2 b k e1 e2 e3 e4 (by omega) F hF kF)
      · skip
        refine xw_iload_n dX10_row_20 rfl ?_
        refine xw_bipush (z := 30) dX10_row_21 (by decide) ?_
        refine xw_icmple (tgt := 28) dX10_row_23 (by decide) (by first | assumption | (unfold inI; omega) | (unfold inI at *; omega)) (by first | assumption | (unfold inI; omega) | (unfold inI at *; omega)) (fun c_23 => ?_) (fun c_23 => ?_)
        · skip
          exact xw_ls [(0, vR 38), (1, vI z), (2, vI w), (3, vI x)] ⟨rfl, rfl, rfl, rfl, trivial⟩ (E b k e1 e2 e3 e4 (by omega))
        · skip
          refine xw_iconst dX10_row_26 ?_
          exact xw_iret dX10_row_27 rfl (h2 b k e1 e2 e3 e4 (by omega) F hF kF)
    · skip
      refine xw_ifne (tgt := 16) dX10_row_11 (by decide) (by unfold inI; omega) (fun c => absurd c (by decide)) (fun _ => ?_)
      exact xw_ls [(0, vR 38)] ⟨rfl, trivial⟩ (Z _ (hx1 q _ (MS_th 1 hF h38 hm).1 (kC_tr kF (MS_th 1 hF h38 hm).2)))
  obtain ⟨m, h38, hm, _⟩ := id h
  refine xw_aload_n dX10_row_0 rfl ?_
  refine xw_iconst dX10_row_1 ?_
  refine xw_putfield dX10_row_2 (fp_X10_1 _) h38 rfl rfl ?_
  rw [xmd_0]
  exact S _ (MS_th 0 h h38 hm).1 (MS_th 0 h h38 hm).2
set_option maxHeartbeats 4000000 in
theorem mct_tear {z w : Int} (h : MS f th bn β gn σ d as ps pb pu pr) (hz : inI z) (hw9 : inI w) (h1 : ∀ b k : Nat, z = (b : Int) → w = (k : Int) → b < bn → k < 20 → ∀ f1, MS f1 0 bn (xui β b ((β b).1, ((β b).2.1, xui (β b).2.2 k (-1)))) gn σ d as ps pb pu pr → kC f f1 → Q (.inl (some (vI ((β b).2.2 k)))) n f1) (hx1 : ¬ ((0 ≤ z ∧ z < (bn : Int)) ∧ 0 ≤ w ∧ w < 20) → ∀ f1, MS f1 1 bn β gn σ d as ps pb pu pr → kC f f1 → Q (.inl (some (vI 0))) n f1) : xct g M_X10_tear 0 0 [vR 38, vI z, vI w] n f Q := by
  refine xct_of rfl rfl (Nat.le_of_ble_eq_true rfl) ?_
  have S : ∀ F, MS F 0 bn β gn σ d as ps pb pu pr → kC f F → xw g M_X10_tear Q 0 0 5 [(0, vR 38), (1, vI z), (2, vI w)] [] n F := by
    intro F hF kF
    obtain ⟨m, h38, hm, hbx, hst, hac, hpg, hpr, hsh, h40, hd1, hd2⟩ := id hF
    obtain ⟨m0, m1, m6, m7, m13, m14, m15, m23, m42, m60⟩ := id hm
    obtain ⟨W, R, U, b39, b40, b41, bb, b1, b2⟩ := id hbx
    have Z : ∀ f1, Q (.inl (some (vI 0))) n f1 → xw g M_X10_tear Q 0 0 14 [(0, vR 38)] [] n f1 := by
      intro f1 hq
      refine xw_iconst dX10_tear_14 ?_
      exact xw_iret dX10_tear_15 rfl hq
    refine xw_aload_n dX10_tear_5 rfl ?_
    refine xw_iload_n dX10_tear_6 rfl ?_
    refine xw_iload_n dX10_tear_7 rfl ?_
    refine xw_callV (rc := 0) (rs := 0) (mc2 := 0) (ms2 := 0) (a := 38) (As := [vI z, vI w]) (st := []) dX10_tear_8 mv_X10_143 h38 rfl rfl (by decide) (by decide) (Nat.le_of_ble_eq_true rfl) rfl (ct_isRow h38 m0 m1 bb hz hw9 (fun b k e1 e2 e3 e4 => ?_) (fun q => ?_))
    · skip
      refine xw_ifne (tgt := 16) dX10_tear_11 (by decide) (by unfold inI; omega) (fun _ => ?_) (fun c => absurd c (by decide))
      subst e1 e2
      have q := b1 b e3
      refine xw_aload_n dX10_tear_16 rfl ?_
      refine xw_getfield dX10_tear_17 fl_X10_17 h38 rfl ?_
      refine xw_bipush (z := 20) dX10_tear_20 (by decide) ?_
      refine xw_iload_n dX10_tear_22 rfl ?_
      refine xw_imul dX10_tear_23 ?_
      refine xw_iload_n dX10_tear_24 rfl ?_
      refine xw_iadd dX10_tear_25 ?_
      refine xw_iald dX10_tear_26 b40 (j := 20 * b + k) (by omega) (by omega) (by decide) ?_
      refine xw_topi ((β b).2.2 k) (q.2.2.1 k e4) ?_
      refine xw_istore_n dX10_tear_27 (by decide) ?_
      refine xw_aload_n dX10_tear_28 rfl ?_
      refine xw_getfield dX10_tear_29 fl_X10_17 h38 rfl ?_
      refine xw_bipush (z := 20) dX10_tear_32 (by decide) ?_
      refine xw_iload_n dX10_tear_34 rfl ?_
      refine xw_imul dX10_tear_35 ?_
      refine xw_iload_n dX10_tear_36 rfl ?_
      refine xw_iadd dX10_tear_37 ?_
      refine xw_iconst dX10_tear_38 ?_
      refine xw_iast dX10_tear_39 b40 (j := 20 * b + k) (by omega) (by omega) (by decide) ?_
      refine xw_iload_n dX10_tear_40 rfl ?_
      exact xw_iret dX10_tear_41 rfl (h1 b k rfl rfl e3 e4 _ ⟨m, h38, hm, mbx_set e3 bb b1 b2 (x := ((β b).1, ((β b).2.1, xui (β b).2.2 k (-1)))) (R1 := xui R (20 * b + k) (-1)) (U1 := U) ⟨q.1.1, fun k9 hk9 => by
          show -1 ≤ xui (β b).2.2 k (-1) k9 ∧ xui (β b).2.2 k (-1) k9 ≤ 30
          unfold xui; split
          · omega
          · exact q.1.2.1 k9 hk9, q.1.2.2⟩ rfl (fun k9 hk9 => by
          show xui R (20 * b + k) (-1) (20 * b + k9) = xui (β b).2.2 k (-1) k9
          by_cases e : k9 = k
          · rw [e, xui_s, xui_s]
          · rw [xui_n _ _ e, xui_n _ _ (by omega)]; exact q.2.2.1 k9 hk9) (fun j9 hj9 => xui_n _ _ (by omega)) q.2.2.2 (fun _ _ => rfl) b39 rfl b41, mst_fr hst (fun k q1 q2 => xup_n _ _ (by omega)), mac_fr hac (fun k q1 q2 => xup_n _ _ (by omega)), mpg_fr hpg rfl, mpr_fr hpr rfl, msh_o hsh (by decide), h40, hd1, hd2⟩ (kC_up kF (by decide) (by decide)))
    · skip
      refine xw_ifne (tgt := 16) dX10_tear_11 (by decide) (by unfold inI; omega) (fun c => absurd c (by decide)) (fun _ => ?_)
      exact xw_ls [(0, vR 38)] ⟨rfl, trivial⟩ (Z _ (hx1 q _ (MS_th 1 hF h38 hm).1 (kC_tr kF (MS_th 1 hF h38 hm).2)))
  obtain ⟨m, h38, hm, _⟩ := id h
  refine xw_aload_n dX10_tear_0 rfl ?_
  refine xw_iconst dX10_tear_1 ?_
  refine xw_putfield dX10_tear_2 (fp_X10_1 _) h38 rfl rfl ?_
  rw [xmd_0]
  exact S _ (MS_th 0 h h38 hm).1 (MS_th 0 h h38 hm).2
set_option maxHeartbeats 4000000 in
theorem ct_kept {w v : Int} (hw : 0 ≤ w ∧ w ≤ 2) (hq : Q (.inl (some (vL (kept w v)))) n f) : xct g M_X10_kept 0 0 [vI w, vL v] n f Q := by
  refine xct_of rfl rfl (Nat.le_of_ble_eq_true rfl) ?_
  unfold kept at hq
  refine xw_iload_n dX10_kept_0 rfl ?_
  refine xw_ifne (tgt := 11) dX10_kept_1 (by decide) (by first | assumption | (unfold inI; omega) | (unfold inI at *; omega)) (fun c_1 => ?_) (fun c_1 => ?_)
  · skip
    refine xw_iload_n dX10_kept_11 rfl ?_
    refine xw_iconst dX10_kept_12 ?_
    refine xw_icmpne (tgt := 22) dX10_kept_13 (by decide) (by first | assumption | (unfold inI; omega) | (unfold inI at *; omega)) (by first | assumption | (unfold inI; omega) | (unfold inI at *; omega)) (fun c_13 => ?_) (fun c_13 => ?_)
    · skip
      refine xw_lload_n dX10_kept_22 rfl ?_
      exact xw_lret dX10_kept_23 rfl (by first | (rw [if_pos (by omega)] at hq; exact hq) | (rw [if_neg (by omega), if_pos (by omega)] at hq; exact hq) | (rw [if_neg (by omega), if_neg (by omega)] at hq; exact hq))
    · skip
      refine xw_lload_n dX10_kept_16 rfl ?_
      refine xw_l2i dX10_kept_17 ?_
      refine xw_wrap ?_
      refine xw_i2l dX10_kept_18 (bm_in32 v) ?_
      refine xw_goto (tgt := 23) dX10_kept_19 (by decide) ?_
      exact xw_lret dX10_kept_23 rfl (by first | (rw [if_pos (by omega)] at hq; exact hq) | (rw [if_neg (by omega), if_pos (by omega)] at hq; exact hq) | (rw [if_neg (by omega), if_neg (by omega)] at hq; exact hq))
  · skip
    refine xw_lload_n dX10_kept_4 rfl ?_
    refine xw_l2i dX10_kept_5 ?_
    refine xw_i2s dX10_kept_6 ?_
    refine xw_i2l dX10_kept_7 (bm_in16 v) ?_
    refine xw_goto (tgt := 23) dX10_kept_8 (by decide) ?_
    exact xw_lret dX10_kept_23 rfl (by first | (rw [if_pos (by omega)] at hq; exact hq) | (rw [if_neg (by omega), if_pos (by omega)] at hq; exact hq) | (rw [if_neg (by omega), if_neg (by omega)] at hq; exact hq))
set_option maxHeartbeats 4000000 in
theorem mct_put {z w x v : Int} (h : MS f th bn β gn σ d as ps pb pu pr) (hz : inI z) (hw9 : inI w) (hx9 : inI x) (hv : inL v) (h1 : ∀ b k i : Nat, z = (b : Int) → w = (k : Int) → x = (i : Int) → b < bn → k < 20 → (i : Int) < (β b).2.2 k → ∀ f1, MS f1 0 bn (xui β b ((β b).1, (xui (β b).2.1 (30 * k + i) (kept (β b).1 v), (β b).2.2))) gn σ d as ps pb pu pr → kC f f1 → Q (.inl (some (vI 1))) n f1) (h2 : ∀ b k : Nat, z = (b : Int) → w = (k : Int) → b < bn → k < 20 → (β b).2.2 k = -1 → ∀ f1, MS f1 0 bn (β) gn σ d as ps pb pu pr → kC f f1 → Q (.inl (some (vI (-1)))) n f1) (h3 : ∀ b k : Nat, z = (b : Int) → w = (k : Int) → b < bn → k < 20 → (β b).2.2 k ≠ -1 → ¬ (0 ≤ x ∧ x < (β b).2.2 k) → ∀ f1, MS f1 0 bn (β) gn σ d as ps pb pu pr → kC f f1 → Q (.inl (some (vI (-2)))) n f1) (hx1 : ¬ ((0 ≤ z ∧ z < (bn : Int)) ∧ 0 ≤ w ∧ w < 20) → ∀ f1, MS f1 1 bn β gn σ d as ps pb pu pr → kC f f1 → Q (.inl (some (vI 0))) n f1) : xct g M_X10_put 0 0 [vR 38, vI z, vI w, vI x, vL v] n f Q := by
  refine xct_of rfl rfl (Nat.le_of_ble_eq_true rfl) ?_
  have S : ∀ F, MS F 0 bn β gn σ d as ps pb pu pr → kC f F → xw g M_X10_put Q 0 0 5 [(0, vR 38), (1, vI z), (2, vI w), (3, vI x), (4, vL v)] [] n F := by
    intro F hF kF
    obtain ⟨m, h38, hm, hbx, hst, hac, hpg, hpr, hsh, h40, hd1, hd2⟩ := id hF
    obtain ⟨m0, m1, m6, m7, m13, m14, m15, m23, m42, m60⟩ := id hm
    obtain ⟨W, R, U, b39, b40, b41, bb, b1, b2⟩ := id hbx
    have Z : ∀ f1, Q (.inl (some (vI 0))) n f1 → xw g M_X10_put Q 0 0 14 [(0, vR 38)] [] n f1 := by
      intro f1 hq
      refine xw_iconst dX10_put_14 ?_
      exact xw_iret dX10_put_15 rfl hq
    refine xw_aload_n dX10_put_5 rfl ?_
    refine xw_iload_n dX10_put_6 rfl ?_
    refine xw_iload_n dX10_put_7 rfl ?_
    refine xw_callV (rc := 0) (rs := 0) (mc2 := 0) (ms2 := 0) (a := 38) (As := [vI z, vI w]) (st := []) dX10_put_8 mv_X10_143 h38 rfl rfl (by decide) (by decide) (Nat.le_of_ble_eq_true rfl) rfl (ct_isRow h38 m0 m1 bb hz hw9 (fun b k e1 e2 e3 e4 => ?_) (fun q => ?_))
    · skip
      refine xw_ifne (tgt := 16) dX10_put_11 (by decide) (by unfold inI; omega) (fun _ => ?_) (fun c => absurd c (by decide))
      subst e1 e2
      have q := b1 b e3
      have hlk := q.1.2.1 k e4
      refine xw_bipush (z := 20) dX10_put_16 (by decide) ?_
      refine xw_iload_n dX10_put_18 rfl ?_
      refine xw_imul dX10_put_19 ?_
      refine xw_iload_n dX10_put_20 rfl ?_
      refine xw_iadd dX10_put_21 ?_
      refine xw_topi ((20 * b + k : Nat) : Int) (by omega) ?_
      refine xw_istore dX10_put_22 (by decide) ?_
      refine xw_aload_n dX10_put_24 rfl ?_
      refine xw_getfield dX10_put_25 fl_X10_17 h38 rfl ?_
      refine xw_iload dX10_put_28 rfl ?_
      refine xw_iald dX10_put_30 b40 (j := 20 * b + k) rfl (by omega) (by decide) ?_
      refine xw_topi ((β b).2.2 k) (q.2.2.1 k e4) ?_
      refine xw_iconst dX10_put_31 ?_
      refine xw_icmpne (tgt := 37) dX10_put_32 (by decide) (by first | assumption | (unfold inI; omega) | (unfold inI at *; omega)) (by first | assumption | (unfold inI; omega) | (unfold inI at *; omega)) (fun c_32 => ?_) (fun c_32 => ?_)
      · skip
        refine xw_iload_n dX10_put_37 rfl ?_
        refine xw_iflt (tgt := 52) dX10_put_38 (by decide) (by first | assumption | (unfold inI; omega) | (unfold inI at *; omega)) (fun c_38 => ?_) (fun c_38 => ?_)
        · skip
          refine xw_bipush (z := -2) dX10_put_52 (by decide) ?_
          exact xw_iret dX10_put_54 rfl (h3 b k rfl rfl e3 e4 (by omega) (by omega) F hF kF)
        · skip
          refine xw_iload_n dX10_put_41 rfl ?_
          refine xw_aload_n dX10_put_42 rfl ?_
          refine xw_getfield dX10_put_43 fl_X10_17 h38 rfl ?_
          refine xw_iload dX10_put_46 rfl ?_
          refine xw_iald dX10_put_48 b40 (j := 20 * b + k) rfl (by omega) (by decide) ?_
          refine xw_topi ((β b).2.2 k) (q.2.2.1 k e4) ?_
          refine xw_icmplt (tgt := 55) dX10_put_49 (by decide) (by first | assumption | (unfold inI; omega) | (unfold inI at *; omega)) (by first | assumption | (unfold inI; omega) | (unfold inI at *; omega)) (fun c_49 => ?_) (fun c_49 => ?_)
          · skip
            obtain ⟨i, rfl⟩ : ∃ i : Nat, x = (i : Int) := ⟨x.toNat, by omega⟩
            refine xw_aload_n dX10_put_55 rfl ?_
            refine xw_getfield dX10_put_56 fl_X10_20 h38 rfl ?_
            refine xw_bipush (z := 30) dX10_put_59 (by decide) ?_
            refine xw_iload dX10_put_61 rfl ?_
            refine xw_imul dX10_put_63 ?_
            refine xw_iload_n dX10_put_64 rfl ?_
            refine xw_iadd dX10_put_65 ?_
            refine xw_aload_n dX10_put_66 rfl ?_
            refine xw_getfield dX10_put_67 fl_X10_13 h38 rfl ?_
            refine xw_iload_n dX10_put_70 rfl ?_
            refine xw_iald dX10_put_71 b39 (j := b) rfl (by omega) (by decide) ?_
            refine xw_topi (β b).1 q.2.1 ?_
            refine xw_lload dX10_put_72 rfl ?_
            refine xw_callS (rc := 0) (rs := 0) (mc2 := 0) (ms2 := 0) (As := [vI (β b).1, vL v]) (st := [vI (30 * ((20 * b + k : Nat) : Int) + (i : Int)), vR 41]) dX10_put_74 ms_X10_147 rfl (by decide) (by decide) (Nat.le_of_ble_eq_true rfl) rfl (ct_kept q.1.1 ?_)
            refine xw_last dX10_put_77 b41 (j := 600 * b + (30 * k + i)) (by omega) (by omega) (by decide) ?_
            refine xw_iconst dX10_put_78 ?_
            exact xw_iret dX10_put_79 rfl (h1 b k i rfl rfl rfl e3 e4 (by omega) _ ⟨m, h38, hm, mbx_set e3 bb b1 b2 (x := ((β b).1, (xui (β b).2.1 (30 * k + i) (kept (β b).1 v), (β b).2.2))) (R1 := R) (U1 := xui U (600 * b + (30 * k + i)) (kept (β b).1 v)) ⟨q.1.1, q.1.2.1, fun j9 hj9 => by
                show inL (xui (β b).2.1 (30 * k + i) (kept (β b).1 v) j9)
                unfold xui; split
                · exact kept_L hv
                · exact q.1.2.2 j9 hj9⟩ rfl q.2.2.1 (fun _ _ => rfl) (fun j9 hj9 => by
                show xui U (600 * b + (30 * k + i)) (kept (β b).1 v) (600 * b + j9) = xui (β b).2.1 (30 * k + i) (kept (β b).1 v) j9
                by_cases e : j9 = 30 * k + i
                · rw [e, xui_s, xui_s]
                · rw [xui_n _ _ e, xui_n _ _ (by omega)]; exact q.2.2.2 j9 hj9) (fun j9 hj9 => xui_n _ _ (by omega)) b39 b40 rfl, mst_fr hst (fun k q1 q2 => xup_n _ _ (by omega)), mac_fr hac (fun k q1 q2 => xup_n _ _ (by omega)), mpg_fr hpg rfl, mpr_fr hpr rfl, msh_o hsh (by decide), h40, hd1, hd2⟩ (kC_up kF (by decide) (by decide)))
          · skip
            refine xw_bipush (z := -2) dX10_put_52 (by decide) ?_
            exact xw_iret dX10_put_54 rfl (h3 b k rfl rfl e3 e4 (by omega) (by omega) F hF kF)
      · skip
        refine xw_iconst dX10_put_35 ?_
        exact xw_iret dX10_put_36 rfl (h2 b k rfl rfl e3 e4 (by omega) F hF kF)
    · skip
      refine xw_ifne (tgt := 16) dX10_put_11 (by decide) (by unfold inI; omega) (fun c => absurd c (by decide)) (fun _ => ?_)
      exact xw_ls [(0, vR 38)] ⟨rfl, trivial⟩ (Z _ (hx1 q _ (MS_th 1 hF h38 hm).1 (kC_tr kF (MS_th 1 hF h38 hm).2)))
  obtain ⟨m, h38, hm, _⟩ := id h
  refine xw_aload_n dX10_put_0 rfl ?_
  refine xw_iconst dX10_put_1 ?_
  refine xw_putfield dX10_put_2 (fp_X10_1 _) h38 rfl rfl ?_
  rw [xmd_0]
  exact S _ (MS_th 0 h h38 hm).1 (MS_th 0 h h38 hm).2
set_option maxHeartbeats 4000000 in
theorem mct_copy {z w x z2 w2 x2 c : Int} (h : MS f th bn β gn σ d as ps pb pu pr) (hz : inI z) (hw9 : inI w) (hx9 : inI x) (hz2 : inI z2) (hw2 : inI w2) (hx2 : inI x2) (hc9 : inI c) (hq : ∀ b k b2 k2 : Nat, z = (b : Int) → w = (k : Int) → z2 = (b2 : Int) → w2 = (k2 : Int) → b < bn → k < 20 → b2 < bn → k2 < 20 →
      (((β b).2.2 k = -1 ∨ (β b2).2.2 k2 = -1) → ∀ f1, MS f1 0 bn (β) gn σ d as ps pb pu pr → kC f f1 → Q (.inl (some (vI (-1)))) n f1) ∧
      (¬ ((β b).2.2 k = -1 ∨ (β b2).2.2 k2 = -1) → ¬ (0 ≤ x ∧ 0 ≤ x2 ∧ 0 ≤ c ∧ x ≤ (β b).2.2 k - c ∧ x2 ≤ (β b2).2.2 k2 - c) → ∀ f1, MS f1 0 bn (β) gn σ d as ps pb pu pr → kC f f1 → Q (.inl (some (vI (-2)))) n f1) ∧
      (¬ ((β b).2.2 k = -1 ∨ (β b2).2.2 k2 = -1) → (0 ≤ x ∧ 0 ≤ x2 ∧ 0 ≤ c ∧ x ≤ (β b).2.2 k - c ∧ x2 ≤ (β b2).2.2 k2 - c) → (β b).1 ≠ (β b2).1 → ∀ f1, MS f1 0 bn (β) gn σ d as ps pb pu pr → kC f f1 → Q (.inl (some (vI (-3)))) n f1) ∧
      (¬ ((β b).2.2 k = -1 ∨ (β b2).2.2 k2 = -1) → ∀ i i2 cc : Nat, x = (i : Int) → x2 = (i2 : Int) → c = (cc : Int) → (i + cc : Int) ≤ (β b).2.2 k → (i2 + cc : Int) ≤ (β b2).2.2 k2 → (β b).1 = (β b2).1 → ∀ f1, MS f1 0 bn (xui β b2 ((β b2).1, ((fun j => if 30 * k2 + i2 ≤ j ∧ j < 30 * k2 + i2 + cc then (β b).2.1 (30 * k + i + (j - (30 * k2 + i2))) else (β b2).2.1 j), (β b2).2.2))) gn σ d as ps pb pu pr → kC f f1 → Q (.inl (some (vI c))) n f1)) (hx1 : ¬ (((0 ≤ z ∧ z < (bn : Int)) ∧ 0 ≤ w ∧ w < 20) ∧ ((0 ≤ z2 ∧ z2 < (bn : Int)) ∧ 0 ≤ w2 ∧ w2 < 20)) → ∀ f1, MS f1 1 bn β gn σ d as ps pb pu pr → kC f f1 → Q (.inl (some (vI 0))) n f1) : xct g M_X10_copy 0 0 [vR 38, vI z, vI w, vI x, vI z2, vI w2, vI x2, vI c] n f Q := by
  refine xct_of rfl rfl (Nat.le_of_ble_eq_true rfl) ?_
  have S : ∀ F, MS F 0 bn β gn σ d as ps pb pu pr → kC f F → xw g M_X10_copy Q 0 0 5 [(0, vR 38), (1, vI z), (2, vI w), (3, vI x), (4, vI z2), (5, vI w2), (6, vI x2), (7, vI c)] [] n F := by
    intro F hF kF
    obtain ⟨m, h38, hm, hbx, hst, hac, hpg, hpr, hsh, h40, hd1, hd2⟩ := id hF
    obtain ⟨m0, m1, m6, m7, m13, m14, m15, m23, m42, m60⟩ := id hm
    obtain ⟨W, R, U, b39, b40, b41, bb, b1, b2⟩ := id hbx
    obtain ⟨mv, b42⟩ := msh_at hsh (k := 42) (t := 1) (N := 30) (by decide)
    have b42 : F 42 = some (aL 30 mv) := b42
    have Z : ∀ f1, Q (.inl (some (vI 0))) n f1 → xw g M_X10_copy Q 0 0 25 [(0, vR 38)] [] n f1 := by
      intro f1 hq
      refine xw_iconst dX10_copy_25 ?_
      exact xw_iret dX10_copy_26 rfl hq
    have E : ∀ b k bb2 k2 i i2 cc : Nat, z = (b : Int) → w = (k : Int) → z2 = (bb2 : Int) → w2 = (k2 : Int) → b < bn → k < 20 → bb2 < bn → k2 < 20 → ¬ ((β b).2.2 k = -1 ∨ (β bb2).2.2 k2 = -1) → x = (i : Int) → x2 = (i2 : Int) → c = (cc : Int) → (i + cc : Int) ≤ (β b).2.2 k → (i2 + cc : Int) ≤ (β bb2).2.2 k2 → (β b).1 = (β bb2).1 → xw g M_X10_copy Q 0 0 158 [(0, vR 38), (3, vI (i : Int)), (6, vI (i2 : Int)), (7, vI (cc : Int)), (8, vI ((20 * b + k : Nat) : Int)), (9, vI ((20 * bb2 + k2 : Nat) : Int))] [] n F := by
      intro b k bb2 k2 i i2 cc e1 e2 e5 e6 e3 e4 e7 e8 hno ei ei2 ec hs1 hs2 hwd
      have q := b1 b e3
      have q2 := b1 bb2 e7
      have hlk := q.1.2.1 k e4
      have hlk2 := q2.1.2.1 k2 e8
      obtain ⟨_, _, _, q4⟩ := hq b k bb2 k2 e1 e2 e5 e6 e3 e4 e7 e8
      obtain ⟨src, hsrc⟩ : ∃ src : Nat → Int, src = fun j => U (600 * b + (30 * k + i) + j) := ⟨_, rfl⟩
      obtain ⟨G, hG⟩ : ∃ G, G = xup F 42 (aL 30 (stf mv 0 cc src)) := ⟨_, rfl⟩
      have G38 : G 38 = some (oMd m) := by rw [hG]; exact h38
      have G41 : G 41 = some (aL 4800 U) := by rw [hG]; exact b41
      have G42 : G 42 = some (aL 30 (stf mv 0 cc src)) := by rw [hG]; rfl
      have hshG : msh G := by rw [hG]; exact msh_up (t := 1) (N := 30) hsh (by decide)
      have kG : kC f G := by rw [hG]; exact kC_up kF (by decide) (by decide)
      have Gk : ∀ k9, k9 ≠ 42 → G k9 = F k9 := fun k9 q9 => by rw [hG, xup_n _ _ q9]
      have L2 : ∀ (j t : Nat), t + j = cc → xw g M_X10_copy Q 0 0 199 [(0, vR 38), (6, vI (i2 : Int)), (7, vI (cc : Int)), (9, vI ((20 * bb2 + k2 : Nat) : Int)), (10, vI (t : Int))] [] n (xup G 41 (aL 4800 (stf U (600 * bb2 + (30 * k2 + i2)) t src))) := by
        intro j
        induction j with
        | zero =>
          intro t ht9
          obtain rfl : t = cc := by omega
          refine xw_iload dX10_copy_199 rfl ?_
          refine xw_iload dX10_copy_201 rfl ?_
          refine xw_icmpge (tgt := 235) dX10_copy_203 (by decide) (by first | assumption | (unfold inI; omega) | (unfold inI at *; omega)) (by first | assumption | (unfold inI; omega) | (unfold inI at *; omega)) (fun c_203 => ?_) (fun c_203 => ?_)
          · skip
            refine xw_iload dX10_copy_235 rfl ?_
            refine xw_topi c ec.symm ?_
            exact xw_iret dX10_copy_237 rfl (q4 hno i i2 t ei ei2 ec hs1 hs2 hwd _ ⟨m, G38, hm, mbx_set e7 bb b1 b2 (R1 := R) (U1 := stf U (600 * bb2 + (30 * k2 + i2)) t src) ⟨q2.1.1, q2.1.2.1, fun j9 hj9 => by
                show inL (if 30 * k2 + i2 ≤ j9 ∧ j9 < 30 * k2 + i2 + t then (β b).2.1 (30 * k + i + (j9 - (30 * k2 + i2))) else (β bb2).2.1 j9)
                split
                · exact q.1.2.2 _ (by omega)
                · exact q2.1.2.2 j9 hj9⟩ rfl q2.2.2.1 (fun _ _ => rfl) (fun j9 hj9 => by
                show stf U (600 * bb2 + (30 * k2 + i2)) t src (600 * bb2 + j9) = (if 30 * k2 + i2 ≤ j9 ∧ j9 < 30 * k2 + i2 + t then (β b).2.1 (30 * k + i + (j9 - (30 * k2 + i2))) else (β bb2).2.1 j9)
                by_cases e : 30 * k2 + i2 ≤ j9 ∧ j9 < 30 * k2 + i2 + t
                · rw [if_pos e, ← q.2.2.2 _ (by omega)]
                  unfold stf
                  rw [if_pos (by omega), hsrc]
                  show U _ = U _
                  congr 1
                  omega
                · rw [if_neg e, stf_out (by omega)]; exact q2.2.2.2 j9 hj9) (fun j9 hj9 => stf_out (by omega)) ((Gk 39 (by decide)).trans b39) ((Gk 40 (by decide)).trans b40) rfl, mst_fr hst (fun k q1 q2 => (xup_n _ _ (by omega)).trans (Gk k (by omega))), mac_fr hac (fun k q1 q2 => (xup_n _ _ (by omega)).trans (Gk k (by omega))), mpg_fr hpg (Gk 66 (by decide)), mpr_fr hpr (Gk 77 (by decide)), msh_o hshG (by decide), h40, hd1, hd2⟩ (kC_up kG (by decide) (by decide)))
          · skip
            exfalso; omega
        | succ j ih =>
          intro t ht9
          have hval : stf mv 0 cc src t = src t := by have := stf_in (c := mv) (a := 0) (v := src) (show t < cc by omega); rw [Nat.zero_add] at this; exact this
          refine xw_iload dX10_copy_199 rfl ?_
          refine xw_iload dX10_copy_201 rfl ?_
          refine xw_icmpge (tgt := 235) dX10_copy_203 (by decide) (by first | assumption | (unfold inI; omega) | (unfold inI at *; omega)) (by first | assumption | (unfold inI; omega) | (unfold inI at *; omega)) (fun c_203 => ?_) (fun c_203 => ?_)
          · skip
            exfalso; omega
          · skip
            refine xw_aload_n dX10_copy_206 rfl ?_
            refine xw_getfield dX10_copy_207 fl_X10_20 G38 rfl ?_
            refine xw_bipush (z := 30) dX10_copy_210 (by decide) ?_
            refine xw_iload dX10_copy_212 rfl ?_
            refine xw_imul dX10_copy_214 ?_
            refine xw_iload dX10_copy_215 rfl ?_
            refine xw_iadd dX10_copy_217 ?_
            refine xw_iload dX10_copy_218 rfl ?_
            refine xw_iadd dX10_copy_220 ?_
            refine xw_aload_n dX10_copy_221 rfl ?_
            refine xw_getfield dX10_copy_222 fl_X10_24 G38 rfl ?_
            refine xw_iload dX10_copy_225 rfl ?_
            refine xw_lald dX10_copy_227 G42 (j := t) rfl (by omega) (by decide) ?_
            refine xw_topl (src t) hval ?_
            refine xw_last dX10_copy_228 rfl (j := 600 * bb2 + (30 * k2 + i2) + t) (by omega) (by omega) (by decide) ?_
            rw [xup_up, stf_s]
            refine xw_iinc dX10_copy_229 rfl (by decide) ?_
            refine xw_goto (tgt := 199) dX10_copy_232 (by decide) ?_
            exact xw_ls [(0, vR 38), (6, vI (i2 : Int)), (7, vI (cc : Int)), (9, vI ((20 * bb2 + k2 : Nat) : Int)), (10, vI ((t + 1 : Nat) : Int))] ⟨rfl, rfl, rfl, rfl, rfl, trivial⟩ (ih (t + 1) (by omega))
      have L1 : ∀ (j t : Nat), t + j = cc → xw g M_X10_copy Q 0 0 161 [(0, vR 38), (3, vI (i : Int)), (6, vI (i2 : Int)), (7, vI (cc : Int)), (8, vI ((20 * b + k : Nat) : Int)), (9, vI ((20 * bb2 + k2 : Nat) : Int)), (10, vI (t : Int))] [] n (xup F 42 (aL 30 (stf mv 0 t src))) := by
        intro j
        induction j with
        | zero =>
          intro t ht9
          obtain rfl : t = cc := by omega
          rw [← hG]
          refine xw_iload dX10_copy_161 rfl ?_
          refine xw_iload dX10_copy_163 rfl ?_
          refine xw_icmpge (tgt := 196) dX10_copy_165 (by decide) (by first | assumption | (unfold inI; omega) | (unfold inI at *; omega)) (by first | assumption | (unfold inI; omega) | (unfold inI at *; omega)) (fun c_165 => ?_) (fun c_165 => ?_)
          · skip
            refine xw_iconst dX10_copy_196 ?_
            refine xw_istore dX10_copy_197 (by decide) ?_
            refine xw_ls [(0, vR 38), (6, vI (i2 : Int)), (7, vI (t : Int)), (9, vI ((20 * bb2 + k2 : Nat) : Int)), (10, vI ((0 : Nat) : Int))] ⟨rfl, rfl, rfl, rfl, rfl, trivial⟩ ?_
            have hL := L2 t 0 (by omega)
            rw [stf_0, xup_id G41] at hL
            exact hL
          · skip
            exfalso; omega
        | succ j ih =>
          intro t ht9
          have hval : U (600 * b + (30 * k + i) + t) = src t := by rw [hsrc]
          refine xw_iload dX10_copy_161 rfl ?_
          refine xw_iload dX10_copy_163 rfl ?_
          refine xw_icmpge (tgt := 196) dX10_copy_165 (by decide) (by first | assumption | (unfold inI; omega) | (unfold inI at *; omega)) (by first | assumption | (unfold inI; omega) | (unfold inI at *; omega)) (fun c_165 => ?_) (fun c_165 => ?_)
          · skip
            exfalso; omega
          · skip
            refine xw_aload_n dX10_copy_168 rfl ?_
            refine xw_getfield dX10_copy_169 fl_X10_24 h38 rfl ?_
            refine xw_iload dX10_copy_172 rfl ?_
            refine xw_aload_n dX10_copy_174 rfl ?_
            refine xw_getfield dX10_copy_175 fl_X10_20 h38 rfl ?_
            refine xw_bipush (z := 30) dX10_copy_178 (by decide) ?_
            refine xw_iload dX10_copy_180 rfl ?_
            refine xw_imul dX10_copy_182 ?_
            refine xw_iload_n dX10_copy_183 rfl ?_
            refine xw_iadd dX10_copy_184 ?_
            refine xw_iload dX10_copy_185 rfl ?_
            refine xw_iadd dX10_copy_187 ?_
            refine xw_lald dX10_copy_188 b41 (j := 600 * b + (30 * k + i) + t) (by omega) (by omega) (by decide) ?_
            refine xw_topl (src t) hval ?_
            refine xw_last dX10_copy_189 rfl (j := 0 + t) (by omega) (by omega) (by decide) ?_
            rw [xup_up, stf_s]
            refine xw_iinc dX10_copy_190 rfl (by decide) ?_
            refine xw_goto (tgt := 161) dX10_copy_193 (by decide) ?_
            exact xw_ls [(0, vR 38), (3, vI (i : Int)), (6, vI (i2 : Int)), (7, vI (cc : Int)), (8, vI ((20 * b + k : Nat) : Int)), (9, vI ((20 * bb2 + k2 : Nat) : Int)), (10, vI ((t + 1 : Nat) : Int))] ⟨rfl, rfl, rfl, rfl, rfl, rfl, rfl, trivial⟩ (ih (t + 1) (by omega))
      refine xw_iconst dX10_copy_158 ?_
      refine xw_istore dX10_copy_159 (by decide) ?_
      refine xw_ls [(0, vR 38), (3, vI (i : Int)), (6, vI (i2 : Int)), (7, vI (cc : Int)), (8, vI ((20 * b + k : Nat) : Int)), (9, vI ((20 * bb2 + k2 : Nat) : Int)), (10, vI ((0 : Nat) : Int))] ⟨rfl, rfl, rfl, rfl, rfl, rfl, rfl, trivial⟩ ?_
      have hL := L1 cc 0 (by omega)
      rw [stf_0, xup_id (a := 42) (f := F) b42] at hL
      exact hL
    refine xw_aload_n dX10_copy_5 rfl ?_
    refine xw_iload_n dX10_copy_6 rfl ?_
    refine xw_iload_n dX10_copy_7 rfl ?_
    refine xw_callV (rc := 0) (rs := 0) (mc2 := 0) (ms2 := 0) (a := 38) (As := [vI z, vI w]) (st := []) dX10_copy_8 mv_X10_143 h38 rfl rfl (by decide) (by decide) (Nat.le_of_ble_eq_true rfl) rfl (ct_isRow h38 m0 m1 bb hz hw9 (fun b k e1 e2 e3 e4 => ?_) (fun q => ?_))
    · skip
      refine xw_ifeq (tgt := 25) dX10_copy_11 (by decide) (by unfold inI; omega) (fun c => absurd c (by decide)) (fun _ => ?_)
      refine xw_aload_n dX10_copy_14 rfl ?_
      refine xw_iload dX10_copy_15 rfl ?_
      refine xw_iload dX10_copy_17 rfl ?_
      refine xw_callV (rc := 0) (rs := 0) (mc2 := 0) (ms2 := 0) (a := 38) (As := [vI z2, vI w2]) (st := []) dX10_copy_19 mv_X10_143 h38 rfl rfl (by decide) (by decide) (Nat.le_of_ble_eq_true rfl) rfl (ct_isRow h38 m0 m1 bb hz2 hw2 (fun bb2 k2 e5 e6 e7 e8 => ?_) (fun q => ?_))
      · skip
        refine xw_ifne (tgt := 27) dX10_copy_22 (by decide) (by unfold inI; omega) (fun _ => ?_) (fun c => absurd c (by decide))
        have q := b1 b e3
        have q2 := b1 bb2 e7
        have hlk := q.1.2.1 k e4
        have hlk2 := q2.1.2.1 k2 e8
        obtain ⟨a1, a2, a3, a4⟩ := hq b k bb2 k2 e1 e2 e5 e6 e3 e4 e7 e8
        refine xw_bipush (z := 20) dX10_copy_27 (by decide) ?_
        refine xw_iload_n dX10_copy_29 rfl ?_
        refine xw_imul dX10_copy_30 ?_
        refine xw_iload_n dX10_copy_31 rfl ?_
        refine xw_iadd dX10_copy_32 ?_
        refine xw_topi ((20 * b + k : Nat) : Int) (by omega) ?_
        refine xw_istore dX10_copy_33 (by decide) ?_
        refine xw_bipush (z := 20) dX10_copy_35 (by decide) ?_
        refine xw_iload dX10_copy_37 rfl ?_
        refine xw_imul dX10_copy_39 ?_
        refine xw_iload dX10_copy_40 rfl ?_
        refine xw_iadd dX10_copy_42 ?_
        refine xw_topi ((20 * bb2 + k2 : Nat) : Int) (by omega) ?_
        refine xw_istore dX10_copy_43 (by decide) ?_
        refine xw_aload_n dX10_copy_45 rfl ?_
        refine xw_getfield dX10_copy_46 fl_X10_17 h38 rfl ?_
        refine xw_iload dX10_copy_49 rfl ?_
        refine xw_iald dX10_copy_51 b40 (j := 20 * b + k) rfl (by omega) (by decide) ?_
        refine xw_topi ((β b).2.2 k) (q.2.2.1 k e4) ?_
        refine xw_iconst dX10_copy_52 ?_
        refine xw_icmpeq (tgt := 67) dX10_copy_53 (by decide) (by first | assumption | (unfold inI; omega) | (unfold inI at *; omega)) (by first | assumption | (unfold inI; omega) | (unfold inI at *; omega)) (fun c_53 => ?_) (fun c_53 => ?_)
        · skip
          refine xw_iconst dX10_copy_67 ?_
          exact xw_iret dX10_copy_68 rfl (a1 (by omega) F hF kF)
        · skip
          refine xw_aload_n dX10_copy_56 rfl ?_
          refine xw_getfield dX10_copy_57 fl_X10_17 h38 rfl ?_
          refine xw_iload dX10_copy_60 rfl ?_
          refine xw_iald dX10_copy_62 b40 (j := 20 * bb2 + k2) rfl (by omega) (by decide) ?_
          refine xw_topi ((β bb2).2.2 k2) (q2.2.2.1 k2 e8) ?_
          refine xw_iconst dX10_copy_63 ?_
          refine xw_icmpne (tgt := 69) dX10_copy_64 (by decide) (by first | assumption | (unfold inI; omega) | (unfold inI at *; omega)) (by first | assumption | (unfold inI; omega) | (unfold inI at *; omega)) (fun c_64 => ?_) (fun c_64 => ?_)
          · skip
            refine xw_iload_n dX10_copy_69 rfl ?_
            refine xw_iflt (tgt := 136) dX10_copy_70 (by decide) (by first | assumption | (unfold inI; omega) | (unfold inI at *; omega)) (fun c_70 => ?_) (fun c_70 => ?_)
            · skip
              refine xw_bipush (z := -2) dX10_copy_136 (by decide) ?_
              exact xw_iret dX10_copy_138 rfl (a2 (by omega) (by omega) F hF kF)
            · skip
              refine xw_iload dX10_copy_73 rfl ?_
              refine xw_iflt (tgt := 136) dX10_copy_75 (by decide) (by first | assumption | (unfold inI; omega) | (unfold inI at *; omega)) (fun c_75 => ?_) (fun c_75 => ?_)
              · skip
                refine xw_bipush (z := -2) dX10_copy_136 (by decide) ?_
                exact xw_iret dX10_copy_138 rfl (a2 (by omega) (by omega) F hF kF)
              · skip
                refine xw_iload dX10_copy_78 rfl ?_
                refine xw_iflt (tgt := 136) dX10_copy_80 (by decide) (by first | assumption | (unfold inI; omega) | (unfold inI at *; omega)) (fun c_80 => ?_) (fun c_80 => ?_)
                · skip
                  refine xw_bipush (z := -2) dX10_copy_136 (by decide) ?_
                  exact xw_iret dX10_copy_138 rfl (a2 (by omega) (by omega) F hF kF)
                · skip
                  refine xw_iload dX10_copy_83 rfl ?_
                  refine xw_aload_n dX10_copy_85 rfl ?_
                  refine xw_getfield dX10_copy_86 fl_X10_17 h38 rfl ?_
                  refine xw_iload dX10_copy_89 rfl ?_
                  refine xw_iald dX10_copy_91 b40 (j := 20 * b + k) rfl (by omega) (by decide) ?_
                  refine xw_topi ((β b).2.2 k) (q.2.2.1 k e4) ?_
                  refine xw_icmpgt (tgt := 136) dX10_copy_92 (by decide) (by first | assumption | (unfold inI; omega) | (unfold inI at *; omega)) (by first | assumption | (unfold inI; omega) | (unfold inI at *; omega)) (fun c_92 => ?_) (fun c_92 => ?_)
                  · skip
                    refine xw_bipush (z := -2) dX10_copy_136 (by decide) ?_
                    exact xw_iret dX10_copy_138 rfl (a2 (by omega) (by omega) F hF kF)
                  · skip
                    refine xw_iload_n dX10_copy_95 rfl ?_
                    refine xw_aload_n dX10_copy_96 rfl ?_
                    refine xw_getfield dX10_copy_97 fl_X10_17 h38 rfl ?_
                    refine xw_iload dX10_copy_100 rfl ?_
                    refine xw_iald dX10_copy_102 b40 (j := 20 * b + k) rfl (by omega) (by decide) ?_
                    refine xw_topi ((β b).2.2 k) (q.2.2.1 k e4) ?_
                    refine xw_iload dX10_copy_103 rfl ?_
                    refine xw_isub dX10_copy_105 ?_
                    refine xw_icmpgt (tgt := 136) dX10_copy_106 (by decide) (by first | assumption | (unfold inI; omega) | (unfold inI at *; omega)) (by first | assumption | (unfold inI; omega) | (unfold inI at *; omega)) (fun c_106 => ?_) (fun c_106 => ?_)
                    · skip
                      refine xw_bipush (z := -2) dX10_copy_136 (by decide) ?_
                      exact xw_iret dX10_copy_138 rfl (a2 (by omega) (by omega) F hF kF)
                    · skip
                      refine xw_iload dX10_copy_109 rfl ?_
                      refine xw_aload_n dX10_copy_111 rfl ?_
                      refine xw_getfield dX10_copy_112 fl_X10_17 h38 rfl ?_
                      refine xw_iload dX10_copy_115 rfl ?_
                      refine xw_iald dX10_copy_117 b40 (j := 20 * bb2 + k2) rfl (by omega) (by decide) ?_
                      refine xw_topi ((β bb2).2.2 k2) (q2.2.2.1 k2 e8) ?_
                      refine xw_icmpgt (tgt := 136) dX10_copy_118 (by decide) (by first | assumption | (unfold inI; omega) | (unfold inI at *; omega)) (by first | assumption | (unfold inI; omega) | (unfold inI at *; omega)) (fun c_118 => ?_) (fun c_118 => ?_)
                      · skip
                        refine xw_bipush (z := -2) dX10_copy_136 (by decide) ?_
                        exact xw_iret dX10_copy_138 rfl (a2 (by omega) (by omega) F hF kF)
                      · skip
                        refine xw_iload dX10_copy_121 rfl ?_
                        refine xw_aload_n dX10_copy_123 rfl ?_
                        refine xw_getfield dX10_copy_124 fl_X10_17 h38 rfl ?_
                        refine xw_iload dX10_copy_127 rfl ?_
                        refine xw_iald dX10_copy_129 b40 (j := 20 * bb2 + k2) rfl (by omega) (by decide) ?_
                        refine xw_topi ((β bb2).2.2 k2) (q2.2.2.1 k2 e8) ?_
                        refine xw_iload dX10_copy_130 rfl ?_
                        refine xw_isub dX10_copy_132 ?_
                        refine xw_icmple (tgt := 139) dX10_copy_133 (by decide) (by first | assumption | (unfold inI; omega) | (unfold inI at *; omega)) (by first | assumption | (unfold inI; omega) | (unfold inI at *; omega)) (fun c_133 => ?_) (fun c_133 => ?_)
                        · skip
                          refine xw_aload_n dX10_copy_139 rfl ?_
                          refine xw_getfield dX10_copy_140 fl_X10_13 h38 rfl ?_
                          refine xw_iload_n dX10_copy_143 rfl ?_
                          refine xw_iald dX10_copy_144 b39 (j := b) e1 (by omega) (by decide) ?_
                          refine xw_topi (β b).1 q.2.1 ?_
                          refine xw_aload_n dX10_copy_145 rfl ?_
                          refine xw_getfield dX10_copy_146 fl_X10_13 h38 rfl ?_
                          refine xw_iload dX10_copy_149 rfl ?_
                          refine xw_iald dX10_copy_151 b39 (j := bb2) e5 (by omega) (by decide) ?_
                          refine xw_topi (β bb2).1 q2.2.1 ?_
                          refine xw_icmpeq (tgt := 158) dX10_copy_152 (by decide) (by have := q.1.1; unfold inI; omega) (by have := q2.1.1; unfold inI; omega) (fun c_152 => ?_) (fun c_152 => ?_)
                          · skip
                            refine xw_ls [(0, vR 38), (3, vI (x.toNat : Int)), (6, vI (x2.toNat : Int)), (7, vI (c.toNat : Int)), (8, vI ((20 * b + k : Nat) : Int)), (9, vI ((20 * bb2 + k2 : Nat) : Int))] ⟨rfl, by rw [show ((x.toNat : Nat) : Int) = x by omega]; rfl, by rw [show ((x2.toNat : Nat) : Int) = x2 by omega]; rfl, by rw [show ((c.toNat : Nat) : Int) = c by omega]; rfl, rfl, rfl, trivial⟩ (E b k bb2 k2 x.toNat x2.toNat c.toNat e1 e2 e5 e6 e3 e4 e7 e8 (by omega) (by omega) (by omega) (by omega) (by omega) (by omega) (by omega))
                          · skip
                            refine xw_bipush (z := -3) dX10_copy_155 (by decide) ?_
                            exact xw_iret dX10_copy_157 rfl (a3 (by omega) (by omega) (by omega) F hF kF)
                        · skip
                          refine xw_bipush (z := -2) dX10_copy_136 (by decide) ?_
                          exact xw_iret dX10_copy_138 rfl (a2 (by omega) (by omega) F hF kF)
          · skip
            refine xw_iconst dX10_copy_67 ?_
            exact xw_iret dX10_copy_68 rfl (a1 (by omega) F hF kF)
      · skip
        refine xw_ifne (tgt := 27) dX10_copy_22 (by decide) (by unfold inI; omega) (fun c => absurd c (by decide)) (fun _ => ?_)
        first
          | exact xw_ls [(0, vR 38)] ⟨rfl, trivial⟩ (Z _ (hx1 (fun q9 => q q9.2) _ (MS_th 1 hF h38 hm).1 (kC_tr kF (MS_th 1 hF h38 hm).2)))
          | exact xw_ls [(0, vR 38)] ⟨rfl, trivial⟩ (Z _ (hx1 (fun q9 => q q9.1) _ (MS_th 1 hF h38 hm).1 (kC_tr kF (MS_th 1 hF h38 hm).2)))
    · skip
      refine xw_ifeq (tgt := 25) dX10_copy_11 (by decide) (by unfold inI; omega) (fun _ => ?_) (fun c => absurd c (by decide))
      first
        | exact xw_ls [(0, vR 38)] ⟨rfl, trivial⟩ (Z _ (hx1 (fun q9 => q q9.2) _ (MS_th 1 hF h38 hm).1 (kC_tr kF (MS_th 1 hF h38 hm).2)))
        | exact xw_ls [(0, vR 38)] ⟨rfl, trivial⟩ (Z _ (hx1 (fun q9 => q q9.1) _ (MS_th 1 hF h38 hm).1 (kC_tr kF (MS_th 1 hF h38 hm).2)))
  obtain ⟨m, h38, hm, _⟩ := id h
  refine xw_aload_n dX10_copy_0 rfl ?_
  refine xw_iconst dX10_copy_1 ?_
  refine xw_putfield dX10_copy_2 (fp_X10_1 _) h38 rfl rfl ?_
  rw [xmd_0]
  exact S _ (MS_th 0 h h38 hm).1 (MS_th 0 h h38 hm).2
set_option maxHeartbeats 4000000 in
theorem mct_push {z : Int} (h : MS f th bn β gn σ d as ps pb pu pr) (hz : inI z) (h1 : pu < 40 → ∀ f1, MS f1 0 bn β gn σ d as ps pb (pu + 1) (xui pr pu z) → kC f f1 → Q (.inl (some (vI ((pu : Int) + 1)))) n f1) (h2 : ¬ pu < 40 → ∀ f1, MS f1 0 bn (β) gn σ d as ps pb pu pr → kC f f1 → Q (.inl (some (vI (-1)))) n f1) : xct g M_X10_push 0 0 [vR 38, vI z] n f Q := by
  refine xct_of rfl rfl (Nat.le_of_ble_eq_true rfl) ?_
  have S : ∀ F, MS F 0 bn β gn σ d as ps pb pu pr → kC f F → xw g M_X10_push Q 0 0 5 [(0, vR 38), (1, vI z)] [] n F := by
    intro F hF kF
    obtain ⟨m, h38, hm, hbx, hst, hac, hpg, hpr, hsh, h40, hd1, hd2⟩ := id hF
    obtain ⟨m0, m1, m6, m7, m13, m14, m15, m23, m42, m60⟩ := id hm
    obtain ⟨c, p77, hpu, hc9⟩ := id hpr
    refine xw_aload_n dX10_push_5 rfl ?_
    refine xw_getfield dX10_push_6 fl_X10_340 h38 rfl ?_
    refine xw_topi (pu : Int) m60 ?_
    refine xw_bipush (z := 40) dX10_push_9 (by decide) ?_
    refine xw_icmpne (tgt := 16) dX10_push_11 (by decide) (by first | assumption | (unfold inI; omega) | (unfold inI at *; omega)) (by first | assumption | (unfold inI; omega) | (unfold inI at *; omega)) (fun c_11 => ?_) (fun c_11 => ?_)
    · skip
      refine xw_aload_n dX10_push_16 rfl ?_
      refine xw_getfield dX10_push_17 fl_X10_133 h38 rfl ?_
      refine xw_aload_n dX10_push_20 rfl ?_
      refine xw_getfield dX10_push_21 fl_X10_340 h38 rfl ?_
      refine xw_iload_n dX10_push_24 rfl ?_
      refine xw_iast dX10_push_25 p77 (j := pu) m60 (by omega) (by decide) ?_
      refine xw_aload_n dX10_push_26 rfl ?_
      refine xw_dup dX10_push_27 rfl ?_
      refine xw_getfield dX10_push_28 fl_X10_340 h38 rfl ?_
      refine xw_iconst dX10_push_31 ?_
      refine xw_iadd dX10_push_32 ?_
      refine xw_putfield dX10_push_33 (fp_X10_340 _) h38 rfl rfl ?_
      rw [xmd_60]
      refine xw_aload_n dX10_push_36 rfl ?_
      refine xw_getfield dX10_push_37 fl_X10_340 rfl rfl ?_
      refine xw_topi ((pu : Int) + 1) (by show m 60 + 1 = _; omega) ?_
      exact xw_iret dX10_push_40 rfl (h1 (by omega) _ ⟨xui m 60 (m 60 + 1), rfl, ⟨m0, m1, m6, m7, m13, m14, m15, m23, m42, by show m 60 + 1 = _; omega⟩, mbx_fr hbx (fun k q1 q2 => (xup_n _ _ (by omega)).trans (xup_n _ _ (by omega))), mst_fr hst (fun k q1 q2 => (xup_n _ _ (by omega)).trans (xup_n _ _ (by omega))), mac_fr hac (fun k q1 q2 => (xup_n _ _ (by omega)).trans (xup_n _ _ (by omega))), mpg_fr hpg rfl, ⟨xui c pu z, rfl, by omega, fun j hj => by
          unfold xui
          by_cases e : j = pu
          · rw [if_pos e, if_pos e]; exact ⟨rfl, hz⟩
          · rw [if_neg e, if_neg e]; exact hc9 j (by omega)⟩, msh_o (msh_o hsh (by decide)) (by decide), h40, hd1, hd2⟩ (kC_up (kC_up kF (by decide) (by decide)) (by decide) (by decide)))
    · skip
      refine xw_iconst dX10_push_14 ?_
      exact xw_iret dX10_push_15 rfl (h2 (by omega) F hF kF)
  obtain ⟨m, h38, hm, _⟩ := id h
  refine xw_aload_n dX10_push_0 rfl ?_
  refine xw_iconst dX10_push_1 ?_
  refine xw_putfield dX10_push_2 (fp_X10_1 _) h38 rfl rfl ?_
  rw [xmd_0]
  exact S _ (MS_th 0 h h38 hm).1 (MS_th 0 h h38 hm).2
set_option maxHeartbeats 4000000 in
theorem mct_octet {z : Int} (h : MS f th bn β gn σ d as ps pb pu pr) (hz : inI z) (hq : ∀ f1, MS f1 0 bn (β) gn σ d as ps pb pu pr → kC f f1 → Q (.inl (some (vI (if 0 ≤ z ∧ z < (ps : Int) then pb z.toNat else -1)))) n f1) : xct g M_X10_octet 0 0 [vR 38, vI z] n f Q := by
  refine xct_of rfl rfl (Nat.le_of_ble_eq_true rfl) ?_
  have S : ∀ F, MS F 0 bn β gn σ d as ps pb pu pr → kC f F → xw g M_X10_octet Q 0 0 5 [(0, vR 38), (1, vI z)] [] n F := by
    intro F hF kF
    obtain ⟨m, h38, hm, hbx, hst, hac, hpg, hpr, hsh, h40, hd1, hd2⟩ := id hF
    obtain ⟨m0, m1, m6, m7, m13, m14, m15, m23, m42, m60⟩ := id hm
    obtain ⟨c, p66, hps, hc9⟩ := id hpg
    have hq := hq F hF kF
    by_cases hb9 : 0 ≤ z ∧ z < (ps : Int)
    · rw [if_pos hb9] at hq
      obtain ⟨j, rfl⟩ : ∃ j : Nat, z = (j : Int) := ⟨z.toNat, by omega⟩
      rw [Int.toNat_natCast] at hq
      refine xw_iload_n dX10_octet_5 rfl ?_
      refine xw_iflt (tgt := 26) dX10_octet_6 (by decide) (by first | assumption | (unfold inI; omega) | (unfold inI at *; omega)) (fun c_6 => ?_) (fun c_6 => ?_)
      · skip
        exfalso; omega
      · skip
        refine xw_iload_n dX10_octet_9 rfl ?_
        refine xw_aload_n dX10_octet_10 rfl ?_
        refine xw_getfield dX10_octet_11 fl_X10_278 h38 rfl ?_
        refine xw_topi (ps : Int) m42 ?_
        refine xw_icmpge (tgt := 26) dX10_octet_14 (by decide) (by first | assumption | (unfold inI; omega) | (unfold inI at *; omega)) (by first | assumption | (unfold inI; omega) | (unfold inI at *; omega)) (fun c_14 => ?_) (fun c_14 => ?_)
        · skip
          exfalso; omega
        · skip
          refine xw_aload_n dX10_octet_17 rfl ?_
          refine xw_getfield dX10_octet_18 fl_X10_100 h38 rfl ?_
          refine xw_iload_n dX10_octet_21 rfl ?_
          refine xw_iald dX10_octet_22 p66 (j := j) rfl (by omega) (by decide) ?_
          refine xw_topi (pb j) (hc9 j (by omega)) ?_
          refine xw_goto (tgt := 27) dX10_octet_23 (by decide) ?_
          exact xw_iret dX10_octet_27 rfl hq
    · rw [if_neg hb9] at hq
      refine xw_iload_n dX10_octet_5 rfl ?_
      refine xw_iflt (tgt := 26) dX10_octet_6 (by decide) (by first | assumption | (unfold inI; omega) | (unfold inI at *; omega)) (fun c_6 => ?_) (fun c_6 => ?_)
      · skip
        refine xw_iconst dX10_octet_26 ?_
        exact xw_iret dX10_octet_27 rfl hq
      · skip
        refine xw_iload_n dX10_octet_9 rfl ?_
        refine xw_aload_n dX10_octet_10 rfl ?_
        refine xw_getfield dX10_octet_11 fl_X10_278 h38 rfl ?_
        refine xw_topi (ps : Int) m42 ?_
        refine xw_icmpge (tgt := 26) dX10_octet_14 (by decide) (by first | assumption | (unfold inI; omega) | (unfold inI at *; omega)) (by first | assumption | (unfold inI; omega) | (unfold inI at *; omega)) (fun c_14 => ?_) (fun c_14 => ?_)
        · skip
          refine xw_iconst dX10_octet_26 ?_
          exact xw_iret dX10_octet_27 rfl hq
        · skip
          exfalso; omega
  obtain ⟨m, h38, hm, _⟩ := id h
  refine xw_aload_n dX10_octet_0 rfl ?_
  refine xw_iconst dX10_octet_1 ?_
  refine xw_putfield dX10_octet_2 (fp_X10_1 _) h38 rfl rfl ?_
  rw [xmd_0]
  exact S _ (MS_th 0 h h38 hm).1 (MS_th 0 h h38 hm).2
end C77
