/-! taking away, moving, undoing, laying -/
theorem no7 {kd mk wo ot : Int} {pc ap : Nat} (h : szA (oSt kd mk wo pc ap ot) = 600 ∨ szA (oSt kd mk wo pc ap ot) = 20 ∨ szA (oSt kd mk wo pc ap ot) = 1001 ∨ szA (oSt kd mk wo pc ap ot) = 1002) : False := by
  rcases h with h | h | h | h <;> exact absurd h (Nat.ne_of_beq_eq_false rfl)
theorem no9 {v : Nat → Int} (h : szA (aI 9 v) = 600 ∨ szA (aI 9 v) = 20 ∨ szA (aI 9 v) = 1001 ∨ szA (aI 9 v) = 1002) : False := by
  rcases h with h | h | h | h <;> exact absurd h (Nat.ne_of_beq_eq_false rfl)
theorem xw_hq {g : xG} {y : xM} {Q : xP} {rc rs pc : Nat} {ls : xS} {st : List xV} {n : Nat} {f : xH} (G : xH) (h : f = G) (k : xw g y Q rc rs pc ls st n G) : xw g y Q rc rs pc ls st n f := by rw [h]; exact k
section C73
variable {g : xG} {y : xM} {Q : xP} {n : Nat} {f : xH} {bn : Nat} {β : Nat → xBx} {gn : Nat} {σ : Nat → xSt} {d : Nat → Int} {as : List xAc} {ps : Nat} {pb : Nat → Int} {pu : Nat} {pr : Nat → Int}
theorem CS_tk {n : Nat} {f : xH} {bn : Nat} {β : Nat → xBx} {gn : Nat} {σ : Nat → xSt} {d : Nat → Int} {as : List xAc} {ps : Nat} {pb : Nat → Int} {pu : Nat} {pr : Nat → Int} {bo so : Nat → Nat} {tk rk ow on : Int} {szl s p : Nat} {a13 a14 a15 a16 a17 : Nat → Int} (hb : bxs f bn bo β) (hs : stk f gn so σ) (hg : sgt f d) (hp : pgs f ps pb) (hl : lsA n f gn σ d) (l20 : f 20 = some (oLs szl ow)) (ht : tgA f tk rk gn σ d) (hr : prf f pu pr) (h40 : hc σ gn ≤ 40) (hw : wf n f) (hx : fx f) (hp8 : p < 8) (hl8 : as.length ≤ 8) (hi : ∀ i x, as[i]? = some x → a13 ((p + 15 - i) % 8) = x.1 ∧ a14 ((p + 15 - i) % 8) = x.2.1 ∧ a15 ((p + 15 - i) % 8) = x.2.2.1 ∧ a16 ((p + 15 - i) % 8) = x.2.2.2.1 ∧ a17 ((p + 15 - i) % 8) = x.2.2.2.2) (hlt : s < gn) (hr9 : hrS (σ s) = 1) (hon : on = (hc σ gn : Int) - 1)
    (G : xH) (hG : G = xup (xup (xup (xup (xup (xup (xup (xup (xup f (so s) (oSk (stS (σ s) 0) (so s + 1))) 0 (oTb bn gn on 0 0 pu)) 20 (oLs szl (-1))) 13 (aI 8 (xui a13 p 3))) 14 (aI 8 (xui a14 p (s : Int)))) 15 (aI 8 (xui a15 p 0))) 16 (aI 8 (xui a16 p 0))) 17 (aI 8 (xui a17 p 0))) 12 (.inr (0, fX0 (if 8 < (as.length : Int) + 1 then 8 else (as.length : Int) + 1) ((p + 1) % 8 : Nat)))) :
    CS n G bn β gn (xui σ s (stS (σ s) 0)) d (aCt 3 (s : Int) 0 0 0 :: as.take 7) ps pb pu pr ∧ kM f G ∧ (hc (xui σ s (stS (σ s) 0)) gn : Int) = (hc σ gn : Int) - 1 ∧ G 0 = some (oTb bn gn on 0 0 pu) := by
  have hk := hs.2.2.1 s hlt
  have hn := n79 hw hx
  have hcn := hc_off hr9 (X := stS (σ s) 0) rfl gn
  rw [if_pos hlt] at hcn
  have Gk : ∀ k, k ≠ 0 → k ≠ 20 → ¬ (12 ≤ k ∧ k ≤ 17) → k ≠ so s → G k = f k := fun k q1 q2 q3 q4 => by rw [hG, xup_n _ _ (by omega), xup_n _ _ (by omega), xup_n _ _ (by omega), xup_n _ _ (by omega), xup_n _ _ (by omega), xup_n _ _ (by omega), xup_n _ _ q2, xup_n _ _ q1, xup_n _ _ q4]
  have G0 : G 0 = some (oTb bn gn on 0 0 pu) := by rw [hG]; rfl
  have Gs : G (so s) = some (oSk (stS (σ s) 0) (so s + 1)) := by rw [hG, xup_n _ _ (by omega), xup_n _ _ (by omega), xup_n _ _ (by omega), xup_n _ _ (by omega), xup_n _ _ (by omega), xup_n _ _ (by omega), xup_n _ _ (by omega), xup_n _ _ (by omega), xup_s]
  have G20 : G 20 = some (oLs szl (-1)) := by rw [hG]; rfl
  have Gw : wf n G := by rw [hG]; exact wf_up (wf_up (wf_up (wf_up (wf_up (wf_up (wf_up (wf_up (wf_up hw (wf_ne hw hk.2.1)) (by omega)) (by omega)) (by omega)) (by omega)) (by omega)) (by omega)) (by omega)) (by omega)
  have e9 : (hc (xui σ s (stS (σ s) 0)) gn : Int) = (hc σ gn : Int) - 1 := by omega
  refine ⟨CS_st (n := n) (f := f) (tk := tk) (rk := rk) (by rw [e9, ← hon]; exact G0) hb (stk_set hs hlt (Gk 2 (by omega) (by omega) (by omega) (by omega)) Gs ((Gk _ (by omega) (by omega) (by omega) (by omega)).trans hk.2.2.1) (okK_st hk.2.2.2 (Or.inl rfl)) (fun k q1 q2 q3 => Gk k (by omega) (by omega) (by omega) q2)) (sgt_fr hg (fun k q1 q2 => Gk k (by omega) (by omega) (by omega) (by omega))) (acs_note hp8 hl8 hi (by rw [hG]; rfl) (by rw [hG]; rfl) (by rw [hG]; rfl) (by rw [hG]; rfl) (by rw [hG]; rfl) (by rw [hG]; rfl)) hp hl (fun sz9 ow9 q => by rw [← oLs_inj (l20.symm.trans q)]; exact G20) ht hr (by omega) Gw hx (fun k q1 q2 q3 => Gk k (by omega) (by omega) (by omega) (by omega)) (fun k e q1 q2 q3 => (Gk k (by omega) (by omega) (by omega) (fun q => by rw [q, hk.2.1] at q2; rw [← Option.some.inj q2] at q3; exact no7 q3)).trans q2), fun k e q1 q2 q3 => (Gk k (by omega) (by omega) (by omega) (by omega)).trans q3, e9, G0⟩
set_option maxHeartbeats 4000000 in
theorem ct_away {z : Int} (h : CS n f bn β gn σ d as ps pb pu pr) (hz : inI z) (h1 : ∀ (s : Nat) f1, z = (s : Int) → s < gn → hrS (σ s) = 1 → CS n f1 bn β gn (xui σ s (stS (σ s) 0)) d (aCt 3 z 0 0 0 :: as.take 7) ps pb pu pr → kM f f1 → Q (.inl (some (vI (hc (xui σ s (stS (σ s) 0)) gn : Int)))) n f1) (hx1 : ¬ hre gn σ z → ∀ n', n ≤ n' → Q (.inr eNSE) n' f) : xct g M_X9_away 1 6 [vR 0, vI z] n f Q := by
  refine xct_of rfl rfl (Nat.le_of_ble_eq_true rfl) ?_
  have hcs0 := h
  obtain ⟨bo, so, tk, rk, h0, hb, hs, hg, ha, hp, hl, ht, hr, h40, hrk, hw, hx⟩ := h
  have hgn := hs.2.1
  have hn := n79 hw hx
  obtain ⟨szl, ow, L, l20, l21, l22, l23, l24⟩ := id hl
  obtain ⟨p, a13, a14, a15, a16, a17, c12, c13, c14, c15, c16, c17, hp8, hl8, hi⟩ := id ha
  refine xw_aload_n dX9_away_0 rfl ?_
  refine xw_aload_n dX9_away_1 rfl ?_
  refine xw_iload_n dX9_away_2 rfl ?_
  refine xw_callV (rc := 0) (rs := 0) (mc2 := 1) (ms2 := 6) (a := 0) (As := [vI z]) (st := [vR 0]) dX9_away_3 mv_X9_149 h0 rfl rfl (by decide) (by decide) (Nat.le_of_ble_eq_true rfl) rfl (ct_stickOnTable h0 hs hz (fun s e1 e2 e3 => ?_) hx1)
  subst e1
  have hk := hs.2.2.1 s e2
  obtain ⟨G, hG⟩ : ∃ G, G = xup (xup (xup (xup (xup (xup (xup (xup (xup f (so s) (oSk (stS (σ s) 0) (so s + 1))) 0 (oTb bn gn ((hc σ gn : Int) - 1) 0 0 pu)) 20 (oLs szl (-1))) 13 (aI 8 (xui a13 p 3))) 14 (aI 8 (xui a14 p (s : Int)))) 15 (aI 8 (xui a15 p 0))) 16 (aI 8 (xui a16 p 0))) 17 (aI 8 (xui a17 p 0))) 12 (.inr (0, fX0 (if 8 < (as.length : Int) + 1 then 8 else (as.length : Int) + 1) ((p + 1) % 8 : Nat))) := ⟨_, rfl⟩
  obtain ⟨hcs, hkm, he9, G0⟩ := CS_tk hb hs hg hp hl l20 ht hr h40 hw hx hp8 hl8 hi e2 e3 rfl G hG
  have hF : ∀ k, k ≠ 0 → k ≠ 20 → k ≠ so s → xup (xup (xup f (so s) (oSk (stS (σ s) 0) (so s + 1))) 0 (oTb bn gn ((hc σ gn : Int) - 1) 0 0 pu)) 20 (oLs szl (-1)) k = f k := fun k q1 q2 q3 => by rw [xup_n _ _ q2, xup_n _ _ q1, xup_n _ _ q3]
  refine xw_callV (rc := 0) (rs := 0) (mc2 := 0) (ms2 := 0) (a := 0) (As := [vR (so s)]) (st := []) dX9_away_6 mv_X9_162 h0 rfl rfl (by decide) (by decide) (Nat.le_of_ble_eq_true rfl) rfl (ct_takeAway h0 l20 hk.2.1 hk.1 ?_)
  refine xw_aload_n dX9_away_9 rfl ?_
  refine xw_getfield dX9_away_10 fl_X9_31 rfl rfl ?_
  refine xw_iconst dX9_away_13 ?_
  refine xw_iload_n dX9_away_14 rfl ?_
  refine xw_iconst dX9_away_15 ?_
  refine xw_iconst dX9_away_16 ?_
  refine xw_iconst dX9_away_17 ?_
  refine xw_callV (rc := 0) (rs := 0) (mc2 := 0) (ms2 := 0) (a := 12) (As := [vI 3, vI (s : Int), vI 0, vI 0, vI 0]) (st := []) dX9_away_18 mv_X9_145 ((hF 12 (by omega) (by omega) (by omega)).trans c12) rfl rfl (by decide) (by decide) (Nat.le_of_ble_eq_true rfl) rfl (ct_note ((hF 12 (by omega) (by omega) (by omega)).trans c12) ((hF 13 (by omega) (by omega) (by omega)).trans c13) ((hF 14 (by omega) (by omega) (by omega)).trans c14) ((hF 15 (by omega) (by omega) (by omega)).trans c15) ((hF 16 (by omega) (by omega) (by omega)).trans c16) ((hF 17 (by omega) (by omega) (by omega)).trans c17) hp8 (by omega) ?_)
  refine xw_hq G hG.symm ?_
  refine xw_aload_n dX9_away_21 rfl ?_
  refine xw_getfield dX9_away_22 fl_X9_131 G0 rfl ?_
  refine xw_topi _ he9.symm ?_
  exact xw_iret dX9_away_25 rfl (h1 s G rfl e2 e3 hcs hkm)
set_option maxHeartbeats 4000000 in
theorem ct_lift {z : Int} (h : CS n f bn β gn σ d as ps pb pu pr) (hz : inI z) (h1 : ∀ (s : Nat) f1, z = (s : Int) → s < gn → hrS (σ s) = 1 → CS n f1 bn β gn (xui σ s (stS (σ s) 0)) d (aCt 3 z 0 0 0 :: as.take 7) ps pb pu pr → kM f f1 → onA gn σ d (fun sz ls kc c w av bv rv lf ly ks N => av (hc σ s) = 0) → Q (.inl (some (vI 1))) n f1) (h2 : ∀ (s : Nat) f1, z = (s : Int) → s < gn → hrS (σ s) = 1 → CS n f1 bn β gn σ d as ps pb pu pr → kM f f1 → onA gn σ d (fun sz ls kc c w av bv rv lf ly ks N => av (hc σ s) ≠ 0) → Q (.inl (some (vI 0))) n f1) (hx1 : ¬ hre gn σ z → ∀ n', n ≤ n' → Q (.inr eNSE) n' f) : xct g M_X9_lift 1 6 [vR 0, vI z] n f Q := by
  refine xct_of rfl rfl (Nat.le_of_ble_eq_true rfl) ?_
  obtain ⟨bo, so, tk, rk, h0, hb, hs, hg, ha, hp, hl, ht, hr, h40, hrk, hw, hx⟩ := h
  have E : ∀ (s : Nat) (f1 : xH), z = (s : Int) → s < gn → hrS (σ s) = 1 → CS n f1 bn β gn σ d as ps pb pu pr → stk f1 gn so σ → kM f f1 → onA gn σ d (fun sz ls kc c w av bv rv lf ly ks N => av (hc σ s) = 0) → xw g M_X9_lift Q 0 0 19 [(0, vR 0), (1, vI z), (2, vR (so s))] [] n f1 := by
    intro s f1 e1 e2 e3 hcs1 hs1 hkm1 hon
    subst e1
    obtain ⟨bo1, so1, tk1, rk1, h01, hb1, hsx, hg1, ha1, hp1, hl1, ht1, hr1, h401, hrk1, hw1, hx1'⟩ := hcs1
    obtain ⟨szl, ow, L, l20, l21, l22, l23, l24⟩ := id hl1
    obtain ⟨p, a13, a14, a15, a16, a17, c12, c13, c14, c15, c16, c17, hp8, hl8, hi⟩ := id ha1
    have hk := hs1.2.2.1 s e2
    obtain ⟨G, hG⟩ : ∃ G, G = xup (xup (xup (xup (xup (xup (xup (xup (xup f1 (so s) (oSk (stS (σ s) 0) (so s + 1))) 0 (oTb bn gn ((hc σ gn : Int) - 1) 0 0 pu)) 20 (oLs szl (-1))) 13 (aI 8 (xui a13 p 3))) 14 (aI 8 (xui a14 p (s : Int)))) 15 (aI 8 (xui a15 p 0))) 16 (aI 8 (xui a16 p 0))) 17 (aI 8 (xui a17 p 0))) 12 (.inr (0, fX0 (if 8 < (as.length : Int) + 1 then 8 else (as.length : Int) + 1) ((p + 1) % 8 : Nat))) := ⟨_, rfl⟩
    obtain ⟨hcs, hkm, he9, G0⟩ := CS_tk hb1 hs1 hg1 hp1 hl1 l20 ht1 hr1 h401 hw1 hx1' hp8 hl8 hi e2 e3 rfl G hG
    have hF : ∀ k, k ≠ 0 → k ≠ 20 → k ≠ so s → xup (xup (xup f1 (so s) (oSk (stS (σ s) 0) (so s + 1))) 0 (oTb bn gn ((hc σ gn : Int) - 1) 0 0 pu)) 20 (oLs szl (-1)) k = f1 k := fun k q1 q2 q3 => by rw [xup_n _ _ q2, xup_n _ _ q1, xup_n _ _ q3]
    refine xw_aload_n dX9_lift_19 rfl ?_
    refine xw_aload_n dX9_lift_20 rfl ?_
    refine xw_callV (rc := 0) (rs := 0) (mc2 := 0) (ms2 := 0) (a := 0) (As := [vR (so s)]) (st := []) dX9_lift_21 mv_X9_162 h01 rfl rfl (by decide) (by decide) (Nat.le_of_ble_eq_true rfl) rfl (ct_takeAway h01 l20 hk.2.1 hk.1 ?_)
    refine xw_aload_n dX9_lift_24 rfl ?_
    refine xw_getfield dX9_lift_25 fl_X9_31 rfl rfl ?_
    refine xw_iconst dX9_lift_28 ?_
    refine xw_iload_n dX9_lift_29 rfl ?_
    refine xw_iconst dX9_lift_30 ?_
    refine xw_iconst dX9_lift_31 ?_
    refine xw_iconst dX9_lift_32 ?_
    refine xw_callV (rc := 0) (rs := 0) (mc2 := 0) (ms2 := 0) (a := 12) (As := [vI 3, vI (s : Int), vI 0, vI 0, vI 0]) (st := []) dX9_lift_33 mv_X9_145 ((hF 12 (by omega) (by omega) (by omega)).trans c12) rfl rfl (by decide) (by decide) (Nat.le_of_ble_eq_true rfl) rfl (ct_note ((hF 12 (by omega) (by omega) (by omega)).trans c12) ((hF 13 (by omega) (by omega) (by omega)).trans c13) ((hF 14 (by omega) (by omega) (by omega)).trans c14) ((hF 15 (by omega) (by omega) (by omega)).trans c15) ((hF 16 (by omega) (by omega) (by omega)).trans c16) ((hF 17 (by omega) (by omega) (by omega)).trans c17) hp8 (by omega) ?_)
    refine xw_hq G hG.symm ?_
    refine xw_iconst dX9_lift_36 ?_
    exact xw_zret dX9_lift_37 rfl rfl (h1 s G rfl e2 e3 hcs (kM_tr hkm1 hkm) hon)
  refine xw_aload_n dX9_lift_0 rfl ?_
  refine xw_iload_n dX9_lift_1 rfl ?_
  refine xw_callV (rc := 0) (rs := 0) (mc2 := 1) (ms2 := 6) (a := 0) (As := [vI z]) (st := []) dX9_lift_2 mv_X9_149 h0 rfl rfl (by decide) (by decide) (Nat.le_of_ble_eq_true rfl) rfl (ct_stickOnTable h0 hs hz (fun s e1 e2 e3 => ?_) hx1)
  refine xw_astore_n dX9_lift_5 (by decide) ?_
  refine xw_aload_n dX9_lift_6 rfl ?_
  refine xw_callV (rc := 0) (rs := 0) (mc2 := 0) (ms2 := 0) (a := 0) (As := []) (st := []) dX9_lift_7 mv_X9_165 h0 rfl rfl (by decide) (by decide) (Nat.le_of_ble_eq_true rfl) rfl (ct_tangleNow h0 hs hg ht h40 (fun f1 hf1 i0 ig it => ?_))
  have hcs : CS n f1 bn β gn σ d as ps pb pu pr := CS_now i0 hb hs ig ha hp hl it hr h40 hrk hw hx (fun k q => hf1 k (fun q2 => by have := nw_in q2; omega))
  have hs1 : stk f1 gn so σ := stk_fr hs (hf1 2 (by decide)) (fun k q => hf1 k (fun q2 => by have := nw_in q2; omega))
  have hkm : kM f f1 := fun k e q1 q2 q3 => (hf1 k (fun q4 => by have := nw_in q4; omega)).trans q3
  obtain ⟨sz, ls, kc, c, w, av, bv, rv, lf, ly, ks, wv, N, ⟨m22, m23, m24, m25, m26, m27, m28, m29, m30, m31⟩, hB, hG9, hR9, hrm⟩ := id it
  have hD : tgD gn σ d sz ls kc c w av bv rv lf ly ks N := ⟨hB, hG9, hR9⟩
  have hsz := hG9.2.1
  have hci : ∀ j, j < sz → inI (c j) := fun j hj => by have q := hG9.2.2.1 j hj; rw [q.2.2.2.1]; have := hs.2.1; unfold inI; omega
  have hav : ∀ j, j < sz → av j < 2 ^ 40 := fun j hj => (hB.1 j (by omega)).1
  have hpl := tg_pl hG9 e2 e3
  refine xw_iload_n dX9_lift_10 rfl ?_
  refine xw_callV (rc := 0) (rs := 0) (mc2 := 0) (ms2 := 0) (a := 22) (As := [vI z]) (st := []) dX9_lift_11 mv_X9_169 m22 rfl rfl (by decide) (by decide) (Nat.le_of_ble_eq_true rfl) rfl (ct_isFree m22 m23 m25 hsz hz hci hav (fun q q1 q2 q3 => ?_) (fun q1 => ?_))
  · skip
    refine xw_ifne (tgt := 19) dX9_lift_14 (by decide) (by unfold inI; omega) (fun _ => ?_) (fun c => absurd c (by decide))
    exact xw_ls [(0, vR 0), (1, vI z), (2, vR (so s))] ⟨rfl, rfl, rfl, trivial⟩ (E s f1 e1 e2 e3 hcs hs1 hkm ⟨sz, ls, kc, c, w, av, bv, rv, lf, ly, ks, N, hD, by dsimp only; rw [e1, hpl.2.2] at q2; rw [show hc σ s = q by omega]; exact q3⟩)
  · skip
    refine xw_ifne (tgt := 19) dX9_lift_14 (by decide) (by unfold inI; omega) (fun c => absurd c (by decide)) (fun _ => ?_)
    refine xw_iconst dX9_lift_17 ?_
    exact xw_zret dX9_lift_18 rfl rfl (h2 s f1 e1 e2 e3 hcs hkm ⟨sz, ls, kc, c, w, av, bv, rv, lf, ly, ks, N, hD, q1 (hc σ s) hpl.1 (by rw [e1]; exact hpl.2.2)⟩)
set_option maxHeartbeats 4000000 in
theorem ct_undo (h : CS n f bn β gn σ d as ps pb pu pr) (h1 : as = [] → Q (.inl (some (vI (-1)))) n f) (h2 : ∀ x as1 f1, as = x :: as1 → CS n f1 bn β gn (und σ x) d as1 ps pb pu pr → kM f f1 → Q (.inl (some (vI x.1))) n f1) (hu : ∀ x as1, as = x :: as1 → undOK gn σ x) : xct g M_X9_undo 0 0 [vR 0] n f Q := by
  refine xct_of rfl rfl (Nat.le_of_ble_eq_true rfl) ?_
  have hcs0 := h
  obtain ⟨bo, so, tk, rk, h0, hb, hs, hg, ha, hp, hl, ht, hr, h40, hrk, hw, hx⟩ := h
  have hgn := hs.2.1
  have hn := n79 hw hx
  obtain ⟨szl, ow, L, l20, l21, l22, l23, l24⟩ := id hl
  obtain ⟨p, a13, a14, a15, a16, a17, c12, c13, c14, c15, c16, c17, hp8, hl8, hi⟩ := id ha
  cases as with
  | nil =>
    refine xw_aload_n dX9_undo_0 rfl ?_
    refine xw_getfield dX9_undo_1 fl_X9_31 h0 rfl ?_
    refine xw_getfield dX9_undo_4 fl_X9_181 c12 rfl ?_
    refine xw_ifne (tgt := 12) dX9_undo_7 (by decide) (by first | assumption | (unfold inI; omega) | (unfold inI at *; omega)) (fun c_7 => ?_) (fun c_7 => ?_)
    · skip
      exact absurd rfl c_7
    · skip
      refine xw_iconst dX9_undo_10 ?_
      exact xw_iret dX9_undo_11 rfl (h1 rfl)
  | cons x as1 =>
    obtain ⟨s, us, ug, uk⟩ := hu x as1 rfl
    have hx0 := hi 0 x rfl
    obtain ⟨q9, hq9⟩ : ∃ q9, q9 = (p + 7) % 8 := ⟨_, rfl⟩
    rw [show (p + 15 - 0) % 8 = q9 by omega] at hx0
    have hq8 : q9 < 8 := by omega
    have hk := hs.2.2.1 s ug
    have hlen : ((x :: as1).length : Int) = (as1.length : Int) + 1 := by rw [List.length_cons]; omega
    have hl1 : as1.length + 1 ≤ 8 := hl8
    obtain ⟨F, hF⟩ : ∃ F, F = xup f 12 (.inr (0, fX0 (((x :: as1).length : Int) - 1) ((p + 7) % 8 : Nat))) := ⟨_, rfl⟩
    have Fk : ∀ k, k ≠ 12 → F k = f k := fun k q => by rw [hF, xup_n _ _ q]
    have F12 : F 12 = some (.inr (0, fX0 (as1.length : Int) (q9 : Nat))) := by rw [hF, xup_s, hq9, show ((x :: as1).length : Int) - 1 = (as1.length : Int) by omega]
    have Fs : stk F gn so σ := stk_fr hs (Fk 2 (by omega)) (fun k q => Fk k (by omega))
    have Fw : wf n F := by rw [hF]; exact wf_up hw (by omega)
    have acsG : ∀ G : xH, (∀ k, 12 ≤ k → k ≤ 17 → G k = F k) → acs G as1 := by
      intro G hG
      refine ⟨q9, a13, a14, a15, a16, a17, (hG 12 (by omega) (by omega)).trans F12, (hG 13 (by omega) (by omega)).trans ((Fk 13 (by omega)).trans c13), (hG 14 (by omega) (by omega)).trans ((Fk 14 (by omega)).trans c14), (hG 15 (by omega) (by omega)).trans ((Fk 15 (by omega)).trans c15), (hG 16 (by omega) (by omega)).trans ((Fk 16 (by omega)).trans c16), (hG 17 (by omega) (by omega)).trans ((Fk 17 (by omega)).trans c17), hq8, by omega, fun i a hia => ?_⟩
      have hb9 := (List.getElem?_eq_some_iff.mp hia).1
      have h9 := hi (i + 1) a (by rw [List.getElem?_cons_succ]; exact hia)
      rw [show (q9 + 15 - i) % 8 = (p + 15 - (i + 1)) % 8 by omega]
      exact h9
    -- the end, from any heap that has the stick as it should be
    have K : ∀ (G : xH) (X : xSt), G 0 = some (oTb bn gn (hc (xui σ s X) gn : Int) 0 0 pu) → G 20 = some (oLs szl (-1)) → G (so s) = some (oSk X (so s + 1)) → G (so s + 1) = some (aI 9 (ptS X)) → okK X → (∀ k, k ≠ 0 → k ≠ 20 → k ≠ so s → k ≠ so s + 1 → G k = F k) → hc (xui σ s X) gn ≤ 40 → wf n G → und σ x = xui σ s X → Q (.inl (some (vI x.1))) n G := by
      intro G X G0 G20 Gs Gs1 hX Gk g40 Gw hux
      refine h2 x as1 G rfl ?_ (fun k e q1 q2 q3 => (Gk k (by omega) (by omega) (by omega) (by omega)).trans ((Fk k (by omega)).trans q3))
      rw [hux]
      exact CS_st (n := n) (f := f) (tk := tk) (rk := rk) G0 hb (stk_set Fs ug (Gk 2 (by omega) (by omega) (by omega) (by omega)) Gs Gs1 hX (fun k q1 q2 q3 => Gk k (by omega) (by omega) q2 q3)) (sgt_fr hg (fun k q1 q2 => (Gk k (by omega) (by omega) (by omega) (by omega)).trans (Fk k (by omega)))) (acsG G (fun k q1 q2 => Gk k (by omega) (by omega) (by omega) (by omega))) hp hl (fun sz9 ow9 q => by rw [← oLs_inj (l20.symm.trans q)]; exact G20) ht hr g40 Gw hx (fun k q1 q2 q3 => (Gk k (by omega) (by omega) (by omega) (by omega)).trans (Fk k (by omega))) (fun k e q1 q2 q3 => (Gk k (by omega) (by omega) (fun q => by rw [q, hk.2.1] at q2; rw [← Option.some.inj q2] at q3; exact no7 q3) (fun q => by rw [q, hk.2.2.1] at q2; rw [← Option.some.inj q2] at q3; exact no9 q3)).trans ((Fk k (by omega)).trans q2))
    have F0 : F 0 = some (oTb bn gn (hc σ gn : Int) tk rk pu) := (Fk 0 (by omega)).trans h0
    have F20 : F 20 = some (oLs szl ow) := (Fk 20 (by omega)).trans l20
    have Fso : F (so s) = some (oSk (σ s) (so s + 1)) := (Fk _ (by omega)).trans hk.2.1
    have Fsp : F (so s + 1) = some (aI 9 (ptS (σ s))) := (Fk _ (by omega)).trans hk.2.2.1
    have F14 : F 14 = some (aI 8 a14) := (Fk 14 (by omega)).trans c14
    have F13 : F 13 = some (aI 8 a13) := (Fk 13 (by omega)).trans c13
    have F15 : F 15 = some (aI 8 a15) := (Fk 15 (by omega)).trans c15
    have F16 : F 16 = some (aI 8 a16) := (Fk 16 (by omega)).trans c16
    have F17 : F 17 = some (aI 8 a17) := (Fk 17 (by omega)).trans c17
    have sl := wf_ne hw hk.2.1
    have sl1 := wf_ne hw hk.2.2.1
    have ux : x.2.1.toNat = s := by rw [us, Int.toNat_natCast]
    have hx1i : x.1 = 1 ∨ x.1 = 2 ∨ x.1 = 3 := by rcases uk with q | q | q; exact Or.inl q.1; exact Or.inr (Or.inl q.1); exact Or.inr (Or.inr q.1)
    have T : ∀ G : xH, Q (.inl (some (vI x.1))) n G → xw g M_X9_undo Q 0 0 124 [(0, vR 0), (4, vI x.1)] [] n G := by
      intro G hqG
      refine xw_iload dX9_undo_124 rfl ?_
      exact xw_iret dX9_undo_126 rfl hqG
    have U1 : x.1 = 1 → hrS (σ s) = 1 → xw g M_X9_undo Q 0 0 58 [(0, vR 0), (1, vI (q9 : Int)), (2, vI (s : Int)), (3, vR (so s)), (4, vI x.1)] [] n F := by
      intro u1 u2
      have hcn := hc_off u2 (X := stS (σ s) 0) rfl gn
      rw [if_pos ug] at hcn
      refine xw_iload dX9_undo_58 rfl ?_
      refine xw_iconst dX9_undo_60 ?_
      refine xw_icmpne (tgt := 72) dX9_undo_61 (by decide) (by first | assumption | (unfold inI; omega) | (unfold inI at *; omega)) (by first | assumption | (unfold inI; omega) | (unfold inI at *; omega)) (fun c_61 => ?_) (fun c_61 => ?_)
      · skip
        exact absurd u1 c_61
      · skip
        refine xw_aload_n dX9_undo_64 rfl ?_
        refine xw_aload_n dX9_undo_65 rfl ?_
        refine xw_callV (rc := 0) (rs := 0) (mc2 := 0) (ms2 := 0) (a := 0) (As := [vR (so s)]) (st := []) dX9_undo_66 mv_X9_162 F0 rfl rfl (by decide) (by decide) (Nat.le_of_ble_eq_true rfl) rfl (ct_takeAway F0 F20 Fso hk.1 ?_)
        refine xw_goto (tgt := 124) dX9_undo_69 (by decide) ?_
        exact xw_ls [(0, vR 0), (4, vI x.1)] ⟨rfl, rfl, trivial⟩ (T _ (K _ (stS (σ s) 0) (by rw [show ((hc (xui σ s (stS (σ s) 0)) gn : Nat) : Int) = (hc σ gn : Int) - 1 by omega]; rfl) rfl (by rw [xup_n _ _ (by omega), xup_n _ _ (by omega), xup_s]; rfl) (by rw [xup_n _ _ (by omega), xup_n _ _ (by omega), xup_n _ _ (by omega)]; exact Fsp) (okK_st hk.2.2.2 (Or.inl rfl)) (fun k q1 q2 q3 q4 => by rw [xup_n _ _ q2, xup_n _ _ q1, xup_n _ _ q3]) (by omega) (wf_up (wf_up (wf_up Fw sl) (by omega)) (by omega)) (by unfold und; rw [ux, if_pos u1])))
    have U2 : x.1 = 2 → okK (mvS (σ s) (-x.2.2.1) (-x.2.2.2.1) (-x.2.2.2.2)) → xw g M_X9_undo Q 0 0 58 [(0, vR 0), (1, vI (q9 : Int)), (2, vI (s : Int)), (3, vR (so s)), (4, vI x.1)] [] n F := by
      intro u1 u2
      have hcn : hc (xui σ s (mvS (σ s) (-x.2.2.1) (-x.2.2.2.1) (-x.2.2.2.2))) gn = hc σ gn := hc_cg gn (fun t ht9 => by
        by_cases e : t = s
        · subst e; rw [xui_s]; rfl
        · rw [xui_n _ _ e])
      refine xw_iload dX9_undo_58 rfl ?_
      refine xw_iconst dX9_undo_60 ?_
      refine xw_icmpne (tgt := 72) dX9_undo_61 (by decide) (by first | assumption | (unfold inI; omega) | (unfold inI at *; omega)) (by first | assumption | (unfold inI; omega) | (unfold inI at *; omega)) (fun c_61 => ?_) (fun c_61 => ?_)
      · skip
        refine xw_iload dX9_undo_72 rfl ?_
        refine xw_iconst dX9_undo_74 ?_
        refine xw_icmpne (tgt := 119) dX9_undo_75 (by decide) (by first | assumption | (unfold inI; omega) | (unfold inI at *; omega)) (by first | assumption | (unfold inI; omega) | (unfold inI at *; omega)) (fun c_75 => ?_) (fun c_75 => ?_)
        · skip
          exact absurd u1 c_75
        · skip
          refine xw_aload_n dX9_undo_78 rfl ?_
          refine xw_aload_n dX9_undo_79 rfl ?_
          refine xw_getfield dX9_undo_80 fl_X9_31 F0 rfl ?_
          refine xw_getfield dX9_undo_83 fl_X9_196 F12 rfl ?_
          refine xw_iload_n dX9_undo_86 rfl ?_
          refine xw_iald dX9_undo_87 F15 (j := q9) rfl hq8 (by decide) ?_
          refine xw_topi x.2.2.1 hx0.2.2.1 ?_
          refine xw_ineg dX9_undo_88 ?_
          refine xw_aload_n dX9_undo_89 rfl ?_
          refine xw_getfield dX9_undo_90 fl_X9_31 F0 rfl ?_
          refine xw_getfield dX9_undo_93 fl_X9_199 F12 rfl ?_
          refine xw_iload_n dX9_undo_96 rfl ?_
          refine xw_iald dX9_undo_97 F16 (j := q9) rfl hq8 (by decide) ?_
          refine xw_topi x.2.2.2.1 hx0.2.2.2.1 ?_
          refine xw_ineg dX9_undo_98 ?_
          refine xw_aload_n dX9_undo_99 rfl ?_
          refine xw_getfield dX9_undo_100 fl_X9_31 F0 rfl ?_
          refine xw_getfield dX9_undo_103 fl_X9_202 F12 rfl ?_
          refine xw_iload_n dX9_undo_106 rfl ?_
          refine xw_iald dX9_undo_107 F17 (j := q9) rfl hq8 (by decide) ?_
          refine xw_topi x.2.2.2.2 hx0.2.2.2.2 ?_
          refine xw_ineg dX9_undo_108 ?_
          refine xw_callV (rc := 0) (rs := 0) (mc2 := 0) (ms2 := 0) (a := (so s)) (As := [vI (-x.2.2.1), vI (-x.2.2.2.1), vI (-x.2.2.2.2)]) (st := []) dX9_undo_109 mv_X9_156 Fso rfl rfl (by decide) (by decide) (Nat.le_of_ble_eq_true rfl) rfl (ct_shift Fso Fsp (pcS_2 _) (by omega) ?_)
          refine xw_aload_n dX9_undo_112 rfl ?_
          refine xw_callV (rc := 0) (rs := 0) (mc2 := 0) (ms2 := 0) (a := 0) (As := []) (st := []) dX9_undo_113 mv_X9_159 ((xup_n _ _ (by omega)).trans F0) rfl rfl (by decide) (by decide) (Nat.le_of_ble_eq_true rfl) rfl (ct_forget ((xup_n _ _ (by omega)).trans F0) ((xup_n _ _ (by omega)).trans F20) ?_)
          refine xw_goto (tgt := 124) dX9_undo_116 (by decide) ?_
          exact xw_ls [(0, vR 0), (4, vI x.1)] ⟨rfl, rfl, trivial⟩ (T _ (K _ (mvS (σ s) (-x.2.2.1) (-x.2.2.2.1) (-x.2.2.2.2)) (by rw [hcn]; rfl) rfl (by rw [xup_n _ _ (by omega), xup_n _ _ (by omega), xup_n _ _ (by omega)]; exact Fso) (by rw [xup_n _ _ (by omega), xup_n _ _ (by omega), xup_s]; rfl) u2 (fun k q1 q2 q3 q4 => by rw [xup_n _ _ q2, xup_n _ _ q1, xup_n _ _ q4]) (by rw [hcn]; exact h40) (wf_up (wf_up (wf_up Fw sl1) (by omega)) (by omega)) (by unfold und; rw [ux, if_neg (by rw [u1]; decide), if_pos u1])))
      · skip
        exact absurd (u1.symm.trans c_61) (by decide)
    have U3 : x.1 = 3 → hrS (σ s) ≠ 1 → hc σ gn < 40 → xw g M_X9_undo Q 0 0 58 [(0, vR 0), (1, vI (q9 : Int)), (2, vI (s : Int)), (3, vR (so s)), (4, vI x.1)] [] n F := by
      intro u1 u2 u3
      have hcn := hc_on u2 (X := stS (σ s) 1) rfl gn
      rw [if_pos ug] at hcn
      refine xw_iload dX9_undo_58 rfl ?_
      refine xw_iconst dX9_undo_60 ?_
      refine xw_icmpne (tgt := 72) dX9_undo_61 (by decide) (by first | assumption | (unfold inI; omega) | (unfold inI at *; omega)) (by first | assumption | (unfold inI; omega) | (unfold inI at *; omega)) (fun c_61 => ?_) (fun c_61 => ?_)
      · skip
        refine xw_iload dX9_undo_72 rfl ?_
        refine xw_iconst dX9_undo_74 ?_
        refine xw_icmpne (tgt := 119) dX9_undo_75 (by decide) (by first | assumption | (unfold inI; omega) | (unfold inI at *; omega)) (by first | assumption | (unfold inI; omega) | (unfold inI at *; omega)) (fun c_75 => ?_) (fun c_75 => ?_)
        · skip
          refine xw_aload_n dX9_undo_119 rfl ?_
          refine xw_aload_n dX9_undo_120 rfl ?_
          refine xw_callV (rc := 0) (rs := 0) (mc2 := 0) (ms2 := 0) (a := 0) (As := [vR (so s)]) (st := []) dX9_undo_121 mv_X9_141 F0 rfl rfl (by decide) (by decide) (Nat.le_of_ble_eq_true rfl) rfl (ct_bringBack F0 F20 Fso hk.1 ?_)
          exact xw_ls [(0, vR 0), (4, vI x.1)] ⟨rfl, rfl, trivial⟩ (T _ (K _ (stS (σ s) 1) (by rw [show ((hc (xui σ s (stS (σ s) 1)) gn : Nat) : Int) = (hc σ gn : Int) + 1 by omega]; rfl) rfl (by rw [xup_n _ _ (by omega), xup_n _ _ (by omega), xup_s]; rfl) (by rw [xup_n _ _ (by omega), xup_n _ _ (by omega), xup_n _ _ (by omega)]; exact Fsp) (okK_st hk.2.2.2 (Or.inr rfl)) (fun k q1 q2 q3 q4 => by rw [xup_n _ _ q2, xup_n _ _ q1, xup_n _ _ q3]) (by omega) (wf_up (wf_up (wf_up Fw sl) (by omega)) (by omega)) (by unfold und; rw [ux, if_neg (by rw [u1]; decide), if_neg (by rw [u1]; decide)])))
        · skip
          exact absurd (u1.symm.trans c_75) (by decide)
      · skip
        exact absurd (u1.symm.trans c_61) (by decide)
    refine xw_aload_n dX9_undo_0 rfl ?_
    refine xw_getfield dX9_undo_1 fl_X9_31 h0 rfl ?_
    refine xw_getfield dX9_undo_4 fl_X9_181 c12 rfl ?_
    refine xw_ifne (tgt := 12) dX9_undo_7 (by decide) (by rw [hlen]; unfold inI; omega) (fun c_7 => ?_) (fun c_7 => ?_)
    · skip
      refine xw_aload_n dX9_undo_12 rfl ?_
      refine xw_getfield dX9_undo_13 fl_X9_31 h0 rfl ?_
      refine xw_callV (rc := 0) (rs := 0) (mc2 := 0) (ms2 := 0) (a := 12) (As := []) (st := []) dX9_undo_16 mv_X9_184 c12 rfl rfl (by decide) (by decide) (Nat.le_of_ble_eq_true rfl) rfl (ct_dropLatest c12 hp8 ?_)
      rw [← hF, ← hq9]
      refine xw_istore_n dX9_undo_19 (by decide) ?_
      refine xw_aload_n dX9_undo_20 rfl ?_
      refine xw_getfield dX9_undo_21 fl_X9_31 F0 rfl ?_
      refine xw_getfield dX9_undo_24 fl_X9_188 F12 rfl ?_
      refine xw_iload_n dX9_undo_27 rfl ?_
      refine xw_iald dX9_undo_28 F14 (j := q9) rfl hq8 (by decide) ?_
      refine xw_topi (s : Int) (hx0.2.1.trans us) ?_
      refine xw_istore_n dX9_undo_29 (by decide) ?_
      refine xw_aload_n dX9_undo_30 rfl ?_
      refine xw_iload_n dX9_undo_31 rfl ?_
      refine xw_callV (rc := 0) (rs := 0) (mc2 := 0) (ms2 := 0) (a := 0) (As := [vI (s : Int)]) (st := []) dX9_undo_32 mv_X9_190 F0 rfl rfl (by decide) (by decide) (Nat.le_of_ble_eq_true rfl) rfl (ct_wasGiven F0 Fs (by unfold inI; omega) (fun s9 hs1 hs2 => ?_) (fun q => absurd ug (q s rfl)))
      refine xw_ifne (tgt := 40) dX9_undo_35 (by decide) (by unfold inI; omega) (fun _ => ?_) (fun c => absurd c (by decide))
      refine xw_aload_n dX9_undo_40 rfl ?_
      refine xw_getfield dX9_undo_41 fl_X9_17 F0 rfl ?_
      refine xw_iload_n dX9_undo_44 rfl ?_
      refine xw_aald dX9_undo_45 Fs.1 rfl (j := s) rfl (by omega) (by decide) ?_
      refine xw_topr (so s) (if_pos ug) ?_
      refine xw_astore_n dX9_undo_46 (by decide) ?_
      refine xw_aload_n dX9_undo_47 rfl ?_
      refine xw_getfield dX9_undo_48 fl_X9_31 F0 rfl ?_
      refine xw_getfield dX9_undo_51 fl_X9_193 F12 rfl ?_
      refine xw_iload_n dX9_undo_54 rfl ?_
      refine xw_iald dX9_undo_55 F13 (j := q9) rfl hq8 (by decide) ?_
      refine xw_topi x.1 hx0.1 ?_
      refine xw_istore dX9_undo_56 (by decide) ?_
      refine xw_ls [(0, vR 0), (1, vI (q9 : Int)), (2, vI (s : Int)), (3, vR (so s)), (4, vI x.1)] ⟨rfl, rfl, rfl, rfl, rfl, trivial⟩ ?_
      rcases uk with ⟨u1, u2⟩ | ⟨u1, u2⟩ | ⟨u1, u2, u3⟩
      · exact U1 u1 u2
      · exact U2 u1 u2
      · exact U3 u1 u2 u3
    · skip
      exfalso; omega
end C73
