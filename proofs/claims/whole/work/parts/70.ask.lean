/-! the calls that ask about the tangle -/
theorem xnth_rg (s : Nat → Bool) (i : Int) : ∀ (k : Nat) (c : Int) (a : Nat), -1 ≤ xnth s i c a k ∧ xnth s i c a k < ((a + k : Nat) : Int) := by
  intro k
  induction k with
  | zero => intro c a; unfold xnth; omega
  | succ k ih =>
    intro c a
    unfold xnth
    have h1 := ih (c + 1) (a + 1)
    have h2 := ih c (a + 1)
    split
    · split <;> omega
    · omega
theorem rgo_rg (av bv : Nat → Nat) (sz p len : Nat) : ∀ (k t a : Nat), a < 40 → -1 ≤ rgo av bv sz p len k t a ∧ rgo av bv sz p len k t a < 40 := by
  intro k
  induction k with
  | zero => intro t a h; unfold rgo; omega
  | succ k ih =>
    intro t a h
    unfold rgo
    split
    · omega
    · have h1 := xnth_rg (fun q => (av a &&& wlk bv sz p (len - t)).testBit q) 0 40 0 0
      exact ih _ _ (by omega)
theorem rst_rg (bv : Nat → Nat) (sz set : Nat) : ∀ (k p : Nat) (s : Int) (l mo : Nat), (-1 ≤ s ∧ s < 40) → p + k ≤ 40 → -1 ≤ (rst bv sz set k p s l mo).1 ∧ (rst bv sz set k p s l mo).1 < 40 := by
  intro k
  induction k with
  | zero => intro p s l mo h _; exact h
  | succ k ih =>
    intro p s l mo h hp
    unfold rst
    by_cases h1 : 0 < (if set.testBit p = true then rngf bv sz p mo 1 else 0)
    · rw [if_pos h1]; exact ih (p + 1) _ _ _ (by omega) (by omega)
    · rw [if_neg h1]; exact ih (p + 1) _ _ _ h (by omega)
theorem pir_rg {av bv : Nat → Nat} {sz set : Nat} {i : Int} (hsz : sz ≤ 40) : -1 ≤ pir av bv sz set i ∧ pir av bv sz set i < 40 := by
  unfold pir
  split
  · omega
  · have h1 := rst_rg bv sz set sz 0 (-1) 0 (cnt set 40) (by omega) (by omega)
    exact rgo_rg _ _ _ _ _ _ _ _ (by omega)
theorem lio_lf (av : Nat → Nat) (sz : Nat) : ∀ (m t L : Nat) (lf ly : Nat → Int), (∀ k, k < t → 0 ≤ lf k ∧ lf k < (sz : Int)) → ∀ k, k < (lio av sz m t L lf ly).1 → 0 ≤ (lio av sz m t L lf ly).2.1 k ∧ (lio av sz m t L lf ly).2.1 k < (sz : Int) := by
  intro m
  induction m with
  | zero => intro t L lf ly h; exact h
  | succ m ih =>
    intro t L lf ly h
    unfold lio
    split
    · exact h
    · next hne =>
      refine ih _ _ _ _ (fun k hk => ?_)
      unfold xui
      split
      · rcases lfree_in av L sz 0 with h1 | ⟨p, h1, h2, h3, h4⟩
        · exact absurd h1.1 hne
        · omega
      · exact h k (by omega)
theorem rmd_lt (av : Nat → Nat) (wo : Nat → Int) (sz : Nat) (ks : Nat → Nat) (hsz : sz ≤ 40) : ∀ (m k : Nat) (w : Int) (P : Nat), P < 2 ^ 40 → (rmd av wo sz ks m k w P).2 < 2 ^ 40 := by
  intro m
  induction m with
  | zero => intro k w P h; exact h
  | succ m ih =>
    intro k w P h
    unfold rmd
    split
    · exact Nat.two_pow_pos 40
    · refine ih _ _ _ (plc_lt h (fun j _ => ?_) _ (Nat.le_refl _))
      unfold hpc
      have := xnth_rg (fun p => (ks k).testBit p) (j : Int) sz 0 0
      omega
theorem tg_ls {gn : Nat} {σ : Nat → xSt} {d : Nat → Int} {sz : Nat} {ls kc : Int} {c w : Nat → Int} {av bv rv : Nat → Nat} {lf ly : Nat → Int} {ks N : Nat → Nat} (h : tgD gn σ d sz ls kc c w av bv rv lf ly ks N) : (0 ≤ ls ∧ ls ≤ (sz : Int)) ∧ (∀ k : Nat, (k : Int) < ls → 0 ≤ lf k ∧ lf k < (sz : Int)) ∧ (0 ≤ kc ∧ kc ≤ 20) ∧ ∀ k : Nat, (k : Int) < kc → ks k < 2 ^ 40 := by
  obtain ⟨hB, hG9, ⟨lf0, ly0, q0, q1, q2, q3⟩, hR2, ks0, q4, q5⟩ := h
  have h40 := hG9.2.1
  have hok := lio_ok av sz h40 sz 0 (2 ^ sz - 1) lf0 ly0 (by omega) ⟨by have := xp2 h40; have := Nat.one_le_two_pow (n := sz); omega, fun j hj => q0 j (by omega), fun j hj hb9 => by rw [Nat.testBit_two_pow_sub_one] at hb9; simp at hb9; omega⟩
  have hlf := lio_lf av sz sz 0 (2 ^ sz - 1) lf0 ly0 (fun k hk => absurd hk (Nat.not_lt_zero k))
  have hk := kns_ok rv sz sz 0 0 0 ks0 (by decide) (fun j hj => absurd hj (Nat.not_lt_zero j))
  refine ⟨by rw [q1]; omega, fun k hk9 => ?_, by rw [q4]; omega, fun k hk9 => ?_⟩
  · rw [q2]; exact hlf k (by omega)
  · rw [q5]; exact Nat.lt_of_lt_of_le (hk.2 k (by omega)) (xp2 h40)
theorem hc_inj {σ : Nat → xSt} {s t : Nat} (hs : hrS (σ s) = 1) (ht : hrS (σ t) = 1) (h : hc σ s = hc σ t) : s = t := by
  rcases Nat.lt_trichotomy s t with q | q | q
  · have := hc_lt q hs; omega
  · exact q
  · have := hc_lt q ht; omega
theorem tg_pl {gn : Nat} {σ : Nat → xSt} {d : Nat → Int} {sz : Nat} {c w : Nat → Int} {av bv : Nat → Nat} {N : Nat → Nat} (h : tgG gn σ d sz N c w av bv) {s : Nat} (hs : s < gn) (hr : hrS (σ s) = 1) : hc σ s < sz ∧ N (hc σ s) = s ∧ xidx c (s : Int) 0 sz = (hc σ s : Int) := by
  have h1 : hc σ s < sz := by rw [h.1]; exact hc_lt hs hr
  have h2 := h.2.2.1 _ h1
  have h3 : N (hc σ s) = s := hc_inj h2.2.1 hr h2.2.2.1
  refine ⟨h1, h3, ?_⟩
  rcases xidx_in c (s : Int) sz 0 with q | ⟨p, q1, q2, q3, q4⟩
  · exact absurd (by rw [h2.2.2.2.1, h3]) (q.2 _ (Nat.zero_le _) (by omega))
  · have h4 := h.2.2.1 p (by omega)
    rw [h4.2.2.2.1] at q4
    have h5 : N p = s := by omega
    rw [q3, ← h4.2.2.1, h5]
def onA (gn : Nat) (σ : Nat → xSt) (d : Nat → Int) (P : Nat → Int → Int → (Nat → Int) → (Nat → Int) → (Nat → Nat) → (Nat → Nat) → (Nat → Nat) → (Nat → Int) → (Nat → Int) → (Nat → Nat) → (Nat → Nat) → Prop) : Prop := ∃ sz ls kc c w av bv rv lf ly ks N, tgD gn σ d sz ls kc c w av bv rv lf ly ks N ∧ P sz ls kc c w av bv rv lf ly ks N
section C70
variable {g : xG} {y : xM} {Q : xP} {n : Nat} {f : xH} {bn : Nat} {β : Nat → xBx} {gn : Nat} {σ : Nat → xSt} {d : Nat → Int} {as : List xAc} {ps : Nat} {pb : Nat → Int} {pu : Nat} {pr : Nat → Int}
set_option maxHeartbeats 4000000 in
theorem ct_knots (h : CS n f bn β gn σ d as ps pb pu pr) (hq : ∀ f1 r, CS n f1 bn β gn σ d as ps pb pu pr → kM f f1 → onA gn σ d (fun sz ls kc c w av bv rv lf ly ks N => r = kc) → Q (.inl (some (vI r))) n f1) : xct g M_X9_knots 0 0 [vR 0] n f Q := by
  refine xct_of rfl rfl (Nat.le_of_ble_eq_true rfl) ?_
  obtain ⟨bo, so, tk, rk, h0, hb, hs, hg, ha, hp, hl, ht, hr, h40, hrk, hw, hx⟩ := h
  have hgn := hs.2.1
  refine xw_aload_n dX9_knots_0 rfl ?_
  refine xw_callV (rc := 0) (rs := 0) (mc2 := 0) (ms2 := 0) (a := 0) (As := []) (st := []) dX9_knots_1 mv_X9_165 h0 rfl rfl (by decide) (by decide) (Nat.le_of_ble_eq_true rfl) rfl (ct_tangleNow h0 hs hg ht h40 (fun f1 hf1 i0 ig it => ?_))
  have hcs : CS n f1 bn β gn σ d as ps pb pu pr := CS_now i0 hb hs ig ha hp hl it hr h40 hrk hw hx (fun k q => hf1 k (fun q2 => by have := nw_in q2; omega))
  have hkm : kM f f1 := fun k e q1 q2 q3 => (hf1 k (fun q4 => by have := nw_in q4; omega)).trans q3
  obtain ⟨sz, ls, kc, c, w, av, bv, rv, lf, ly, ks, wv, N, ⟨m22, m23, m24, m25, m26, m27, m28, m29, m30, m31⟩, hB, hG9, hR9, hrm⟩ := id it
  have hD : tgD gn σ d sz ls kc c w av bv rv lf ly ks N := ⟨hB, hG9, hR9⟩
  have hsz := hG9.2.1
  have hci : ∀ j, j < sz → inI (c j) := fun j hj => by have q := hG9.2.2.1 j hj; rw [q.2.2.2.1]; unfold inI; omega
  have hav : ∀ j, j < sz → av j < 2 ^ 40 := fun j hj => (hB.1 j (by omega)).1
  refine xw_getfield dX9_knots_4 fl_X9_285 m22 rfl ?_
  exact xw_iret dX9_knots_7 rfl (hq f1 kc hcs hkm ⟨sz, ls, kc, c, w, av, bv, rv, lf, ly, ks, N, hD, rfl⟩)
set_option maxHeartbeats 4000000 in
theorem ct_order {z : Int} (h : CS n f bn β gn σ d as ps pb pu pr) (hz : inI z) (hq : ∀ f1 r, CS n f1 bn β gn σ d as ps pb pu pr → kM f f1 → onA gn σ d (fun sz ls kc c w av bv rv lf ly ks N => r = (if 0 ≤ z ∧ z < ls then xnum c sz (lf z.toNat) else -1)) → Q (.inl (some (vI r))) n f1) : xct g M_X9_order 0 0 [vR 0, vI z] n f Q := by
  refine xct_of rfl rfl (Nat.le_of_ble_eq_true rfl) ?_
  obtain ⟨bo, so, tk, rk, h0, hb, hs, hg, ha, hp, hl, ht, hr, h40, hrk, hw, hx⟩ := h
  have hgn := hs.2.1
  refine xw_aload_n dX9_order_0 rfl ?_
  refine xw_callV (rc := 0) (rs := 0) (mc2 := 0) (ms2 := 0) (a := 0) (As := []) (st := []) dX9_order_1 mv_X9_165 h0 rfl rfl (by decide) (by decide) (Nat.le_of_ble_eq_true rfl) rfl (ct_tangleNow h0 hs hg ht h40 (fun f1 hf1 i0 ig it => ?_))
  have hcs : CS n f1 bn β gn σ d as ps pb pu pr := CS_now i0 hb hs ig ha hp hl it hr h40 hrk hw hx (fun k q => hf1 k (fun q2 => by have := nw_in q2; omega))
  have hkm : kM f f1 := fun k e q1 q2 q3 => (hf1 k (fun q4 => by have := nw_in q4; omega)).trans q3
  obtain ⟨sz, ls, kc, c, w, av, bv, rv, lf, ly, ks, wv, N, ⟨m22, m23, m24, m25, m26, m27, m28, m29, m30, m31⟩, hB, hG9, hR9, hrm⟩ := id it
  have hD : tgD gn σ d sz ls kc c w av bv rv lf ly ks N := ⟨hB, hG9, hR9⟩
  have hsz := hG9.2.1
  have hci : ∀ j, j < sz → inI (c j) := fun j hj => by have q := hG9.2.2.1 j hj; rw [q.2.2.2.1]; unfold inI; omega
  have hav : ∀ j, j < sz → av j < 2 ^ 40 := fun j hj => (hB.1 j (by omega)).1
  have hl9 := tg_ls hD
  refine xw_ls [(0, vR 0), (1, vI z)] ⟨rfl, rfl, trivial⟩ ?_
  refine xw_astore_n dX9_order_4 (by decide) ?_
  refine xw_iload_n dX9_order_5 rfl ?_
  refine xw_iflt (tgt := 17) dX9_order_6 (by decide) (by first | assumption | (unfold inI; omega) | (unfold inI at *; omega)) (fun c_6 => ?_) (fun c_6 => ?_)
  · skip
    refine xw_iconst dX9_order_17 ?_
    refine xw_goto (tgt := 31) dX9_order_18 (by decide) ?_
    exact xw_iret dX9_order_31 rfl (by first | exact hq f1 _ hcs hkm ⟨sz, ls, kc, c, w, av, bv, rv, lf, ly, ks, N, hD, by dsimp only; rw [if_pos (by omega)]⟩ | exact hq f1 (-1) hcs hkm ⟨sz, ls, kc, c, w, av, bv, rv, lf, ly, ks, N, hD, by dsimp only; rw [if_neg (by omega)]⟩)
  · skip
    refine xw_iload_n dX9_order_9 rfl ?_
    refine xw_aload_n dX9_order_10 rfl ?_
    refine xw_getfield dX9_order_11 fl_X9_276 m22 rfl ?_
    refine xw_icmplt (tgt := 21) dX9_order_14 (by decide) hz (by unfold inI; omega) (fun c_14 => ?_) (fun c_14 => ?_)
    · skip
      refine xw_aload_n dX9_order_21 rfl ?_
      refine xw_aload_n dX9_order_22 rfl ?_
      refine xw_getfield dX9_order_23 fl_X9_279 m22 rfl ?_
      refine xw_iload_n dX9_order_26 rfl ?_
      refine xw_iald dX9_order_27 m28 (j := z.toNat) (by omega) (by omega) (by decide) ?_
      refine xw_callV (rc := 0) (rs := 0) (mc2 := 0) (ms2 := 0) (a := 22) (As := [vI (lf z.toNat)]) (st := []) dX9_order_28 mv_X9_282 m22 rfl rfl (by decide) (by decide) (Nat.le_of_ble_eq_true rfl) rfl (ct_numberAt m22 m23 hsz (by have := hl9.2.1 z.toNat (by omega); unfold inI; omega) ?_)
      exact xw_iret dX9_order_31 rfl (by first | exact hq f1 _ hcs hkm ⟨sz, ls, kc, c, w, av, bv, rv, lf, ly, ks, N, hD, by dsimp only; rw [if_pos (by omega)]⟩ | exact hq f1 (-1) hcs hkm ⟨sz, ls, kc, c, w, av, bv, rv, lf, ly, ks, N, hD, by dsimp only; rw [if_neg (by omega)]⟩)
    · skip
      refine xw_iconst dX9_order_17 ?_
      refine xw_goto (tgt := 31) dX9_order_18 (by decide) ?_
      exact xw_iret dX9_order_31 rfl (by first | exact hq f1 _ hcs hkm ⟨sz, ls, kc, c, w, av, bv, rv, lf, ly, ks, N, hD, by dsimp only; rw [if_pos (by omega)]⟩ | exact hq f1 (-1) hcs hkm ⟨sz, ls, kc, c, w, av, bv, rv, lf, ly, ks, N, hD, by dsimp only; rw [if_neg (by omega)]⟩)
set_option maxHeartbeats 4000000 in
theorem ct_free {z : Int} (h : CS n f bn β gn σ d as ps pb pu pr) (hz : inI z) (hq : ∀ (s : Nat) f1 r, z = (s : Int) → s < gn → hrS (σ s) = 1 → CS n f1 bn β gn σ d as ps pb pu pr → kM f f1 → onA gn σ d (fun sz ls kc c w av bv rv lf ly ks N => r = (if av (hc σ s) = 0 then 1 else 0)) → Q (.inl (some (vI r))) n f1) (hx1 : ¬ hre gn σ z → ∀ n', n ≤ n' → Q (.inr eNSE) n' f) : xct g M_X9_free 1 6 [vR 0, vI z] n f Q := by
  refine xct_of rfl rfl (Nat.le_of_ble_eq_true rfl) ?_
  obtain ⟨bo, so, tk, rk, h0, hb, hs, hg, ha, hp, hl, ht, hr, h40, hrk, hw, hx⟩ := h
  have hgn := hs.2.1
  refine xw_aload_n dX9_free_0 rfl ?_
  refine xw_iload_n dX9_free_1 rfl ?_
  refine xw_callV (rc := 0) (rs := 0) (mc2 := 1) (ms2 := 6) (a := 0) (As := [vI z]) (st := []) dX9_free_2 mv_X9_149 h0 rfl rfl (by decide) (by decide) (Nat.le_of_ble_eq_true rfl) rfl (ct_stickOnTable h0 hs hz (fun s e1 e2 e3 => ?_) hx1)
  refine xw_pop dX9_free_5 rfl ?_
  refine xw_aload_n dX9_free_6 rfl ?_
  refine xw_callV (rc := 0) (rs := 0) (mc2 := 0) (ms2 := 0) (a := 0) (As := []) (st := []) dX9_free_7 mv_X9_165 h0 rfl rfl (by decide) (by decide) (Nat.le_of_ble_eq_true rfl) rfl (ct_tangleNow h0 hs hg ht h40 (fun f1 hf1 i0 ig it => ?_))
  have hcs : CS n f1 bn β gn σ d as ps pb pu pr := CS_now i0 hb hs ig ha hp hl it hr h40 hrk hw hx (fun k q => hf1 k (fun q2 => by have := nw_in q2; omega))
  have hkm : kM f f1 := fun k e q1 q2 q3 => (hf1 k (fun q4 => by have := nw_in q4; omega)).trans q3
  obtain ⟨sz, ls, kc, c, w, av, bv, rv, lf, ly, ks, wv, N, ⟨m22, m23, m24, m25, m26, m27, m28, m29, m30, m31⟩, hB, hG9, hR9, hrm⟩ := id it
  have hD : tgD gn σ d sz ls kc c w av bv rv lf ly ks N := ⟨hB, hG9, hR9⟩
  have hsz := hG9.2.1
  have hci : ∀ j, j < sz → inI (c j) := fun j hj => by have q := hG9.2.2.1 j hj; rw [q.2.2.2.1]; unfold inI; omega
  have hav : ∀ j, j < sz → av j < 2 ^ 40 := fun j hj => (hB.1 j (by omega)).1
  have hpl := tg_pl hG9 e2 e3
  refine xw_iload_n dX9_free_10 rfl ?_
  refine xw_callV (rc := 0) (rs := 0) (mc2 := 0) (ms2 := 0) (a := 22) (As := [vI z]) (st := []) dX9_free_11 mv_X9_169 m22 rfl rfl (by decide) (by decide) (Nat.le_of_ble_eq_true rfl) rfl (ct_isFree m22 m23 m25 hsz hz hci hav (fun p q1 q2 q3 => ?_) (fun q1 => ?_))
  · skip
    exact xw_zret dX9_free_14 rfl rfl (by first | exact hq s f1 1 e1 e2 e3 hcs hkm ⟨sz, ls, kc, c, w, av, bv, rv, lf, ly, ks, N, hD, by dsimp only; rw [e1, hpl.2.2] at q2; rw [show hc σ s = p by omega, if_pos q3]⟩ | exact hq s f1 0 e1 e2 e3 hcs hkm ⟨sz, ls, kc, c, w, av, bv, rv, lf, ly, ks, N, hD, by dsimp only; rw [if_neg (q1 (hc σ s) hpl.1 (by rw [e1]; exact hpl.2.2))]⟩)
  · skip
    exact xw_zret dX9_free_14 rfl rfl (by first | exact hq s f1 1 e1 e2 e3 hcs hkm ⟨sz, ls, kc, c, w, av, bv, rv, lf, ly, ks, N, hD, by dsimp only; rw [e1, hpl.2.2] at q2; rw [show hc σ s = p by omega, if_pos q3]⟩ | exact hq s f1 0 e1 e2 e3 hcs hkm ⟨sz, ls, kc, c, w, av, bv, rv, lf, ly, ks, N, hD, by dsimp only; rw [if_neg (q1 (hc σ s) hpl.1 (by rw [e1]; exact hpl.2.2))]⟩)
set_option maxHeartbeats 4000000 in
theorem ct_bars {z z2 : Int} (h : CS n f bn β gn σ d as ps pb pu pr) (hz : inI z) (hz2 : inI z2) (hq : ∀ (s t : Nat) f1 r, z = (s : Int) → z2 = (t : Int) → s < gn → hrS (σ s) = 1 → t < gn → hrS (σ t) = 1 → CS n f1 bn β gn σ d as ps pb pu pr → kM f f1 → onA gn σ d (fun sz ls kc c w av bv rv lf ly ks N => r = (if (av (hc σ t)).testBit (hc σ s) = true then 1 else 0)) → Q (.inl (some (vI r))) n f1) (hx1 : ¬ (hre gn σ z ∧ hre gn σ z2) → ∀ n', n ≤ n' → Q (.inr eNSE) n' f) : xct g M_X9_bars 2 12 [vR 0, vI z, vI z2] n f Q := by
  refine xct_of rfl rfl (Nat.le_of_ble_eq_true rfl) ?_
  obtain ⟨bo, so, tk, rk, h0, hb, hs, hg, ha, hp, hl, ht, hr, h40, hrk, hw, hx⟩ := h
  have hgn := hs.2.1
  refine xw_aload_n dX9_bars_0 rfl ?_
  refine xw_iload_n dX9_bars_1 rfl ?_
  refine xw_callV (rc := 1) (rs := 6) (mc2 := 1) (ms2 := 6) (a := 0) (As := [vI z]) (st := []) dX9_bars_2 mv_X9_149 h0 rfl rfl (by decide) (by decide) (Nat.le_of_ble_eq_true rfl) rfl (ct_stickOnTable h0 hs hz (fun s e1 e2 e3 => ?_) (fun q => hx1 (fun q2 => q q2.1)))
  refine xw_pop dX9_bars_5 rfl ?_
  refine xw_aload_n dX9_bars_6 rfl ?_
  refine xw_iload_n dX9_bars_7 rfl ?_
  refine xw_callV (rc := 0) (rs := 0) (mc2 := 1) (ms2 := 6) (a := 0) (As := [vI z2]) (st := []) dX9_bars_8 mv_X9_149 h0 rfl rfl (by decide) (by decide) (Nat.le_of_ble_eq_true rfl) rfl (ct_stickOnTable h0 hs hz2 (fun t e4 e5 e6 => ?_) (fun q => hx1 (fun q2 => q q2.2)))
  refine xw_pop dX9_bars_11 rfl ?_
  refine xw_aload_n dX9_bars_12 rfl ?_
  refine xw_callV (rc := 0) (rs := 0) (mc2 := 0) (ms2 := 0) (a := 0) (As := []) (st := []) dX9_bars_13 mv_X9_165 h0 rfl rfl (by decide) (by decide) (Nat.le_of_ble_eq_true rfl) rfl (ct_tangleNow h0 hs hg ht h40 (fun f1 hf1 i0 ig it => ?_))
  have hcs : CS n f1 bn β gn σ d as ps pb pu pr := CS_now i0 hb hs ig ha hp hl it hr h40 hrk hw hx (fun k q => hf1 k (fun q2 => by have := nw_in q2; omega))
  have hkm : kM f f1 := fun k e q1 q2 q3 => (hf1 k (fun q4 => by have := nw_in q4; omega)).trans q3
  obtain ⟨sz, ls, kc, c, w, av, bv, rv, lf, ly, ks, wv, N, ⟨m22, m23, m24, m25, m26, m27, m28, m29, m30, m31⟩, hB, hG9, hR9, hrm⟩ := id it
  have hD : tgD gn σ d sz ls kc c w av bv rv lf ly ks N := ⟨hB, hG9, hR9⟩
  have hsz := hG9.2.1
  have hci : ∀ j, j < sz → inI (c j) := fun j hj => by have q := hG9.2.2.1 j hj; rw [q.2.2.2.1]; unfold inI; omega
  have hav : ∀ j, j < sz → av j < 2 ^ 40 := fun j hj => (hB.1 j (by omega)).1
  have hpl := tg_pl hG9 e2 e3
  have hpl2 := tg_pl hG9 e5 e6
  refine xw_astore_n dX9_bars_16 (by decide) ?_
  refine xw_aload_n dX9_bars_17 rfl ?_
  refine xw_aload_n dX9_bars_18 rfl ?_
  refine xw_iload_n dX9_bars_19 rfl ?_
  refine xw_callV (rc := 0) (rs := 0) (mc2 := 0) (ms2 := 0) (a := 22) (As := [vI z]) (st := [vR 22]) dX9_bars_20 mv_X9_232 m22 rfl rfl (by decide) (by decide) (Nat.le_of_ble_eq_true rfl) rfl (ct_placeOf m22 m23 hsz hz hci ?_)
  refine xw_topi (hc σ s : Int) (by rw [e1]; exact hpl.2.2) ?_
  refine xw_aload_n dX9_bars_23 rfl ?_
  refine xw_iload_n dX9_bars_24 rfl ?_
  refine xw_callV (rc := 0) (rs := 0) (mc2 := 0) (ms2 := 0) (a := 22) (As := [vI z2]) (st := [vI (hc σ s : Int), vR 22]) dX9_bars_25 mv_X9_232 m22 rfl rfl (by decide) (by decide) (Nat.le_of_ble_eq_true rfl) rfl (ct_placeOf m22 m23 hsz hz2 hci ?_)
  refine xw_topi (hc σ t : Int) (by rw [e4]; exact hpl2.2.2) ?_
  refine xw_callV (rc := 0) (rs := 0) (mc2 := 0) (ms2 := 0) (a := 22) (As := [vI (hc σ s : Int), vI (hc σ t : Int)]) (st := []) dX9_bars_28 mv_X9_235 m22 rfl rfl (by decide) (by decide) (Nat.le_of_ble_eq_true rfl) rfl (ct_isAbove m22 m25 hsz (by unfold inI; omega) (by unfold inI; omega) hav (fun q1 => ?_) (fun q1 => ?_))
  · skip
    exact xw_zret dX9_bars_31 rfl rfl (by first | exact hq s t f1 1 e1 e4 e2 e3 e5 e6 hcs hkm ⟨sz, ls, kc, c, w, av, bv, rv, lf, ly, ks, N, hD, by dsimp only; have q2 := q1.2.2; rw [Int.toNat_natCast, Int.toNat_natCast] at q2; rw [if_pos q2]⟩ | exact hq s t f1 0 e1 e4 e2 e3 e5 e6 hcs hkm ⟨sz, ls, kc, c, w, av, bv, rv, lf, ly, ks, N, hD, by dsimp only; rw [if_neg (fun q2 => q1 ⟨⟨by omega, by omega⟩, ⟨by omega, by omega⟩, by rw [Int.toNat_natCast, Int.toNat_natCast]; exact q2⟩)]⟩)
  · skip
    exact xw_zret dX9_bars_31 rfl rfl (by first | exact hq s t f1 1 e1 e4 e2 e3 e5 e6 hcs hkm ⟨sz, ls, kc, c, w, av, bv, rv, lf, ly, ks, N, hD, by dsimp only; have q2 := q1.2.2; rw [Int.toNat_natCast, Int.toNat_natCast] at q2; rw [if_pos q2]⟩ | exact hq s t f1 0 e1 e4 e2 e3 e5 e6 hcs hkm ⟨sz, ls, kc, c, w, av, bv, rv, lf, ly, ks, N, hD, by dsimp only; rw [if_neg (fun q2 => q1 ⟨⟨by omega, by omega⟩, ⟨by omega, by omega⟩, by rw [Int.toNat_natCast, Int.toNat_natCast]; exact q2⟩)]⟩)
set_option maxHeartbeats 4000000 in
theorem ct_layer {z : Int} (h : CS n f bn β gn σ d as ps pb pu pr) (hz : inI z) (hq : ∀ (s : Nat) f1 r, z = (s : Int) → s < gn → hrS (σ s) = 1 → CS n f1 bn β gn σ d as ps pb pu pr → kM f f1 → onA gn σ d (fun sz ls kc c w av bv rv lf ly ks N => r = (if 0 < kc then -1 else ly (hc σ s))) → Q (.inl (some (vI r))) n f1) (hx1 : ¬ hre gn σ z → ∀ n', n ≤ n' → Q (.inr eNSE) n' f) : xct g M_X9_layer 1 6 [vR 0, vI z] n f Q := by
  refine xct_of rfl rfl (Nat.le_of_ble_eq_true rfl) ?_
  obtain ⟨bo, so, tk, rk, h0, hb, hs, hg, ha, hp, hl, ht, hr, h40, hrk, hw, hx⟩ := h
  have hgn := hs.2.1
  refine xw_aload_n dX9_layer_0 rfl ?_
  refine xw_iload_n dX9_layer_1 rfl ?_
  refine xw_callV (rc := 0) (rs := 0) (mc2 := 1) (ms2 := 6) (a := 0) (As := [vI z]) (st := []) dX9_layer_2 mv_X9_149 h0 rfl rfl (by decide) (by decide) (Nat.le_of_ble_eq_true rfl) rfl (ct_stickOnTable h0 hs hz (fun s e1 e2 e3 => ?_) hx1)
  refine xw_pop dX9_layer_5 rfl ?_
  refine xw_aload_n dX9_layer_6 rfl ?_
  refine xw_callV (rc := 0) (rs := 0) (mc2 := 0) (ms2 := 0) (a := 0) (As := []) (st := []) dX9_layer_7 mv_X9_165 h0 rfl rfl (by decide) (by decide) (Nat.le_of_ble_eq_true rfl) rfl (ct_tangleNow h0 hs hg ht h40 (fun f1 hf1 i0 ig it => ?_))
  have hcs : CS n f1 bn β gn σ d as ps pb pu pr := CS_now i0 hb hs ig ha hp hl it hr h40 hrk hw hx (fun k q => hf1 k (fun q2 => by have := nw_in q2; omega))
  have hkm : kM f f1 := fun k e q1 q2 q3 => (hf1 k (fun q4 => by have := nw_in q4; omega)).trans q3
  obtain ⟨sz, ls, kc, c, w, av, bv, rv, lf, ly, ks, wv, N, ⟨m22, m23, m24, m25, m26, m27, m28, m29, m30, m31⟩, hB, hG9, hR9, hrm⟩ := id it
  have hD : tgD gn σ d sz ls kc c w av bv rv lf ly ks N := ⟨hB, hG9, hR9⟩
  have hsz := hG9.2.1
  have hci : ∀ j, j < sz → inI (c j) := fun j hj => by have q := hG9.2.2.1 j hj; rw [q.2.2.2.1]; unfold inI; omega
  have hav : ∀ j, j < sz → av j < 2 ^ 40 := fun j hj => (hB.1 j (by omega)).1
  have hpl := tg_pl hG9 e2 e3
  have hl9 := tg_ls hD
  refine xw_astore_n dX9_layer_10 (by decide) ?_
  refine xw_aload_n dX9_layer_11 rfl ?_
  refine xw_iload_n dX9_layer_12 rfl ?_
  refine xw_callV (rc := 0) (rs := 0) (mc2 := 0) (ms2 := 0) (a := 22) (As := [vI z]) (st := []) dX9_layer_13 mv_X9_232 m22 rfl rfl (by decide) (by decide) (Nat.le_of_ble_eq_true rfl) rfl (ct_placeOf m22 m23 hsz hz hci ?_)
  refine xw_topi (hc σ s : Int) (by rw [e1]; exact hpl.2.2) ?_
  refine xw_istore_n dX9_layer_16 (by decide) ?_
  refine xw_aload_n dX9_layer_17 rfl ?_
  refine xw_getfield dX9_layer_18 fl_X9_285 m22 rfl ?_
  refine xw_ifgt (tgt := 29) dX9_layer_21 (by decide) (by first | assumption | (unfold inI; omega) | (unfold inI at *; omega)) (fun c_21 => ?_) (fun c_21 => ?_)
  · skip
    refine xw_iconst dX9_layer_29 ?_
    refine xw_goto (tgt := 39) dX9_layer_30 (by decide) ?_
    exact xw_iret dX9_layer_39 rfl (by first | exact hq s f1 (-1) e1 e2 e3 hcs hkm ⟨sz, ls, kc, c, w, av, bv, rv, lf, ly, ks, N, hD, by dsimp only; rw [if_pos (by omega)]⟩ | exact hq s f1 _ e1 e2 e3 hcs hkm ⟨sz, ls, kc, c, w, av, bv, rv, lf, ly, ks, N, hD, by dsimp only; rw [if_neg (by omega)]⟩)
  · skip
    refine xw_iload_n dX9_layer_24 rfl ?_
    refine xw_iconst dX9_layer_25 ?_
    refine xw_icmpne (tgt := 33) dX9_layer_26 (by decide) (by first | assumption | (unfold inI; omega) | (unfold inI at *; omega)) (by first | assumption | (unfold inI; omega) | (unfold inI at *; omega)) (fun c_26 => ?_) (fun c_26 => ?_)
    · skip
      refine xw_aload_n dX9_layer_33 rfl ?_
      refine xw_getfield dX9_layer_34 fl_X9_306 m22 rfl ?_
      refine xw_iload_n dX9_layer_37 rfl ?_
      refine xw_iald dX9_layer_38 m29 (j := hc σ s) rfl (by omega) (by decide) ?_
      exact xw_iret dX9_layer_39 rfl (by first | exact hq s f1 (-1) e1 e2 e3 hcs hkm ⟨sz, ls, kc, c, w, av, bv, rv, lf, ly, ks, N, hD, by dsimp only; rw [if_pos (by omega)]⟩ | exact hq s f1 _ e1 e2 e3 hcs hkm ⟨sz, ls, kc, c, w, av, bv, rv, lf, ly, ks, N, hD, by dsimp only; rw [if_neg (by omega)]⟩)
    · skip
      exfalso; omega
end C70
