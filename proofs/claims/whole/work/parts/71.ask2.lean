/-! more calls that ask -/
theorem frD_eq {f f1 : xH} (hx : fx f) (h : frD f f1) {k : Nat} (hk : k < 79) (h3 : k ≠ 3) (h5 : ¬ (5 ≤ k ∧ k ≤ 11)) (h20 : k ≠ 20) (h21 : k ≠ 21) : f1 k = f k := by
  obtain ⟨e, h1, h2⟩ := hx k hk
  rw [h k e h1 h3 h5 h20 h21 h2, h1]
theorem CS_frD {n n1 : Nat} {f f1 : xH} {bn : Nat} {β : Nat → xBx} {gn : Nat} {σ : Nat → xSt} {d : Nat → Int} {as : List xAc} {ps : Nat} {pb : Nat → Int} {pu : Nat} {pr : Nat → Int} (h : CS n f bn β gn σ d as ps pb pu pr) {s sz : Nat} {L : Nat → xC7} (hs : s < gn) (hr9 : hrS (σ s) = 1) (hw1 : wf n1 f1) (hf : frD f f1) (hg1 : sgt f1 d) (h20 : f1 20 = some (oLs sz (s : Int))) (hl1 : lst n1 f1 sz L) (h156 : sz ≤ 156) (hok : okL (sz, L)) (hof : lsOf d gn σ s sz L) : CS n1 f1 bn β gn σ d as ps pb pu pr ∧ kM f f1 := by
  obtain ⟨bo, so, tk, rk, h0, hb, hs9, hg, ha, hp, hl, ht, hr, h40, hrk, hw, hx⟩ := h
  have hq : ∀ {k : Nat}, k < 79 → k ≠ 3 → ¬ (5 ≤ k ∧ k ≤ 11) → k ≠ 20 → k ≠ 21 → f1 k = f k := fun a b c d e => frD_eq hx hf a b c d e
  obtain ⟨sg, g3, g4, g5, g6⟩ := id hg1
  obtain ⟨rw0, l21, _⟩ := id hl1
  refine ⟨⟨bo, so, tk, rk, (hq (by omega) (by omega) (by omega) (by omega) (by omega)).trans h0, bxs_frD hb hf, stk_frD hs9 hf, hg1, acs_fr ha (fun k a b => hq (by omega) (by omega) (by omega) (by omega) (by omega)), pgs_fr hp (hq (by omega) (by omega) (by omega) (by omega) (by omega)) (hq (by omega) (by omega) (by omega) (by omega) (by omega)), ⟨sz, (s : Int), L, h20, hl1, h156, hok, Or.inr ⟨s, rfl, hs, hr9, hof⟩⟩, tgA_fr ht (fun k a b => hq (by omega) (by omega) (by omega) (by omega) (by omega)), prf_fr hr (hq (by omega) (by omega) (by omega) (by omega) (by omega)), h40, hrk, hw1, fx_k hx (fun k a => ?_)⟩, fun k e a b q => (hq (by omega) (by omega) (by omega) (by omega) (by omega)).trans q⟩
  by_cases e3 : k = 3
  · subst e3; exact Or.inr ⟨_, g3, Nat.ne_of_beq_eq_false rfl⟩
  by_cases e5 : 5 ≤ k ∧ k ≤ 11
  · obtain ⟨v, hv⟩ := g5 k e5.1 e5.2; exact Or.inr ⟨_, hv, Nat.ne_of_beq_eq_false rfl⟩
  by_cases e20 : k = 20
  · subst e20; exact Or.inr ⟨_, h20, Nat.ne_of_beq_eq_false rfl⟩
  by_cases e21 : k = 21
  · subst e21; exact Or.inr ⟨_, l21, Nat.ne_of_beq_eq_false rfl⟩
  exact Or.inl (hq a e3 e5 e20 e21)
theorem tgM_31 {f f1 : xH} {gn : Nat} {σ : Nat → xSt} {d : Nat → Int} {rk : Int} {wv : Nat → Nat} (h : tgM f gn σ d rk) (hf : fr [31] f f1) (h31 : f1 31 = some (aS 41 wv)) : tgM f1 gn σ d rk := by
  obtain ⟨sz, ls, kc, c, w, av, bv, rv, lf, ly, ks, wv0, N, ⟨m22, m23, m24, m25, m26, m27, m28, m29, m30, m31⟩, h2, h3, h4, h5⟩ := h
  exact ⟨sz, ls, kc, c, w, av, bv, rv, lf, ly, ks, wv, N, ⟨fr_at hf m22 (by decide), fr_at hf m23 (by decide), fr_at hf m24 (by decide), fr_at hf m25 (by decide), fr_at hf m26 (by decide), fr_at hf m27 (by decide), fr_at hf m28 (by decide), fr_at hf m29 (by decide), fr_at hf m30 (by decide), h31⟩, h2, h3, h4, rmK_fr h5 (fun k a b => hf k (fun q => by rw [List.mem_singleton] at q; omega))⟩
def crsA (c : xC7) (w r : Int) : Prop := (w = 0 ∧ r = c.1) ∨ (w = 1 ∧ r = c.2.1) ∨ (w = 2 ∧ r = c.2.2.1) ∨ (w = 3 ∧ r = (if 0 < c.2.2.2.2.2.1 then 1 else 0)) ∨ ((w < 0 ∨ 3 < w) ∧ r = -1)
theorem dgE_12 {a : Nat} (h : a < 10 ^ 12) : dgE 12 a ≤ 11 := by
  rcases dgE_le 12 a h with q | q
  · omega
  · omega
theorem frac_le {neg : Bool} {a d : Nat} {b : Nat → Int} (ha : a < 10 ^ 12) (hd : d < 10 ^ 12) : (frac neg a d b).1 ≤ 40 := by
  have h1 := dgE_12 ha
  have h2 := dgE_12 hd
  have h3 : (fr0 neg b).1 ≤ 1 := by cases neg; exact Nat.zero_le 1; exact Nat.le_refl 1
  have h4 : (fr1 a (fr0 neg b)).1 = (fr0 neg b).1 + dgE 12 a + 1 := rfl
  unfold frac fr2
  split
  · omega
  · show (fr1 a (fr0 neg b)).1 + 1 + dgE 12 d + 1 ≤ 40
    omega
section C71
variable {g : xG} {y : xM} {Q : xP} {n : Nat} {f : xH} {bn : Nat} {β : Nat → xBx} {gn : Nat} {σ : Nat → xSt} {d : Nat → Int} {as : List xAc} {ps : Nat} {pb : Nat → Int} {pu : Nat} {pr : Nat → Int}
set_option maxHeartbeats 4000000 in
theorem kn_0 {sz : Nat} {ls kc z i : Int} {c : Nat → Int} {ks : Nat → Nat} (m22 : f 22 = some (oTg sz ls kc)) (m23 : f 23 = some (aI 40 c)) (m30 : f 30 = some (aS 20 ks)) (hsz : sz ≤ 40) (hi : inI i) (hks : ks z.toNat < 2 ^ 40) (hz : 0 ≤ z ∧ z < 20) (hq : Q (.inl (some (vI (xnum c sz (xnth (fun p => (ks z.toNat).testBit p) i 0 0 40))))) n f) : xw g M_X9_knot Q 0 0 48 [(0, vR 0), (1, vI z), (3, vI i), (4, vR 22)] [] n f := by
  have hr := xnth_rg (fun p => (ks z.toNat).testBit p) i 40 0 0
  refine xw_aload dX9_knot_48 rfl ?_
  refine xw_aload dX9_knot_50 rfl ?_
  refine xw_getfield dX9_knot_52 fl_X9_288 m22 rfl ?_
  refine xw_iload_n dX9_knot_55 rfl ?_
  refine xw_lald dX9_knot_56 m30 (j := z.toNat) (by omega) (by omega) (by decide) ?_
  refine xw_iload_n dX9_knot_57 rfl ?_
  refine xw_callS (rc := 0) (rs := 0) (mc2 := 0) (ms2 := 0) (As := [vL ((ks z.toNat : Nat) : Int), vI i]) (st := [vR 22]) dX9_knot_58 ms_X9_291 rfl (by decide) (by decide) (Nat.le_of_ble_eq_true rfl) rfl (ct_placeInSet (Nat.lt_of_lt_of_le hks (xp2 (by decide))) hi ?_)
  refine xw_callV (rc := 0) (rs := 0) (mc2 := 0) (ms2 := 0) (a := 22) (As := [vI (xnth (fun p => (ks z.toNat).testBit p) i 0 0 40)]) (st := []) dX9_knot_61 mv_X9_282 m22 rfl rfl (by decide) (by decide) (Nat.le_of_ble_eq_true rfl) rfl (ct_numberAt m22 m23 hsz (by unfold inI; omega) ?_)
  exact xw_iret dX9_knot_64 rfl hq
set_option maxHeartbeats 4000000 in
theorem kn_1 {sz : Nat} {ls kc z i : Int} {c : Nat → Int} {av bv ks wv : Nat → Nat} (m22 : f 22 = some (oTg sz ls kc)) (m23 : f 23 = some (aI 40 c)) (m25 : f 25 = some (aS 40 av)) (m26 : f 26 = some (aS 40 bv)) (m30 : f 30 = some (aS 20 ks)) (m31 : f 31 = some (aS 41 wv)) (hsz : sz ≤ 40) (hi : inI i) (hks : ks z.toNat < 2 ^ 40) (hz : 0 ≤ z ∧ z < 20) (hB : ∀ j, j < 40 → av j < 2 ^ 40 ∧ bv j < 2 ^ 40) (hq : ∀ f1 wv1, fr [31] f f1 → f1 31 = some (aS 41 wv1) → Q (.inl (some (vI (xnum c sz (pir av bv sz (ks z.toNat) i))))) n f1) : xw g M_X9_knot Q 0 0 65 [(0, vR 0), (1, vI z), (3, vI i), (4, vR 22)] [] n f := by
  have hr := pir_rg (av := av) (bv := bv) (set := ks z.toNat) (i := i) hsz
  refine xw_aload dX9_knot_65 rfl ?_
  refine xw_aload dX9_knot_67 rfl ?_
  refine xw_aload dX9_knot_69 rfl ?_
  refine xw_getfield dX9_knot_71 fl_X9_288 m22 rfl ?_
  refine xw_iload_n dX9_knot_74 rfl ?_
  refine xw_lald dX9_knot_75 m30 (j := z.toNat) (by omega) (by omega) (by decide) ?_
  refine xw_iload_n dX9_knot_76 rfl ?_
  refine xw_callV (rc := 0) (rs := 0) (mc2 := 0) (ms2 := 0) (a := 22) (As := [vL ((ks z.toNat : Nat) : Int), vI i]) (st := [vR 22]) dX9_knot_77 mv_X9_295 m22 rfl rfl (by decide) (by decide) (Nat.le_of_ble_eq_true rfl) rfl (ct_placeInRing m22 m25 m26 m31 hsz hks hi (fun j hj => (hB j hj).1) (fun j hj => (hB j hj).2) (fun f1 wv1 hf1 i31 => ?_))
  have i22 : f1 22 = some (oTg sz ls kc) := fr_at hf1 m22 (by decide)
  have i23 : f1 23 = some (aI 40 c) := fr_at hf1 m23 (by decide)
  refine xw_callV (rc := 0) (rs := 0) (mc2 := 0) (ms2 := 0) (a := 22) (As := [vI (pir av bv sz (ks z.toNat) i)]) (st := []) dX9_knot_80 mv_X9_282 i22 rfl rfl (by decide) (by decide) (Nat.le_of_ble_eq_true rfl) rfl (ct_numberAt i22 i23 hsz (by unfold inI; omega) ?_)
  exact xw_iret dX9_knot_83 rfl (hq f1 wv1 hf1 i31)
set_option maxHeartbeats 4000000 in
theorem ct_knot {z x i : Int} (h : CS n f bn β gn σ d as ps pb pu pr) (hz : inI z) (hx9 : inI x) (hi : inI i) (hq : ∀ f1 r, CS n f1 bn β gn σ d as ps pb pu pr → kM f f1 → onA gn σ d (fun sz ls kc c w av bv rv lf ly ks N => r = (if 0 ≤ z ∧ z < kc then (if x = 0 then xnum c sz (xnth (fun p => (ks z.toNat).testBit p) i 0 0 40) else if x = 1 then xnum c sz (pir av bv sz (ks z.toNat) i) else -1) else -1)) → Q (.inl (some (vI r))) n f1) : xct g M_X9_knot 0 0 [vR 0, vI z, vI x, vI i] n f Q := by
  refine xct_of rfl rfl (Nat.le_of_ble_eq_true rfl) ?_
  obtain ⟨bo, so, tk, rk, h0, hb, hs, hg, ha, hp, hl, ht, hr, h40, hrk, hw, hx⟩ := h
  have hgn := hs.2.1
  refine xw_aload_n dX9_knot_0 rfl ?_
  refine xw_callV (rc := 0) (rs := 0) (mc2 := 0) (ms2 := 0) (a := 0) (As := []) (st := []) dX9_knot_1 mv_X9_165 h0 rfl rfl (by decide) (by decide) (Nat.le_of_ble_eq_true rfl) rfl (ct_tangleNow h0 hs hg ht h40 (fun f1 hf1 i0 ig it => ?_))
  have hcs : CS n f1 bn β gn σ d as ps pb pu pr := CS_now i0 hb hs ig ha hp hl it hr h40 hrk hw hx (fun k q => hf1 k (fun q2 => by have := nw_in q2; omega))
  have hkm : kM f f1 := fun k e q1 q2 q3 => (hf1 k (fun q4 => by have := nw_in q4; omega)).trans q3
  obtain ⟨sz, ls, kc, c, w, av, bv, rv, lf, ly, ks, wv, N, ⟨m22, m23, m24, m25, m26, m27, m28, m29, m30, m31⟩, hB, hG9, hR9, hrm⟩ := id it
  have hD : tgD gn σ d sz ls kc c w av bv rv lf ly ks N := ⟨hB, hG9, hR9⟩
  have hsz := hG9.2.1
  have hci : ∀ j, j < sz → inI (c j) := fun j hj => by have q := hG9.2.2.1 j hj; rw [q.2.2.2.1]; unfold inI; omega
  have hav : ∀ j, j < sz → av j < 2 ^ 40 := fun j hj => (hB.1 j (by omega)).1
  have hl9 := tg_ls hD
  have B62 : ∀ {x : Nat}, x < 2 ^ 40 → x < 2 ^ 62 := fun h => Nat.lt_of_lt_of_le h (xp2 (by decide))
  have i0 := i0
  refine xw_astore dX9_knot_4 (by decide) ?_
  refine xw_iload_n dX9_knot_6 rfl ?_
  refine xw_iflt (tgt := 19) dX9_knot_7 (by decide) (by first | assumption | (unfold inI; omega) | (unfold inI at *; omega)) (fun c_7 => ?_) (fun c_7 => ?_)
  · skip
    refine xw_iconst dX9_knot_19 ?_
    exact xw_iret dX9_knot_20 rfl (hq f1 (-1) hcs hkm ⟨sz, ls, kc, c, w, av, bv, rv, lf, ly, ks, N, hD, by dsimp only; rw [if_neg (by omega)]⟩)
  · skip
    refine xw_iload_n dX9_knot_10 rfl ?_
    refine xw_aload dX9_knot_11 rfl ?_
    refine xw_getfield dX9_knot_13 fl_X9_285 m22 rfl ?_
    refine xw_icmplt (tgt := 21) dX9_knot_16 (by decide) hz (by unfold inI; omega) (fun c_16 => ?_) (fun c_16 => ?_)
    · skip
      have hks := hl9.2.2.2 z.toNat (by omega)
      rcases (by omega : x = 0 ∨ x = 1 ∨ (x ≠ 0 ∧ x ≠ 1)) with rfl | rfl | hx01
      · refine xw_iload_n dX9_knot_21 rfl ?_
        refine xw_lsw (tgt := 48) dX9_knot_22 hx9 (by decide) rfl (by decide) ?_
        refine xw_ls [(0, vR 0), (1, vI z), (3, vI i), (4, vR 22)] ⟨rfl, rfl, rfl, rfl, trivial⟩ ?_
        refine kn_0 m22 m23 m30 hsz hi hks (by omega) (hq f1 _ hcs hkm ⟨sz, ls, kc, c, w, av, bv, rv, lf, ly, ks, N, hD, by dsimp only; rw [if_pos (by omega), if_pos rfl]⟩)
      · refine xw_iload_n dX9_knot_21 rfl ?_
        refine xw_lsw (tgt := 65) dX9_knot_22 hx9 (by decide) rfl (by decide) ?_
        refine xw_ls [(0, vR 0), (1, vI z), (3, vI i), (4, vR 22)] ⟨rfl, rfl, rfl, rfl, trivial⟩ ?_
        refine kn_1 m22 m23 m25 m26 m30 m31 hsz hi hks (by omega) hB.1 (fun f2 wv1 hf2 j31 => hq f2 _ (CS_now (fr_at hf2 i0 (by decide)) hb hs (sgt_fr ig (fun k a b => hf2 k (fun q => by rw [List.mem_singleton] at q; omega))) ha hp hl (tgM_31 it hf2 j31) hr h40 hrk hw hx (fun k q => (hf2 k (fun q2 => by rw [List.mem_singleton] at q2; omega)).trans (hf1 k (fun q2 => by have := nw_in q2; omega)))) (fun k e a b q => (hf2 k (fun q2 => by rw [List.mem_singleton] at q2; omega)).trans (hkm k e a b q)) ⟨sz, ls, kc, c, w, av, bv, rv, lf, ly, ks, N, hD, by dsimp only; rw [if_pos (by omega), if_neg (by decide), if_pos rfl]⟩)
      · refine xw_iload_n dX9_knot_21 rfl ?_
        refine xw_lsw (tgt := 84) (off := 62) dX9_knot_22 hx9 (by decide) (by show (if (0 : Int) = x then _ else if (1 : Int) = x then _ else _) = _; rw [if_neg (by omega), if_neg (by omega)]; rfl) (by decide) ?_
        refine xw_iconst dX9_knot_84 ?_
        exact xw_iret dX9_knot_85 rfl (hq f1 (-1) hcs hkm ⟨sz, ls, kc, c, w, av, bv, rv, lf, ly, ks, N, hD, by dsimp only; rw [if_pos (by omega), if_neg hx01.1, if_neg hx01.2]⟩)
    · skip
      refine xw_iconst dX9_knot_19 ?_
      exact xw_iret dX9_knot_20 rfl (hq f1 (-1) hcs hkm ⟨sz, ls, kc, c, w, av, bv, rv, lf, ly, ks, N, hD, by dsimp only; rw [if_neg (by omega)]⟩)
set_option maxHeartbeats 4000000 in
theorem ct_fewest (h : CS n f bn β gn σ d as ps pb pu pr) (hq : ∀ f1 r, CS n f1 bn β gn σ d as ps pb pu pr → kM f f1 → onA gn σ d (fun sz ls kc c w av bv rv lf ly ks N => r = (rmd av w sz ks kc.toNat 0 0 0).1) → Q (.inl (some (vI r))) n f1) : xct g M_X9_fewest 0 0 [vR 0] n f Q := by
  refine xct_of rfl rfl (Nat.le_of_ble_eq_true rfl) ?_
  obtain ⟨bo, so, tk, rk, h0, hb, hs, hg, ha, hp, hl, ht, hr, h40, hrk, hw, hx⟩ := h
  have hgn := hs.2.1
  refine xw_aload_n dX9_fewest_0 rfl ?_
  refine xw_aload_n dX9_fewest_1 rfl ?_
  refine xw_callV (rc := 0) (rs := 0) (mc2 := 0) (ms2 := 0) (a := 0) (As := []) (st := [vR 0]) dX9_fewest_2 mv_X9_165 h0 rfl rfl (by decide) (by decide) (Nat.le_of_ble_eq_true rfl) rfl (ct_tangleNow h0 hs hg ht h40 (fun f1 hf1 i0 ig it => ?_))
  have hcs : CS n f1 bn β gn σ d as ps pb pu pr := CS_now i0 hb hs ig ha hp hl it hr h40 hrk hw hx (fun k q => hf1 k (fun q2 => by have := nw_in q2; omega))
  have hkm : kM f f1 := fun k e q1 q2 q3 => (hf1 k (fun q4 => by have := nw_in q4; omega)).trans q3
  obtain ⟨sz, ls, kc, c, w, av, bv, rv, lf, ly, ks, wv, N, ⟨m22, m23, m24, m25, m26, m27, m28, m29, m30, m31⟩, hB, hG9, hR9, hrm⟩ := id it
  have hD : tgD gn σ d sz ls kc c w av bv rv lf ly ks N := ⟨hB, hG9, hR9⟩
  have hsz := hG9.2.1
  have hci : ∀ j, j < sz → inI (c j) := fun j hj => by have q := hG9.2.2.1 j hj; rw [q.2.2.2.1]; unfold inI; omega
  have hav : ∀ j, j < sz → av j < 2 ^ 40 := fun j hj => (hB.1 j (by omega)).1
  refine xw_callV (rc := 0) (rs := 0) (mc2 := 0) (ms2 := 0) (a := 0) (As := [vR 22]) (st := []) dX9_fewest_5 mv_X9_298 i0 rfl rfl (by decide) (by decide) (Nat.le_of_ble_eq_true rfl) rfl (ct_remedyFor i0 it hrk (fun s q => (hs.2.2.1 s q).2.2.2) (fun f2 hf2 j0 jt => ?_))
  have hcs2 : CS n f2 bn β gn σ d as ps pb pu pr := CS_now j0 hb hs (sgt_fr ig (fun k a b => hf2 k (fun q => by simp only [List.mem_cons, List.not_mem_nil, or_false] at q; omega))) ha hp hl jt hr h40 (Or.inr rfl) hw hx (fun k q => (hf2 k (fun q2 => by simp only [List.mem_cons, List.not_mem_nil, or_false] at q2; omega)).trans (hf1 k (fun q2 => by have := nw_in q2; omega)))
  have hkm2 : kM f f2 := fun k e a b q => (hf2 k (fun q2 => by simp only [List.mem_cons, List.not_mem_nil, or_false] at q2; omega)).trans (hkm k e a b q)
  clear hrm hD hB hG9 hR9 hsz hci hav m22 m23 m24 m25 m26 m27 m28 m29 m30 m31
  obtain ⟨sz, ls, kc, c, w, av, bv, rv, lf, ly, ks, wv, N, ⟨m22, m23, m24, m25, m26, m27, m28, m29, m30, m31⟩, hB, hG9, hR9, rw9, rp, h9, hp9, hw9, ha9, sw, ⟨r32, r33, r34, r35, r36⟩, hrr⟩ := id jt
  have hD : tgD gn σ d sz ls kc c w av bv rv lf ly ks N := ⟨hB, hG9, hR9⟩
  have hsz := hG9.2.1
  obtain ⟨_, hrw, hrp⟩ := hrr.resolve_left (by decide)
  refine xw_getfield dX9_fewest_8 fl_X9_302 r32 rfl ?_
  exact xw_iret dX9_fewest_11 rfl (hq f2 rw9 hcs2 hkm2 ⟨sz, ls, kc, c, w, av, bv, rv, lf, ly, ks, N, hD, hrw⟩)
set_option maxHeartbeats 4000000 in
theorem ct_few {i : Int} (h : CS n f bn β gn σ d as ps pb pu pr) (hi : inI i) (hq : ∀ f1 r, CS n f1 bn β gn σ d as ps pb pu pr → kM f f1 → onA gn σ d (fun sz ls kc c w av bv rv lf ly ks N => r = xnum c sz (xnth (fun p => (rmd av w sz ks kc.toNat 0 0 0).2.testBit p) i 0 0 40)) → Q (.inl (some (vI r))) n f1) : xct g M_X9_few 0 0 [vR 0, vI i] n f Q := by
  refine xct_of rfl rfl (Nat.le_of_ble_eq_true rfl) ?_
  obtain ⟨bo, so, tk, rk, h0, hb, hs, hg, ha, hp, hl, ht, hr, h40, hrk, hw, hx⟩ := h
  have hgn := hs.2.1
  refine xw_aload_n dX9_few_0 rfl ?_
  refine xw_callV (rc := 0) (rs := 0) (mc2 := 0) (ms2 := 0) (a := 0) (As := []) (st := []) dX9_few_1 mv_X9_165 h0 rfl rfl (by decide) (by decide) (Nat.le_of_ble_eq_true rfl) rfl (ct_tangleNow h0 hs hg ht h40 (fun f1 hf1 i0 ig it => ?_))
  have hcs : CS n f1 bn β gn σ d as ps pb pu pr := CS_now i0 hb hs ig ha hp hl it hr h40 hrk hw hx (fun k q => hf1 k (fun q2 => by have := nw_in q2; omega))
  have hkm : kM f f1 := fun k e q1 q2 q3 => (hf1 k (fun q4 => by have := nw_in q4; omega)).trans q3
  obtain ⟨sz, ls, kc, c, w, av, bv, rv, lf, ly, ks, wv, N, ⟨m22, m23, m24, m25, m26, m27, m28, m29, m30, m31⟩, hB, hG9, hR9, hrm⟩ := id it
  have hD : tgD gn σ d sz ls kc c w av bv rv lf ly ks N := ⟨hB, hG9, hR9⟩
  have hsz := hG9.2.1
  have hci : ∀ j, j < sz → inI (c j) := fun j hj => by have q := hG9.2.2.1 j hj; rw [q.2.2.2.1]; unfold inI; omega
  have hav : ∀ j, j < sz → av j < 2 ^ 40 := fun j hj => (hB.1 j (by omega)).1
  refine xw_astore_n dX9_few_4 (by decide) ?_
  refine xw_aload_n dX9_few_5 rfl ?_
  refine xw_aload_n dX9_few_6 rfl ?_
  refine xw_aload_n dX9_few_7 rfl ?_
  refine xw_callV (rc := 0) (rs := 0) (mc2 := 0) (ms2 := 0) (a := 0) (As := [vR 22]) (st := [vR 22]) dX9_few_8 mv_X9_298 i0 rfl rfl (by decide) (by decide) (Nat.le_of_ble_eq_true rfl) rfl (ct_remedyFor i0 it hrk (fun s q => (hs.2.2.1 s q).2.2.2) (fun f2 hf2 j0 jt => ?_))
  have hcs2 : CS n f2 bn β gn σ d as ps pb pu pr := CS_now j0 hb hs (sgt_fr ig (fun k a b => hf2 k (fun q => by simp only [List.mem_cons, List.not_mem_nil, or_false] at q; omega))) ha hp hl jt hr h40 (Or.inr rfl) hw hx (fun k q => (hf2 k (fun q2 => by simp only [List.mem_cons, List.not_mem_nil, or_false] at q2; omega)).trans (hf1 k (fun q2 => by have := nw_in q2; omega)))
  have hkm2 : kM f f2 := fun k e a b q => (hf2 k (fun q2 => by simp only [List.mem_cons, List.not_mem_nil, or_false] at q2; omega)).trans (hkm k e a b q)
  clear hrm hD hB hG9 hR9 hsz hci hav m22 m23 m24 m25 m26 m27 m28 m29 m30 m31
  obtain ⟨sz, ls, kc, c, w, av, bv, rv, lf, ly, ks, wv, N, ⟨m22, m23, m24, m25, m26, m27, m28, m29, m30, m31⟩, hB, hG9, hR9, rw9, rp, h9, hp9, hw9, ha9, sw, ⟨r32, r33, r34, r35, r36⟩, hrr⟩ := id jt
  have hD : tgD gn σ d sz ls kc c w av bv rv lf ly ks N := ⟨hB, hG9, hR9⟩
  have hsz := hG9.2.1
  obtain ⟨_, hrw, hrp⟩ := hrr.resolve_left (by decide)
  have hlt := rmd_lt av w sz ks hsz kc.toNat 0 0 0 (Nat.two_pow_pos 40)
  have hrg := xnth_rg (fun p => (rmd av w sz ks kc.toNat 0 0 0).2.testBit p) i 40 0 0
  refine xw_getfield dX9_few_11 fl_X9_303 r32 rfl ?_
  refine xw_stk [vL (((rmd av w sz ks kc.toNat 0 0 0).2 : Nat) : Int), vR 22] (by rw [hrp]; rfl) ?_
  refine xw_iload_n dX9_few_14 rfl ?_
  refine xw_callS (rc := 0) (rs := 0) (mc2 := 0) (ms2 := 0) (As := [vL (((rmd av w sz ks kc.toNat 0 0 0).2 : Nat) : Int), vI i]) (st := [vR 22]) dX9_few_15 ms_X9_291 rfl (by decide) (by decide) (Nat.le_of_ble_eq_true rfl) rfl (ct_placeInSet (Nat.lt_of_lt_of_le hlt (xp2 (by decide))) hi ?_)
  refine xw_callV (rc := 0) (rs := 0) (mc2 := 0) (ms2 := 0) (a := 22) (As := [vI (xnth (fun p => (rmd av w sz ks kc.toNat 0 0 0).2.testBit p) i 0 0 40)]) (st := []) dX9_few_18 mv_X9_282 m22 rfl rfl (by decide) (by decide) (Nat.le_of_ble_eq_true rfl) rfl (ct_numberAt m22 m23 hsz (by unfold inI; omega) ?_)
  exact xw_iret dX9_few_21 rfl (hq f2 _ hcs2 hkm2 ⟨sz, ls, kc, c, w, av, bv, rv, lf, ly, ks, N, hD, rfl⟩)
set_option maxHeartbeats 4000000 in
theorem ct_check {z : Int} (h : CS n f bn β gn σ d as ps pb pu pr) (hz : inI z) (hq : ∀ f1 r, CS n f1 bn β gn σ d as ps pb 0 pr → kM f f1 → (z = 0 ∨ z = 1) → onA gn σ d (fun sz ls kc c w av bv rv lf ly ks N => (z = 0 → r = wio av c sz pr pu 0 (2 ^ sz - 1)) ∧ (z = 1 → wir av c sz pr pu pu 0 0 (-1) (-1) r)) → Q (.inl (some (vI r))) n f1) (hx1 : ¬ (z = 0 ∨ z = 1) → ∀ n', n ≤ n' → Q (.inr eIAE) n' f) : xct g M_X9_check 1 6 [vR 0, vI z] n f Q := by
  refine xct_of rfl rfl (Nat.le_of_ble_eq_true rfl) ?_
  obtain ⟨bo, so, tk, rk, h0, hb, hs, hg, ha, hp, hl, ht, hr, h40, hrk, hw, hx⟩ := h
  have hgn := hs.2.1
  have E : ∀ (f1 : xH) (r : Int), CS n f1 bn β gn σ d as ps pb pu pr → kM f f1 → (z = 0 ∨ z = 1) → onA gn σ d (fun sz ls kc c w av bv rv lf ly ks N => (z = 0 → r = wio av c sz pr pu 0 (2 ^ sz - 1)) ∧ (z = 1 → wir av c sz pr pu pu 0 0 (-1) (-1) r)) → xw g M_X9_check Q 0 0 43 [(0, vR 0), (1, vI z)] [vI r] n f1 := by
    intro f1 r hcs hkm hz1 hon
    obtain ⟨bo, so, tk, rk, h0, hb, hs, hg, ha, hp, hl, ht, hr, h40, hrk, hw, hx⟩ := hcs
    have hn := n79 hw hx
    refine xw_istore_n dX9_check_43 (by decide) ?_
    refine xw_aload_n dX9_check_44 rfl ?_
    refine xw_iconst dX9_check_45 ?_
    refine xw_putfield dX9_check_46 (fp_X9_309 _) h0 rfl rfl ?_
    rw [fX9_14]
    refine xw_iload_n dX9_check_49 rfl ?_
    exact xw_iret dX9_check_50 rfl (hq _ r (CS_pp (f := f1) (tk := tk) (rk := rk) rfl hb hs hg ha ⟨hp.1, hp.2⟩ hl ht ⟨hr.1, by omega, fun j hj => absurd hj (Nat.not_lt_zero j)⟩ h40 hrk (wf_up hw (by omega)) hx (fun k a _ _ _ => xup_n _ _ a)) (fun k e a b q => (xup_n _ _ (by omega)).trans (hkm k e a b q)) hz1 hon)
  by_cases e0 : z = 0
  · subst e0
    refine xw_room (Nat.zero_le _) (Nat.zero_le _) ?_
    refine xw_iload_n dX9_check_0 rfl ?_
    refine xw_ifeq (tgt := 20) dX9_check_1 (by decide) (by first | assumption | (unfold inI; omega) | (unfold inI at *; omega)) (fun c_1 => ?_) (fun c_1 => ?_)
    · skip
      refine xw_iload_n dX9_check_20 rfl ?_
      refine xw_ifne (tgt := 35) dX9_check_21 (by decide) (by first | assumption | (unfold inI; omega) | (unfold inI at *; omega)) (fun c_21 => ?_) (fun c_21 => ?_)
      · skip
        exact absurd rfl c_21
      · skip
        refine xw_aload_n dX9_check_24 rfl ?_
        refine xw_aload_n dX9_check_25 rfl ?_
        refine xw_callV (rc := 0) (rs := 0) (mc2 := 0) (ms2 := 0) (a := 0) (As := []) (st := [vR 0]) dX9_check_26 mv_X9_165 h0 rfl rfl (by decide) (by decide) (Nat.le_of_ble_eq_true rfl) rfl (ct_tangleNow h0 hs hg ht h40 (fun f1 hf1 i0 ig it => ?_))
        have hcs : CS n f1 bn β gn σ d as ps pb pu pr := CS_now i0 hb hs ig ha hp hl it hr h40 hrk hw hx (fun k q => hf1 k (fun q2 => by have := nw_in q2; omega))
        have hkm : kM f f1 := fun k e q1 q2 q3 => (hf1 k (fun q4 => by have := nw_in q4; omega)).trans q3
        obtain ⟨sz, ls, kc, c, w, av, bv, rv, lf, ly, ks, wv, N, ⟨m22, m23, m24, m25, m26, m27, m28, m29, m30, m31⟩, hB, hG9, hR9, hrm⟩ := id it
        have hD : tgD gn σ d sz ls kc c w av bv rv lf ly ks N := ⟨hB, hG9, hR9⟩
        have hsz := hG9.2.1
        have hci : ∀ j, j < sz → inI (c j) := fun j hj => by have q := hG9.2.2.1 j hj; rw [q.2.2.2.1]; unfold inI; omega
        have hav : ∀ j, j < sz → av j < 2 ^ 40 := fun j hj => (hB.1 j (by omega)).1
        refine xw_callV (rc := 0) (rs := 0) (mc2 := 0) (ms2 := 0) (a := 0) (As := [vR 22]) (st := []) dX9_check_29 mv_X9_314 i0 rfl rfl (by decide) (by decide) (Nat.le_of_ble_eq_true rfl) rfl (ct_wrongInOrder i0 ((hf1 37 (by decide)).trans hr.1) m22 m23 m25 hsz hr.2.1 hr.2.2 hci (fun j hj => (hB.1 j hj).1) ?_)
        refine xw_goto (tgt := 43) dX9_check_32 (by decide) ?_
        exact E f1 _ hcs hkm (Or.inl rfl) ⟨sz, ls, kc, c, w, av, bv, rv, lf, ly, ks, N, hD, ⟨fun _ => rfl, fun q => absurd q (by decide)⟩⟩
    · skip
      exact absurd rfl c_1
  · by_cases e1 : z = 1
    · subst e1
      refine xw_room (Nat.zero_le _) (Nat.zero_le _) ?_
      refine xw_iload_n dX9_check_0 rfl ?_
      refine xw_ifeq (tgt := 20) dX9_check_1 (by decide) (by first | assumption | (unfold inI; omega) | (unfold inI at *; omega)) (fun c_1 => ?_) (fun c_1 => ?_)
      · skip
        exact absurd c_1 e0
      · skip
        refine xw_iload_n dX9_check_4 rfl ?_
        refine xw_iconst dX9_check_5 ?_
        refine xw_icmpeq (tgt := 20) dX9_check_6 (by decide) (by first | assumption | (unfold inI; omega) | (unfold inI at *; omega)) (by first | assumption | (unfold inI; omega) | (unfold inI at *; omega)) (fun c_6 => ?_) (fun c_6 => ?_)
        · skip
          refine xw_iload_n dX9_check_20 rfl ?_
          refine xw_ifne (tgt := 35) dX9_check_21 (by decide) (by first | assumption | (unfold inI; omega) | (unfold inI at *; omega)) (fun c_21 => ?_) (fun c_21 => ?_)
          · skip
            refine xw_aload_n dX9_check_35 rfl ?_
            refine xw_aload_n dX9_check_36 rfl ?_
            refine xw_callV (rc := 0) (rs := 0) (mc2 := 0) (ms2 := 0) (a := 0) (As := []) (st := [vR 0]) dX9_check_37 mv_X9_165 h0 rfl rfl (by decide) (by decide) (Nat.le_of_ble_eq_true rfl) rfl (ct_tangleNow h0 hs hg ht h40 (fun f1 hf1 i0 ig it => ?_))
            have hcs : CS n f1 bn β gn σ d as ps pb pu pr := CS_now i0 hb hs ig ha hp hl it hr h40 hrk hw hx (fun k q => hf1 k (fun q2 => by have := nw_in q2; omega))
            have hkm : kM f f1 := fun k e q1 q2 q3 => (hf1 k (fun q4 => by have := nw_in q4; omega)).trans q3
            obtain ⟨sz, ls, kc, c, w, av, bv, rv, lf, ly, ks, wv, N, ⟨m22, m23, m24, m25, m26, m27, m28, m29, m30, m31⟩, hB, hG9, hR9, hrm⟩ := id it
            have hD : tgD gn σ d sz ls kc c w av bv rv lf ly ks N := ⟨hB, hG9, hR9⟩
            have hsz := hG9.2.1
            have hci : ∀ j, j < sz → inI (c j) := fun j hj => by have q := hG9.2.2.1 j hj; rw [q.2.2.2.1]; unfold inI; omega
            have hav : ∀ j, j < sz → av j < 2 ^ 40 := fun j hj => (hB.1 j (by omega)).1
            refine xw_callV (rc := 0) (rs := 0) (mc2 := 0) (ms2 := 0) (a := 0) (As := [vR 22]) (st := []) dX9_check_40 mv_X9_318 i0 rfl rfl (by decide) (by decide) (Nat.le_of_ble_eq_true rfl) rfl (ct_wrongInRing i0 ((hf1 37 (by decide)).trans hr.1) m22 m23 m25 hsz hr.2.1 hr.2.2 hci (fun j hj => (hB.1 j hj).1) (fun r hwr => ?_))
            exact E f1 r hcs hkm (Or.inr rfl) ⟨sz, ls, kc, c, w, av, bv, rv, lf, ly, ks, N, hD, ⟨fun q => absurd q (by decide), fun _ => hwr⟩⟩
          · skip
            exact absurd c_21 e0
        · skip
          exact absurd rfl c_6
    · skip
      refine xw_iload_n dX9_check_0 rfl ?_
      refine xw_ifeq (tgt := 20) dX9_check_1 (by decide) (by first | assumption | (unfold inI; omega) | (unfold inI at *; omega)) (fun c_1 => ?_) (fun c_1 => ?_)
      · skip
        exact absurd c_1 e0
      · skip
        refine xw_iload_n dX9_check_4 rfl ?_
        refine xw_iconst dX9_check_5 ?_
        refine xw_icmpeq (tgt := 20) dX9_check_6 (by decide) (by first | assumption | (unfold inI; omega) | (unfold inI at *; omega)) (by first | assumption | (unfold inI; omega) | (unfold inI at *; omega)) (fun c_6 => ?_) (fun c_6 => ?_)
        · skip
          exact absurd c_6 e1
        · skip
          exact xw_throwSW (rc := 0) (rs := 0) th_312 rfl dX9_check_9 dX9_check_12 dX9_check_13 dX9_check_16 dX9_check_19 (by decide) (by decide) (hx1 (by omega))
set_option maxHeartbeats 4000000 in
theorem ct_count {z : Int} (h : CS n f bn β gn σ d as ps pb pu pr) (hz : inI z) (hq : ∀ f1 r, CS n f1 bn β gn σ d as ps pb pu pr → kM f f1 → cntA bn gn σ d as ps z r → Q (.inl (some (vI r))) n f1) : xct g M_X9_count 0 0 [vR 0, vI z] n f Q := by
  refine xct_of rfl rfl (Nat.le_of_ble_eq_true rfl) ?_
  obtain ⟨bo, so, tk, rk, h0, hb, hs, hg, ha, hp, hl, ht, hr, h40, hrk, hw, hx⟩ := h
  have hgn := hs.2.1
  have hcs0 : CS n f bn β gn σ d as ps pb pu pr := ⟨bo, so, tk, rk, h0, hb, hs, hg, ha, hp, hl, ht, hr, h40, hrk, hw, hx⟩
  obtain ⟨p12, a13, a14, a15, a16, a17, c12, _⟩ := id ha
  rcases (by omega : z = 0 ∨ z = 1 ∨ z = 2 ∨ z = 3 ∨ z = 4 ∨ z = 5 ∨ (z < 0 ∨ 5 < z)) with rfl | rfl | rfl | rfl | rfl | rfl | hz9
  · refine xw_iload_n dX9_count_0 rfl ?_
    refine xw_tin (tgt := 40) dX9_count_1 hz (by decide) (by decide) rfl (by decide) ?_
    refine xw_aload_n dX9_count_40 rfl ?_
    refine xw_getfield dX9_count_41 fl_X9_74 h0 rfl ?_
    exact xw_iret dX9_count_44 rfl (hq f _ hcs0 (kM_rf f) (Or.inl ⟨rfl, rfl⟩))
  · refine xw_iload_n dX9_count_0 rfl ?_
    refine xw_tin (tgt := 45) dX9_count_1 hz (by decide) (by decide) rfl (by decide) ?_
    refine xw_aload_n dX9_count_45 rfl ?_
    refine xw_getfield dX9_count_46 fl_X9_131 h0 rfl ?_
    exact xw_iret dX9_count_49 rfl (hq f _ hcs0 (kM_rf f) (Or.inr (Or.inl ⟨rfl, rfl⟩)))
  · refine xw_iload_n dX9_count_0 rfl ?_
    refine xw_tin (tgt := 50) dX9_count_1 hz (by decide) (by decide) rfl (by decide) ?_
    refine xw_aload_n dX9_count_50 rfl ?_
    refine xw_getfield dX9_count_51 fl_X9_134 h0 rfl ?_
    exact xw_iret dX9_count_54 rfl (hq f _ hcs0 (kM_rf f) (Or.inr (Or.inr (Or.inl ⟨rfl, rfl⟩))))
  · refine xw_iload_n dX9_count_0 rfl ?_
    refine xw_tin (tgt := 55) dX9_count_1 hz (by decide) (by decide) rfl (by decide) ?_
    refine xw_aload_n dX9_count_55 rfl ?_
    refine xw_getfield dX9_count_56 fl_X9_38 h0 rfl ?_
    refine xw_getfield dX9_count_59 fl_X9_225 hp.1 rfl ?_
    exact xw_iret dX9_count_62 rfl (hq f _ hcs0 (kM_rf f) (Or.inr (Or.inr (Or.inr (Or.inl ⟨rfl, rfl⟩)))))
  · refine xw_iload_n dX9_count_0 rfl ?_
    refine xw_tin (tgt := 63) dX9_count_1 hz (by decide) (by decide) rfl (by decide) ?_
    refine xw_aload_n dX9_count_63 rfl ?_
    refine xw_getfield dX9_count_64 fl_X9_31 h0 rfl ?_
    refine xw_getfield dX9_count_67 fl_X9_181 c12 rfl ?_
    exact xw_iret dX9_count_70 rfl (hq f _ hcs0 (kM_rf f) (Or.inr (Or.inr (Or.inr (Or.inr (Or.inl ⟨rfl, rfl⟩))))))
  · refine xw_iload_n dX9_count_0 rfl ?_
    refine xw_tin (tgt := 71) dX9_count_1 hz (by decide) (by decide) rfl (by decide) ?_
    refine xw_aload_n dX9_count_71 rfl ?_
    refine xw_callV (rc := 0) (rs := 0) (mc2 := 0) (ms2 := 0) (a := 0) (As := []) (st := []) dX9_count_72 mv_X9_165 h0 rfl rfl (by decide) (by decide) (Nat.le_of_ble_eq_true rfl) rfl (ct_tangleNow h0 hs hg ht h40 (fun f1 hf1 i0 ig it => ?_))
    have hcs : CS n f1 bn β gn σ d as ps pb pu pr := CS_now i0 hb hs ig ha hp hl it hr h40 hrk hw hx (fun k q => hf1 k (fun q2 => by have := nw_in q2; omega))
    have hkm : kM f f1 := fun k e q1 q2 q3 => (hf1 k (fun q4 => by have := nw_in q4; omega)).trans q3
    obtain ⟨sz, ls, kc, c, w, av, bv, rv, lf, ly, ks, wv, N, ⟨m22, m23, m24, m25, m26, m27, m28, m29, m30, m31⟩, hB, hG9, hR9, hrm⟩ := id it
    have hD : tgD gn σ d sz ls kc c w av bv rv lf ly ks N := ⟨hB, hG9, hR9⟩
    have hsz := hG9.2.1
    have hci : ∀ j, j < sz → inI (c j) := fun j hj => by have q := hG9.2.2.1 j hj; rw [q.2.2.2.1]; unfold inI; omega
    have hav : ∀ j, j < sz → av j < 2 ^ 40 := fun j hj => (hB.1 j (by omega)).1
    refine xw_callV (rc := 0) (rs := 0) (mc2 := 0) (ms2 := 0) (a := 22) (As := []) (st := []) dX9_count_75 mv_X9_226 m22 rfl rfl (by decide) (by decide) (Nat.le_of_ble_eq_true rfl) rfl (ct_pairs m22 m25 hsz hav ?_)
    exact xw_iret dX9_count_78 rfl (hq f1 _ hcs hkm (Or.inr (Or.inr (Or.inr (Or.inr (Or.inr (Or.inl ⟨rfl, sz, ls, kc, c, w, av, bv, rv, lf, ly, ks, N, hD, rfl⟩)))))))
  · refine xw_iload_n dX9_count_0 rfl ?_
    refine xw_tout (tgt := 79) dX9_count_1 hz hz9 (by decide) ?_
    refine xw_iconst dX9_count_79 ?_
    exact xw_iret dX9_count_80 rfl (hq f _ hcs0 (kM_rf f) (Or.inr (Or.inr (Or.inr (Or.inr (Or.inr (Or.inr (⟨hz9, rfl⟩))))))))
set_option maxHeartbeats 4000000 in
theorem ct_crossings {z : Int} (h : CS n f bn β gn σ d as ps pb pu pr) (hz : inI z) (hq : ∀ (s n1 : Nat) f1 r, z = (s : Int) → s < gn → hrS (σ s) = 1 → n ≤ n1 → CS n1 f1 bn β gn σ d as ps pb pu pr → kM f f1 → r = ((clist d gn σ s).1 : Int) → Q (.inl (some (vI r))) n1 f1) (hx1 : ¬ hre gn σ z → ∀ n', n ≤ n' → Q (.inr eNSE) n' f) : xct g M_X9_crossings 401 2806 [vR 0, vI z] n f Q := by
  refine xct_of rfl rfl (Nat.le_of_ble_eq_true rfl) ?_
  obtain ⟨bo, so, tk, rk, h0, hb, hs, hg, ha, hp, hl, ht, hr, h40, hrk, hw, hx⟩ := h
  have hgn := hs.2.1
  have hcs0 : CS n f bn β gn σ d as ps pb pu pr := ⟨bo, so, tk, rk, h0, hb, hs, hg, ha, hp, hl, ht, hr, h40, hrk, hw, hx⟩
  refine xw_aload_n dX9_crossings_0 rfl ?_
  refine xw_iload_n dX9_crossings_1 rfl ?_
  refine xw_callV (rc := 0) (rs := 0) (mc2 := 401) (ms2 := 2806) (a := 0) (As := [vI z]) (st := []) dX9_crossings_2 mv_X9_239 h0 rfl rfl (by decide) (by decide) (Nat.le_of_ble_eq_true rfl) rfl (ct_crossingsOf h0 hs hg hl hw h40 hz (fun s n1 f1 sz L e1 e2 e3 hn1 w1 hD1 g1 i20 l1 h156 hok hof => ?_) hx1)
  obtain ⟨hcs, hkm⟩ := CS_frD hcs0 e2 e3 w1 hD1 g1 i20 l1 h156 hok hof
  refine xw_getfield dX9_crossings_5 fl_X9_243 i20 rfl ?_
  exact xw_iret dX9_crossings_8 rfl (hq s n1 f1 sz e1 e2 e3 hn1 hcs hkm (by rw [hof.1]))
set_option maxHeartbeats 4000000 in
theorem ct_crossing {z k w : Int} (h : CS n f bn β gn σ d as ps pb pu pr) (hz : inI z) (hk : inI k) (hw9 : inI w) (hq : ∀ (s n1 : Nat) f1 r, z = (s : Int) → s < gn → hrS (σ s) = 1 → n ≤ n1 → CS n1 f1 bn β gn σ d as ps pb pu pr → kM f f1 → ((¬ (0 ≤ k ∧ k < ((clist d gn σ s).1 : Int)) ∧ r = -1) ∨ ((0 ≤ k ∧ k < ((clist d gn σ s).1 : Int)) ∧ crsA ((clist d gn σ s).2 k.toNat) w r)) → Q (.inl (some (vI r))) n1 f1) (hx1 : ¬ hre gn σ z → ∀ n', n ≤ n' → Q (.inr eNSE) n' f) : xct g M_X9_crossing 401 2806 [vR 0, vI z, vI k, vI w] n f Q := by
  refine xct_of rfl rfl (Nat.le_of_ble_eq_true rfl) ?_
  obtain ⟨bo, so, tk, rk, h0, hb, hs, hg, ha, hp, hl, ht, hr, h40, hrk, hw, hx⟩ := h
  have hgn := hs.2.1
  have hcs0 : CS n f bn β gn σ d as ps pb pu pr := ⟨bo, so, tk, rk, h0, hb, hs, hg, ha, hp, hl, ht, hr, h40, hrk, hw, hx⟩
  have G : ∀ (n1 : Nat) (f1 : xH) (a : Nat) (c : xC7), f1 a = some (oCr c) → okW c → (∀ r, crsA c w r → Q (.inl (some (vI r))) n1 f1) → xw g M_X9_crossing Q 0 0 9 [(0, vR 0), (1, vI z), (2, vI k), (3, vI w)] [vR a] n1 f1 := by
    intro n1 f1 a c hca hok hqc
    rcases (by omega : w = 0 ∨ w = 1 ∨ w = 2 ∨ w = 3 ∨ (w < 0 ∨ 3 < w)) with rfl | rfl | rfl | rfl | hw3
    · skip
      refine xw_astore dX9_crossing_9 (by decide) ?_
      refine xw_aload dX9_crossing_11 rfl ?_
      refine xw_ifnonnullR (tgt := 18) dX9_crossing_13 (by decide) ?_
      refine xw_iload_n dX9_crossing_18 rfl ?_
      refine xw_tin (tgt := 48) dX9_crossing_19 hw9 (by decide) (by decide) rfl (by decide) ?_
      refine xw_aload dX9_crossing_48 rfl ?_
      refine xw_getfield dX9_crossing_50 fl_X9_248 hca rfl ?_
      exact xw_iret dX9_crossing_53 rfl (hqc _ (Or.inl ⟨rfl, rfl⟩))
    · skip
      refine xw_astore dX9_crossing_9 (by decide) ?_
      refine xw_aload dX9_crossing_11 rfl ?_
      refine xw_ifnonnullR (tgt := 18) dX9_crossing_13 (by decide) ?_
      refine xw_iload_n dX9_crossing_18 rfl ?_
      refine xw_tin (tgt := 54) dX9_crossing_19 hw9 (by decide) (by decide) rfl (by decide) ?_
      refine xw_aload dX9_crossing_54 rfl ?_
      refine xw_getfield dX9_crossing_56 fl_X9_253 hca rfl ?_
      exact xw_iret dX9_crossing_59 rfl (hqc _ (Or.inr (Or.inl ⟨rfl, rfl⟩)))
    · skip
      refine xw_astore dX9_crossing_9 (by decide) ?_
      refine xw_aload dX9_crossing_11 rfl ?_
      refine xw_ifnonnullR (tgt := 18) dX9_crossing_13 (by decide) ?_
      refine xw_iload_n dX9_crossing_18 rfl ?_
      refine xw_tin (tgt := 60) dX9_crossing_19 hw9 (by decide) (by decide) rfl (by decide) ?_
      refine xw_aload dX9_crossing_60 rfl ?_
      refine xw_getfield dX9_crossing_62 fl_X9_256 hca rfl ?_
      exact xw_iret dX9_crossing_65 rfl (hqc _ (Or.inr (Or.inr (Or.inl ⟨rfl, rfl⟩))))
    · skip
      refine xw_astore dX9_crossing_9 (by decide) ?_
      refine xw_aload dX9_crossing_11 rfl ?_
      refine xw_ifnonnullR (tgt := 18) dX9_crossing_13 (by decide) ?_
      refine xw_iload_n dX9_crossing_18 rfl ?_
      refine xw_tin (tgt := 66) dX9_crossing_19 hw9 (by decide) (by decide) rfl (by decide) ?_
      refine xw_aload dX9_crossing_66 rfl ?_
      refine xw_getfield dX9_crossing_68 fl_X9_259 hca rfl ?_
      refine xw_lconst (z := 0) dX9_crossing_71 (by decide) ?_
      refine xw_lcmple (tgt := 80) dX9_crossing_72 dX9_crossing_73 (by decide) (nb_L hok.2.2.2.1 (by decide)) (by unfold inL; omega) (fun c_72 => ?_) (fun c_72 => ?_)
      · skip
        refine xw_iconst dX9_crossing_80 ?_
        exact xw_iret dX9_crossing_81 rfl (by first | exact hqc 1 (Or.inr (Or.inr (Or.inr (Or.inl ⟨rfl, by rw [if_pos (by omega)]⟩)))) | exact hqc 0 (Or.inr (Or.inr (Or.inr (Or.inl ⟨rfl, by rw [if_neg (by omega)]⟩)))))
      · skip
        refine xw_iconst dX9_crossing_76 ?_
        refine xw_goto (tgt := 81) dX9_crossing_77 (by decide) ?_
        exact xw_iret dX9_crossing_81 rfl (by first | exact hqc 1 (Or.inr (Or.inr (Or.inr (Or.inl ⟨rfl, by rw [if_pos (by omega)]⟩)))) | exact hqc 0 (Or.inr (Or.inr (Or.inr (Or.inl ⟨rfl, by rw [if_neg (by omega)]⟩)))))
    · skip
      refine xw_astore dX9_crossing_9 (by decide) ?_
      refine xw_aload dX9_crossing_11 rfl ?_
      refine xw_ifnonnullR (tgt := 18) dX9_crossing_13 (by decide) ?_
      refine xw_iload_n dX9_crossing_18 rfl ?_
      refine xw_tout (tgt := 82) dX9_crossing_19 hw9 hw3 (by decide) ?_
      refine xw_iconst dX9_crossing_82 ?_
      exact xw_iret dX9_crossing_83 rfl (hqc (-1) (Or.inr (Or.inr (Or.inr (Or.inr ⟨hw3, rfl⟩)))))
  have H : ∀ (n1 : Nat) (f1 : xH), Q (.inl (some (vI (-1)))) n1 f1 → xw g M_X9_crossing Q 0 0 9 [(0, vR 0), (1, vI z), (2, vI k), (3, vI w)] [vN] n1 f1 := by
    intro n1 f1 hqc
    refine xw_astoreN dX9_crossing_9 (by decide) ?_
    refine xw_aloadN dX9_crossing_11 rfl ?_
    refine xw_ifnonnullN dX9_crossing_13 ?_
    refine xw_iconst dX9_crossing_16 ?_
    exact xw_iret dX9_crossing_17 rfl hqc
  refine xw_aload_n dX9_crossing_0 rfl ?_
  refine xw_iload_n dX9_crossing_1 rfl ?_
  refine xw_callV (rc := 0) (rs := 0) (mc2 := 401) (ms2 := 2806) (a := 0) (As := [vI z]) (st := []) dX9_crossing_2 mv_X9_239 h0 rfl rfl (by decide) (by decide) (Nat.le_of_ble_eq_true rfl) rfl (ct_crossingsOf h0 hs hg hl hw h40 hz (fun s n1 f1 sz L e1 e2 e3 hn1 w1 hD1 g1 i20 l1 h156 hok hof => ?_) hx1)
  obtain ⟨hcs, hkm⟩ := CS_frD hcs0 e2 e3 w1 hD1 g1 i20 l1 h156 hok hof
  refine xw_iload_n dX9_crossing_5 rfl ?_
  refine xw_callV (rc := 0) (rs := 0) (mc2 := 0) (ms2 := 0) (a := 20) (As := [vI k]) (st := []) dX9_crossing_6 mv_X9_244 i20 rfl rfl (by decide) (by decide) (Nat.le_of_ble_eq_true rfl) rfl (ct_lat i20 l1 h156 hk (fun j a q1 q2 q3 => ?_) (fun q1 => ?_))
  · exact G n1 f1 a (L j) q3 (hok j q2) (fun r hr9 => hq s n1 f1 r e1 e2 e3 hn1 hcs hkm (Or.inr ⟨by rw [← hof.1]; omega, by rw [q1, Int.toNat_natCast, ← hof.2 j q2]; exact hr9⟩))
  · exact H n1 f1 (hq s n1 f1 (-1) e1 e2 e3 hn1 hcs hkm (Or.inl ⟨by rw [← hof.1]; exact q1, rfl⟩))
set_option maxHeartbeats 4000000 in
theorem ct_print {z k w : Int} (h : CS n f bn β gn σ d as ps pb pu pr) (hz : inI z) (hk : inI k) (hw9 : inI w) (hq1 : ∀ (s n1 : Nat) f1, z = (s : Int) → s < gn → hrS (σ s) = 1 → n ≤ n1 → CS n1 f1 bn β gn σ d as ps pb pu pr → kM f f1 → ¬ ((0 ≤ k ∧ k < ((clist d gn σ s).1 : Int)) ∧ (w = 0 ∨ w = 1)) → Q (.inl (some (vI (-1)))) n1 f1) (hq2 : ∀ (s n1 : Nat) f1 (c : xC7) (t : Int) (b : Nat) (r : Nat × (Nat → Int)), z = (s : Int) → s < gn → hrS (σ s) = 1 → n ≤ n1 → (0 ≤ k ∧ k < ((clist d gn σ s).1 : Int)) → c = (clist d gn σ s).2 k.toNat → okW c → (w = 0 ∧ t = c.2.2.2.1 ∧ (b : Int) = c.2.2.2.2.1) ∨ (w = 1 ∧ t = c.2.2.2.2.2.1 ∧ (b : Int) = c.2.2.2.2.2.2) → r = frac (decide (t < 0)) (t.natAbs / Nat.gcd t.natAbs b) (b / Nat.gcd t.natAbs b) pb → CS n1 f1 bn β gn σ d as r.1 r.2 pu pr → kM f f1 → Q (.inl (some (vI (r.1 : Int)))) n1 f1) (hx1 : ¬ hre gn σ z → ∀ n', n ≤ n' → Q (.inr eNSE) n' f) : xct g M_X9_print 401 2806 [vR 0, vI z, vI k, vI w] n f Q := by
  refine xct_of rfl rfl (Nat.le_of_ble_eq_true rfl) ?_
  obtain ⟨bo, so, tk, rk, h0, hb, hs, hg, ha, hp, hl, ht, hr, h40, hrk, hw, hx⟩ := h
  have hgn := hs.2.1
  have hcs0 : CS n f bn β gn σ d as ps pb pu pr := ⟨bo, so, tk, rk, h0, hb, hs, hg, ha, hp, hl, ht, hr, h40, hrk, hw, hx⟩
  have E : ∀ (n1 : Nat) (f1 : xH) (r : Nat × (Nat → Int)), f1 0 = some (oTb bn gn (hc σ gn : Int) tk rk pu) → f1 18 = some (oPg r.1) → Q (.inl (some (vI (r.1 : Int)))) n1 f1 → xw g M_X9_print Q 0 0 68 [(0, vR 0)] [] n1 f1 := by
    intro n1 f1 r j0 j18 hqc
    refine xw_aload_n dX9_print_68 rfl ?_
    refine xw_getfield dX9_print_69 fl_X9_38 j0 rfl ?_
    refine xw_getfield dX9_print_72 fl_X9_225 j18 rfl ?_
    exact xw_iret dX9_print_75 rfl hqc
  have e12 : (10 : Nat) ^ 12 = 1000000000000 := by decide
  have e39 : (2 : Nat) ^ 39 = 549755813888 := by decide
  have G : ∀ (n1 : Nat) (f1 : xH) (a : Nat) (c : xC7), CS n1 f1 bn β gn σ d as ps pb pu pr → f1 0 = some (oTb bn gn (hc σ gn : Int) tk rk pu) → f1 a = some (oCr c) → okW c → (¬ (w = 0 ∨ w = 1) → Q (.inl (some (vI (-1)))) n1 f1) → (∀ (t : Int) (b : Nat) (r : Nat × (Nat → Int)) f2, (w = 0 ∧ t = c.2.2.2.1 ∧ (b : Int) = c.2.2.2.2.1) ∨ (w = 1 ∧ t = c.2.2.2.2.2.1 ∧ (b : Int) = c.2.2.2.2.2.2) → r = frac (decide (t < 0)) (t.natAbs / Nat.gcd t.natAbs b) (b / Nat.gcd t.natAbs b) pb → CS n1 f2 bn β gn σ d as r.1 r.2 pu pr → fr [18, 19] f1 f2 → Q (.inl (some (vI (r.1 : Int)))) n1 f2) → xw g M_X9_print Q 0 0 9 [(0, vR 0), (1, vI z), (2, vI k), (3, vI w)] [vR a] n1 f1 := by
    intro n1 f1 a c hcs j0 hca hok hq9 hqc
    obtain ⟨k0, ⟨k1, k2⟩, ⟨k3, k4⟩, k5, ⟨k6, k7⟩⟩ := id hok
    obtain ⟨bo1, so1, tk1, rk1, h01, hb1, hs1, hg1, ha1, hp1, hl1, ht1, hr1, h401, hrk1, hw1, hx1'⟩ := hcs
    obtain ⟨b1, hb9⟩ : ∃ b1 : Nat, c.2.2.2.2.1 = (b1 : Int) := ⟨c.2.2.2.2.1.toNat, by have : 0 < c.2.2.2.2.1 := k3; omega⟩
    obtain ⟨b2, hb8⟩ : ∃ b2 : Nat, c.2.2.2.2.2.2 = (b2 : Int) := ⟨c.2.2.2.2.2.2.toNat, by have : 0 < c.2.2.2.2.2.2 := k6; omega⟩
    have K : ∀ (t : Int) (b : Nat) (f2 : xH) (r : Nat × (Nat → Int)), t.natAbs < 10 ^ 12 → b < 10 ^ 12 → r = frac (decide (t < 0)) (t.natAbs / Nat.gcd t.natAbs b) (b / Nat.gcd t.natAbs b) pb → fr [18, 19] f1 f2 → f2 18 = some (oPg r.1) → f2 19 = some (aB 40 r.2) → CS n1 f2 bn β gn σ d as r.1 r.2 pu pr := by
      intro t b f2 r q1 q2 q3 q4 q5 q6
      have hn := n79 hw1 hx1'
      exact CS_pp (f := f1) (tk := tk1) (rk := rk1) (fr_at q4 h01 (by decide)) hb1 hs1 hg1 ha1 ⟨q5, q6, by rw [q3]; exact frac_le (Nat.lt_of_le_of_lt (Nat.div_le_self _ _) q1) (Nat.lt_of_le_of_lt (Nat.div_le_self _ _) q2)⟩ hl1 ht1 ⟨fr_at q4 hr1.1 (by decide), hr1.2⟩ h401 hrk1 (fun k9 hk9 => (q4 k9 (fun q => by simp only [List.mem_cons, List.not_mem_nil, or_false] at q; omega)).trans (hw1 k9 hk9)) hx1' (fun k9 a1 a2 a3 a4 => q4 k9 (fun q => by simp only [List.mem_cons, List.not_mem_nil, or_false] at q; omega))
    have t1 : c.2.2.2.1.natAbs < 10 ^ 12 := by have q1 : 0 ≤ c.2.2.2.1 := k1; have q2 : c.2.2.2.1 ≤ c.2.2.2.2.1 := k2; have q3 : c.2.2.2.2.1.natAbs ≤ 2400000000 := k4; omega
    have t2 : b1 < 10 ^ 12 := by have q3 : c.2.2.2.2.1.natAbs ≤ 2400000000 := k4; omega
    have t3 : c.2.2.2.2.2.1.natAbs < 10 ^ 12 := by have q3 : c.2.2.2.2.2.1.natAbs ≤ 48000000000 := k5; omega
    have t4 : b2 < 10 ^ 12 := by have q3 : c.2.2.2.2.2.2.natAbs ≤ 2400000000 := k7; omega
    have t5 : 0 < b1 := by have q3 : 0 < c.2.2.2.2.1 := k3; omega
    have t6 : 0 < b2 := by have q3 : 0 < c.2.2.2.2.2.2 := k6; omega
    have t7 : b1 < 2 ^ 39 := by have q3 : c.2.2.2.2.1.natAbs ≤ 2400000000 := k4; omega
    have t8 : b2 < 2 ^ 39 := by have q3 : c.2.2.2.2.2.2.natAbs ≤ 2400000000 := k7; omega
    refine xw_astore dX9_print_9 (by decide) ?_
    refine xw_aload dX9_print_11 rfl ?_
    refine xw_ifnullR dX9_print_13 ?_
    refine xw_iload_n dX9_print_16 rfl ?_
    refine xw_iflt (tgt := 25) dX9_print_17 (by decide) (by first | assumption | (unfold inI; omega) | (unfold inI at *; omega)) (fun c_17 => ?_) (fun c_17 => ?_)
    · skip
      refine xw_iconst dX9_print_25 ?_
      exact xw_iret dX9_print_26 rfl (hq9 (by omega))
    · skip
      refine xw_iload_n dX9_print_20 rfl ?_
      refine xw_iconst dX9_print_21 ?_
      refine xw_icmple (tgt := 27) dX9_print_22 (by decide) (by first | assumption | (unfold inI; omega) | (unfold inI at *; omega)) (by first | assumption | (unfold inI; omega) | (unfold inI at *; omega)) (fun c_22 => ?_) (fun c_22 => ?_)
      · skip
        refine xw_iload_n dX9_print_27 rfl ?_
        refine xw_ifne (tgt := 51) dX9_print_28 (by decide) (by first | assumption | (unfold inI; omega) | (unfold inI at *; omega)) (fun c_28 => ?_) (fun c_28 => ?_)
        · skip
          refine xw_aload_n dX9_print_51 rfl ?_
          refine xw_getfield dX9_print_52 fl_X9_38 j0 rfl ?_
          refine xw_aload dX9_print_55 rfl ?_
          refine xw_getfield dX9_print_57 fl_X9_259 hca rfl ?_
          refine xw_aload dX9_print_60 rfl ?_
          refine xw_getfield dX9_print_62 fl_X9_273 hca (congrArg vL hb8) ?_
          refine xw_callV (rc := 0) (rs := 0) (mc2 := 0) (ms2 := 0) (a := 18) (As := [vL c.2.2.2.2.2.1, vL (b2 : Int)]) (st := []) dX9_print_65 mv_X9_269 hp1.1 rfl rfl (by decide) (by decide) (Nat.le_of_ble_eq_true rfl) rfl (ct_showFraction hp1.1 hp1.2.1 t3 t6 t8 (fun f2 r q1 q2 q3 q4 => ?_))
          exact xw_ls [(0, vR 0)] ⟨rfl, trivial⟩ (E n1 f2 r (fr_at q2 j0 (by decide)) q3 (hqc _ b2 r f2 (Or.inr ⟨by omega, rfl, hb8.symm⟩) q1 (K _ b2 f2 r t3 t4 q1 q2 q3 q4) q2))
        · skip
          refine xw_aload_n dX9_print_31 rfl ?_
          refine xw_getfield dX9_print_32 fl_X9_38 j0 rfl ?_
          refine xw_aload dX9_print_35 rfl ?_
          refine xw_getfield dX9_print_37 fl_X9_263 hca rfl ?_
          refine xw_aload dX9_print_40 rfl ?_
          refine xw_getfield dX9_print_42 fl_X9_266 hca (congrArg vL hb9) ?_
          refine xw_callV (rc := 0) (rs := 0) (mc2 := 0) (ms2 := 0) (a := 18) (As := [vL c.2.2.2.1, vL (b1 : Int)]) (st := []) dX9_print_45 mv_X9_269 hp1.1 rfl rfl (by decide) (by decide) (Nat.le_of_ble_eq_true rfl) rfl (ct_showFraction hp1.1 hp1.2.1 t1 t5 t7 (fun f2 r q1 q2 q3 q4 => ?_))
          refine xw_ls [(0, vR 0)] ⟨rfl, trivial⟩ ?_
          refine xw_goto (tgt := 68) dX9_print_48 (by decide) ?_
          exact E n1 f2 r (fr_at q2 j0 (by decide)) q3 (hqc _ b1 r f2 (Or.inl ⟨by omega, rfl, hb9.symm⟩) q1 (K _ b1 f2 r t1 t2 q1 q2 q3 q4) q2)
          skip
      · skip
        refine xw_iconst dX9_print_25 ?_
        exact xw_iret dX9_print_26 rfl (hq9 (by omega))
  have H : ∀ (n1 : Nat) (f1 : xH), Q (.inl (some (vI (-1)))) n1 f1 → xw g M_X9_print Q 0 0 9 [(0, vR 0), (1, vI z), (2, vI k), (3, vI w)] [vN] n1 f1 := by
    intro n1 f1 hqc
    refine xw_astoreN dX9_print_9 (by decide) ?_
    refine xw_aloadN dX9_print_11 rfl ?_
    refine xw_ifnullN (tgt := 25) dX9_print_13 (by decide) ?_
    refine xw_iconst dX9_print_25 ?_
    exact xw_iret dX9_print_26 rfl hqc
  refine xw_aload_n dX9_print_0 rfl ?_
  refine xw_iload_n dX9_print_1 rfl ?_
  refine xw_callV (rc := 0) (rs := 0) (mc2 := 401) (ms2 := 2806) (a := 0) (As := [vI z]) (st := []) dX9_print_2 mv_X9_239 h0 rfl rfl (by decide) (by decide) (Nat.le_of_ble_eq_true rfl) rfl (ct_crossingsOf h0 hs hg hl hw h40 hz (fun s n1 f1 sz L e1 e2 e3 hn1 w1 hD1 g1 i20 l1 h156 hok hof => ?_) hx1)
  obtain ⟨hcs, hkm⟩ := CS_frD hcs0 e2 e3 w1 hD1 g1 i20 l1 h156 hok hof
  have j0 : f1 0 = some (oTb bn gn (hc σ gn : Int) tk rk pu) := (frD_eq hx hD1 (by omega) (by omega) (by omega) (by omega) (by omega)).trans h0
  refine xw_iload_n dX9_print_5 rfl ?_
  refine xw_callV (rc := 0) (rs := 0) (mc2 := 0) (ms2 := 0) (a := 20) (As := [vI k]) (st := []) dX9_print_6 mv_X9_244 i20 rfl rfl (by decide) (by decide) (Nat.le_of_ble_eq_true rfl) rfl (ct_lat i20 l1 h156 hk (fun j a q1 q2 q3 => ?_) (fun q1 => ?_))
  · exact G n1 f1 a (L j) hcs j0 q3 (hok j q2) (fun q => hq1 s n1 f1 e1 e2 e3 hn1 hcs hkm (fun q9 => q q9.2)) (fun t b r f2 p1 p2 p3 p4 => hq2 s n1 f2 (L j) t b r e1 e2 e3 hn1 (by rw [← hof.1]; omega) (by rw [q1, Int.toNat_natCast]; exact hof.2 j q2) (hok j q2) p1 p2 p3 (fun k9 e9 a9 b9 q9 => (p4 k9 (fun q => by simp only [List.mem_cons, List.not_mem_nil, or_false] at q; omega)).trans (hkm k9 e9 a9 b9 q9)))
  · exact H n1 f1 (hq1 s n1 f1 e1 e2 e3 hn1 hcs hkm (fun q9 => q1 (by rw [hof.1]; exact q9.1)))
end C71
