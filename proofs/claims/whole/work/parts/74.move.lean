/-! moving and laying -/
theorem ltR_cg {gn : Nat} {σ : Nat → xSt} {X : xSt} {ok ok1 : Nat → Prop} {r : Int} (h : ltR gn σ X ok r) (hc9 : ∀ t, t < gn → (ok t ↔ ok1 t)) : ltR gn σ X ok1 r := by
  rcases h with ⟨h1, h2⟩ | ⟨s, h1, h2, h3, h4, h5, h6⟩
  · exact Or.inl ⟨h1, fun s a b c => h2 s a b ((hc9 s a).mpr c)⟩
  · exact Or.inr ⟨s, h1, h2, h3, (hc9 s h1).mp h4, h5, fun t a b c => h6 t a b ((hc9 t (by omega)).mpr c)⟩
theorem ltR_rg {gn : Nat} {σ : Nat → xSt} {X : xSt} {ok : Nat → Prop} {r : Int} (h : ltR gn σ X ok r) : -1 ≤ r ∧ r < (gn : Int) + 1 := by
  rcases h with ⟨h1, h2⟩ | ⟨s, h1, h2, _⟩ <;> omega
theorem so_inj {f : xH} {gn s t : Nat} {so : Nat → Nat} {σ : Nat → xSt} (h : stk f gn so σ) (hs : s < gn) (ht : t < gn) : so t ≠ so s ↔ t ≠ s := by
  constructor
  · exact fun q e => q (by rw [e])
  · intro q e
    rcases Nat.lt_or_gt_of_ne q with q1 | q1
    · have := h.2.2.2 t s q1 hs; omega
    · have := h.2.2.2 s t q1 ht; omega
section C74
variable {g : xG} {y : xM} {Q : xP} {n : Nat} {f : xH} {bn : Nat} {β : Nat → xBx} {gn : Nat} {σ : Nat → xSt} {d : Nat → Int} {as : List xAc} {ps : Nat} {pb : Nat → Int} {pu : Nat} {pr : Nat → Int}
set_option maxHeartbeats 8000000 in
theorem ct_move {z x y9 w : Int} (h : CS n f bn β gn σ d as ps pb pu pr) (hz : inI z) (hx9 : inI x) (hy9 : inI y9) (hw9 : inI w) (h1 : ∀ s : Nat, z = (s : Int) → s < gn → hrS (σ s) = 1 → ¬ nearAll (ptS (σ s)) (pcS (σ s)) x y9 w → Q (.inl (some (vI (-3)))) n f) (h2 : ∀ (s : Nat) r f1, z = (s : Int) → s < gn → hrS (σ s) = 1 → nearAll (ptS (σ s)) (pcS (σ s)) x y9 w → ltR gn (xui σ s (mvS (σ s) x y9 w)) (mvS (σ s) x y9 w) (fun t => t ≠ s) r → r ≠ -1 → CS n f1 bn β gn σ d as ps pb pu pr → kM f f1 → Q (.inl (some (vI (-10 - r)))) n f1)
    (h3 : ∀ (s : Nat) f1, z = (s : Int) → s < gn → hrS (σ s) = 1 → nearAll (ptS (σ s)) (pcS (σ s)) x y9 w → ltR gn (xui σ s (mvS (σ s) x y9 w)) (mvS (σ s) x y9 w) (fun t => t ≠ s) (-1) → CS n f1 bn β gn (xui σ s (mvS (σ s) x y9 w)) d (aCt 2 z x y9 w :: as.take 7) ps pb pu pr → kM f f1 → Q (.inl (some (vI 1))) n f1) (hx1 : ¬ hre gn σ z → ∀ n', n ≤ n' → Q (.inr eNSE) n' f) : xct g M_X9_move 1 6 [vR 0, vI z, vI x, vI y9, vI w] n f Q := by
  refine xct_of rfl rfl (Nat.le_of_ble_eq_true rfl) ?_
  have hcs0 := h
  obtain ⟨bo, so, tk, rk, h0, hb, hs, hg, ha, hp, hl, ht, hr, h40, hrk, hw, hx⟩ := h
  have hgn := hs.2.1
  have hn := n79 hw hx
  obtain ⟨szl, ow, L, l20, l21, l22, l23, l24⟩ := id hl
  obtain ⟨p, a13, a14, a15, a16, a17, c12, c13, c14, c15, c16, c17, hp8, hl8, hi⟩ := id ha
  have K : ∀ s : Nat, z = (s : Int) → s < gn → hrS (σ s) = 1 → nearAll (ptS (σ s)) (pcS (σ s)) x y9 w → xw g M_X9_move Q 0 0 22 [(0, vR 0), (1, vI z), (2, vI x), (3, vI y9), (4, vI w), (5, vR (so s))] [] n f := by
    intro s e1 e2 e3 hnr
    have hk := hs.2.2.1 s e2
    have sl := wf_ne hw hk.2.1
    have sl1 := wf_ne hw hk.2.2.1
    obtain ⟨X, hX⟩ : ∃ X, X = mvS (σ s) x y9 w := ⟨_, rfl⟩
    have okX : okK X := by rw [hX]; exact okK_mv hk.2.2.2 hnr
    have hXo : oSk X (so s + 1) = oSk (σ s) (so s + 1) := by rw [hX]; rfl
    have hXp : ptS X = shf (ptS (σ s)) (pcS (σ s) + 1) x y9 w := by rw [hX]; rfl
    have hcn : hc (xui σ s X) gn = hc σ gn := hc_cg gn (fun t ht9 => by
      by_cases e : t = s
      · subst e; rw [xui_s, hX]; rfl
      · rw [xui_n _ _ e])
    obtain ⟨F, hF⟩ : ∃ F, F = xup f (so s + 1) (aI 9 (shf (ptS (σ s)) (pcS (σ s) + 1) x y9 w)) := ⟨_, rfl⟩
    have Fk : ∀ k, k ≠ so s + 1 → F k = f k := fun k q => by rw [hF, xup_n _ _ q]
    have Fp : F (so s + 1) = some (aI 9 (ptS X)) := by rw [hF, xup_s, hXp]
    have Fo : F (so s) = some (oSk X (so s + 1)) := by rw [hXo]; exact (Fk _ (by omega)).trans hk.2.1
    have Fs : stk F gn so (xui σ s X) := stk_set hs e2 (Fk 2 (by omega)) Fo Fp okX (fun k q1 q2 q3 => Fk k q3)
    have Fg : sgt F d := sgt_fr hg (fun k q1 q2 => Fk k (by omega))
    have Fw : wf n F := by rw [hF]; exact wf_up hw sl1
    -- nobody is touched
    have E3 : ∀ f2, scr F f2 → ltR gn (xui σ s X) X (fun t => so t ≠ so s) (-1) → xw g M_X9_move Q 0 0 63 [(0, vR 0), (1, vI z), (2, vI x), (3, vI y9), (4, vI w), (5, vR (so s))] [] n f2 := by
      intro f2 hsc hlt
      have k2 : ∀ k, (k < 5 ∨ 11 < k) → k ≠ so s + 1 → f2 k = f k := fun k q1 q2 => (hsc.1 k q1).trans (Fk k q2)
      obtain ⟨G, hG⟩ : ∃ G, G = xup (xup (xup (xup (xup (xup (xup (xup f2 13 (aI 8 (xui a13 p 2))) 14 (aI 8 (xui a14 p z))) 15 (aI 8 (xui a15 p x))) 16 (aI 8 (xui a16 p y9))) 17 (aI 8 (xui a17 p w))) 12 (.inr (0, fX0 (if 8 < (as.length : Int) + 1 then 8 else (as.length : Int) + 1) ((p + 1) % 8 : Nat)))) 0 (oTb bn gn (hc σ gn : Int) 0 0 pu)) 20 (oLs szl (-1)) := ⟨_, rfl⟩
      have Gk : ∀ k, k ≠ 0 → k ≠ 20 → ¬ (12 ≤ k ∧ k ≤ 17) → G k = f2 k := fun k q1 q2 q3 => by rw [hG, xup_n _ _ q2, xup_n _ _ q1, xup_n _ _ (by omega), xup_n _ _ (by omega), xup_n _ _ (by omega), xup_n _ _ (by omega), xup_n _ _ (by omega), xup_n _ _ (by omega)]
      have Gw : wf n G := by rw [hG]; exact wf_up (wf_up (wf_up (wf_up (wf_up (wf_up (wf_up (wf_up (fun k hk9 => (hsc.1 k (by omega)).trans (Fw k hk9)) (by omega)) (by omega)) (by omega)) (by omega)) (by omega)) (by omega)) (by omega)) (by omega)
      have hcs : CS n G bn β gn (xui σ s X) d (aCt 2 z x y9 w :: as.take 7) ps pb pu pr := CS_st (n := n) (f := f) (tk := tk) (rk := rk) (by rw [hcn, hG]; rfl) hb (stk_fr Fs ((Gk 2 (by omega) (by omega) (by omega)).trans (hsc.1 2 (by omega))) (fun k q => (Gk k (by omega) (by omega) (by omega)).trans (hsc.1 k (by omega)))) (sgt_fr (sgt_scr Fg hsc) (fun k q1 q2 => Gk k (by omega) (by omega) (by omega))) (acs_note hp8 hl8 hi (by rw [hG]; rfl) (by rw [hG]; rfl) (by rw [hG]; rfl) (by rw [hG]; rfl) (by rw [hG]; rfl) (by rw [hG]; rfl)) hp hl (fun sz9 ow9 q => by rw [← oLs_inj (l20.symm.trans q), hG]; rfl) ht hr (by rw [hcn]; exact h40) Gw hx (fun k q1 q2 q3 => (Gk k (by omega) (by omega) (by omega)).trans (k2 k (by omega) (by omega))) (fun k e q1 q2 q3 => (Gk k (by omega) (by omega) (by omega)).trans ((k2 k (by omega) (fun q => by rw [q, hk.2.2.1] at q2; rw [← Option.some.inj q2] at q3; exact no9 q3)).trans q2))
      have hkm : kM f G := fun k e q1 q2 q3 => (Gk k (by omega) (by omega) (by omega)).trans ((k2 k (by omega) (by omega)).trans q3)
      have q3 := h3 s G e1 e2 e3 hnr
      rw [← hX] at q3
      refine xw_aload_n dX9_move_63 rfl ?_
      refine xw_getfield dX9_move_64 fl_X9_31 ((k2 0 (by omega) (by omega)).trans h0) rfl ?_
      refine xw_iconst dX9_move_67 ?_
      refine xw_iload_n dX9_move_68 rfl ?_
      refine xw_iload_n dX9_move_69 rfl ?_
      refine xw_iload_n dX9_move_70 rfl ?_
      refine xw_iload dX9_move_71 rfl ?_
      refine xw_callV (rc := 0) (rs := 0) (mc2 := 0) (ms2 := 0) (a := 12) (As := [vI 2, vI z, vI x, vI y9, vI w]) (st := []) dX9_move_73 mv_X9_145 ((k2 12 (by omega) (by omega)).trans c12) rfl rfl (by decide) (by decide) (Nat.le_of_ble_eq_true rfl) rfl (ct_note ((k2 12 (by omega) (by omega)).trans c12) ((k2 13 (by omega) (by omega)).trans c13) ((k2 14 (by omega) (by omega)).trans c14) ((k2 15 (by omega) (by omega)).trans c15) ((k2 16 (by omega) (by omega)).trans c16) ((k2 17 (by omega) (by omega)).trans c17) hp8 (by omega) ?_)
      refine xw_aload_n dX9_move_76 rfl ?_
      refine xw_callV (rc := 0) (rs := 0) (mc2 := 0) (ms2 := 0) (a := 0) (As := []) (st := []) dX9_move_77 mv_X9_159 ((k2 0 (by omega) (by omega)).trans h0) rfl rfl (by decide) (by decide) (Nat.le_of_ble_eq_true rfl) rfl (ct_forget ((k2 0 (by omega) (by omega)).trans h0) ((k2 20 (by omega) (by omega)).trans l20) ?_)
      refine xw_hq G hG.symm ?_
      refine xw_iconst dX9_move_80 ?_
      exact xw_iret dX9_move_81 rfl (q3 (ltR_cg hlt (fun t ht9 => so_inj hs e2 ht9)) hcs hkm)
    have E2 : ∀ f2 r, scr F f2 → ltR gn (xui σ s X) X (fun t => so t ≠ so s) r → r ≠ -1 → xw g M_X9_move Q 0 0 45 [(0, vR 0), (1, vI z), (2, vI x), (3, vI y9), (4, vI w), (5, vR (so s)), (6, vI r)] [] n f2 := by
      intro f2 r hsc hlt hr1
      have jo : f2 (so s) = some (oSk X (so s + 1)) := (hsc.1 _ (by omega)).trans Fo
      have jp : f2 (so s + 1) = some (aI 9 (shf (ptS (σ s)) (pcS (σ s) + 1) x y9 w)) := by rw [← hXp]; exact (hsc.1 _ (by omega)).trans Fp
      have hpe : pcS X = pcS (σ s) := by rw [hX]; rfl
      obtain ⟨G, hG⟩ : ∃ G, G = xup f2 (so s + 1) (aI 9 (ptS (σ s))) := ⟨_, rfl⟩
      have hscG : scr f G := by
        refine ⟨fun k q => ?_, fun k q1 q2 => ?_⟩
        · by_cases e : k = so s + 1
          · rw [e, hG, xup_s]; exact hk.2.2.1.symm
          · rw [hG, xup_n _ _ e]; exact (hsc.1 k q).trans (Fk k e)
        · rw [hG, xup_n _ _ (by omega)]; exact hsc.2 k q1 q2
      obtain ⟨hcs, hkm⟩ := CS_scr hcs0 hscG
      have q2 := h2 s r G e1 e2 e3 hnr
      rw [← hX] at q2
      refine xw_aload dX9_move_45 rfl ?_
      refine xw_iload_n dX9_move_47 rfl ?_
      refine xw_ineg dX9_move_48 ?_
      refine xw_iload_n dX9_move_49 rfl ?_
      refine xw_ineg dX9_move_50 ?_
      refine xw_iload dX9_move_51 rfl ?_
      refine xw_ineg dX9_move_53 ?_
      refine xw_callV (rc := 0) (rs := 0) (mc2 := 0) (ms2 := 0) (a := (so s)) (As := [vI (-x), vI (-y9), vI (-w)]) (st := []) dX9_move_54 mv_X9_156 jo rfl rfl (by decide) (by decide) (Nat.le_of_ble_eq_true rfl) rfl (ct_shift jo jp (pcS_2 _) (by omega) ?_)
      rw [hpe, shf_bk]
      refine xw_hq G hG.symm ?_
      refine xw_bipush (z := -10) dX9_move_57 (by decide) ?_
      refine xw_iload dX9_move_59 rfl ?_
      refine xw_isub dX9_move_61 ?_
      exact xw_iret dX9_move_62 rfl (q2 (ltR_cg hlt (fun t ht9 => so_inj hs e2 ht9)) hr1 hcs hkm)
    refine xw_aload dX9_move_22 rfl ?_
    refine xw_iload_n dX9_move_24 rfl ?_
    refine xw_iload_n dX9_move_25 rfl ?_
    refine xw_iload dX9_move_26 rfl ?_
    refine xw_callV (rc := 0) (rs := 0) (mc2 := 0) (ms2 := 0) (a := (so s)) (As := [vI x, vI y9, vI w]) (st := []) dX9_move_28 mv_X9_156 hk.2.1 rfl rfl (by decide) (by decide) (Nat.le_of_ble_eq_true rfl) rfl (ct_shift hk.2.1 hk.2.2.1 (pcS_2 _) (by omega) ?_)
    refine xw_hq F hF.symm ?_
    refine xw_aload_n dX9_move_31 rfl ?_
    refine xw_aload dX9_move_32 rfl ?_
    refine xw_callV (rc := 0) (rs := 0) (mc2 := 0) (ms2 := 0) (a := 0) (As := [vR (so s)]) (st := []) dX9_move_34 mv_X9_137 ((Fk 0 (by omega)).trans h0) rfl rfl (by decide) (by decide) (Nat.le_of_ble_eq_true rfl) rfl (ct_leastTouched ((Fk 0 (by omega)).trans h0) Fs Fg Fo Fp hk.1 okX.2.2.2.2 (fun f2 r hsc hlt => ?_))
    have hrr := ltR_rg hlt
    refine xw_istore dX9_move_37 (by decide) ?_
    refine xw_iload dX9_move_39 rfl ?_
    refine xw_iconst dX9_move_41 ?_
    refine xw_icmpeq (tgt := 63) dX9_move_42 (by decide) (by first | assumption | (unfold inI; omega) | (unfold inI at *; omega)) (by first | assumption | (unfold inI; omega) | (unfold inI at *; omega)) (fun c_42 => ?_) (fun c_42 => ?_)
    · skip
      rw [c_42] at hlt
      exact xw_ls [(0, vR 0), (1, vI z), (2, vI x), (3, vI y9), (4, vI w), (5, vR (so s))] ⟨rfl, rfl, rfl, rfl, rfl, rfl, trivial⟩ (E3 f2 hsc hlt)
    · skip
      exact xw_ls [(0, vR 0), (1, vI z), (2, vI x), (3, vI y9), (4, vI w), (5, vR (so s)), (6, vI r)] ⟨rfl, rfl, rfl, rfl, rfl, rfl, rfl, trivial⟩ (E2 f2 r hsc hlt c_42)
  refine xw_aload_n dX9_move_0 rfl ?_
  refine xw_iload_n dX9_move_1 rfl ?_
  refine xw_callV (rc := 0) (rs := 0) (mc2 := 1) (ms2 := 6) (a := 0) (As := [vI z]) (st := []) dX9_move_2 mv_X9_149 h0 rfl rfl (by decide) (by decide) (Nat.le_of_ble_eq_true rfl) rfl (ct_stickOnTable h0 hs hz (fun s e1 e2 e3 => ?_) hx1)
  have hk := hs.2.2.1 s e2
  refine xw_astore dX9_move_5 (by decide) ?_
  refine xw_aload dX9_move_7 rfl ?_
  refine xw_iload_n dX9_move_9 rfl ?_
  refine xw_iload_n dX9_move_10 rfl ?_
  refine xw_iload dX9_move_11 rfl ?_
  refine xw_callV (rc := 0) (rs := 0) (mc2 := 0) (ms2 := 0) (a := (so s)) (As := [vI x, vI y9, vI w]) (st := []) dX9_move_13 mv_X9_153 hk.2.1 rfl rfl (by decide) (by decide) (Nat.le_of_ble_eq_true rfl) rfl (ct_staysNear hk.2.1 hk.2.2.1 (pcS_2 _) hk.2.2.2.2.2.2.2 hx9 hy9 hw9 (fun q => ?_) (fun q => ?_))
  · skip
    refine xw_ifne (tgt := 22) dX9_move_16 (by decide) (by unfold inI; omega) (fun _ => ?_) (fun c => absurd c (by decide))
    exact xw_ls [(0, vR 0), (1, vI z), (2, vI x), (3, vI y9), (4, vI w), (5, vR (so s))] ⟨rfl, rfl, rfl, rfl, rfl, rfl, trivial⟩ (K s e1 e2 e3 q)
  · skip
    refine xw_ifne (tgt := 22) dX9_move_16 (by decide) (by unfold inI; omega) (fun c => absurd c (by decide)) (fun _ => ?_)
    refine xw_bipush (z := -3) dX9_move_19 (by decide) ?_
    exact xw_iret dX9_move_21 rfl (h1 s e1 e2 e3 q)
end C74
