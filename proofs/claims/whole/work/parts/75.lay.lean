/-! laying -/
def nwS2 (kd mk wo : Int) (nu : Nat → Int) (k : Nat) : xSt := (kd, (mk, (wo, (0, ptOf nu k (3 * ((if kd = 1 then 2 else 1) + 1))))))
section C75
variable {g : xG} {y : xM} {Q : xP} {n : Nat} {f : xH} {bn : Nat} {β : Nat → xBx} {gn : Nat} {σ : Nat → xSt} {d : Nat → Int} {as : List xAc} {ps : Nat} {pb : Nat → Int} {pu : Nat} {pr : Nat → Int}
/-- what laying answers short of laying -/
def layN (β : Nat → xBx) (gn : Nat) (σ : Nat → xSt) (kd mk wo : Int) (b k : Nat) (r : Int) : Prop :=
  (r = -1 ∧ (β b).2.2 k = -1) ∨ (r = -2 ∧ (β b).2.2 k ≠ -1 ∧ (β b).2.2 k < 3 * (((if kd = 1 then 2 else 1 : Nat) : Int) + 1)) ∨
  (3 * (((if kd = 1 then 2 else 1 : Nat) : Int) + 1) ≤ (β b).2.2 k ∧ ((r = -3 ∧ ∃ j, j < 3 * ((if kd = 1 then 2 else 1) + 1) ∧ ¬ nr ((β b).2.1 (30 * k + j))) ∨
    ((∀ j, j < 3 * ((if kd = 1 then 2 else 1) + 1) → nr ((β b).2.1 (30 * k + j))) ∧ ((r = -4 ∧ ¬ proper (ptS (nwS2 kd mk wo (β b).2.1 k)) (pcS (nwS2 kd mk wo (β b).2.1 k))) ∨
      (proper (ptS (nwS2 kd mk wo (β b).2.1 k)) (pcS (nwS2 kd mk wo (β b).2.1 k)) ∧ ((r = -5 ∧ ¬ (hc σ gn < 40 ∧ gn < 100)) ∨ ((hc σ gn < 40 ∧ gn < 100) ∧ ∃ t, ltR gn σ (nwS2 kd mk wo (β b).2.1 k) (fun _ => True) t ∧ t ≠ -1 ∧ r = -10 - t)))))))
def layY (β : Nat → xBx) (gn : Nat) (σ : Nat → xSt) (kd mk wo : Int) (b k : Nat) : Prop := 3 * (((if kd = 1 then 2 else 1 : Nat) : Int) + 1) ≤ (β b).2.2 k ∧ (∀ j, j < 3 * ((if kd = 1 then 2 else 1) + 1) → nr ((β b).2.1 (30 * k + j))) ∧ proper (ptS (nwS2 kd mk wo (β b).2.1 k)) (pcS (nwS2 kd mk wo (β b).2.1 k)) ∧ (hc σ gn < 40 ∧ gn < 100) ∧ ltR gn σ (nwS2 kd mk wo (β b).2.1 k) (fun _ => True) (-1)
set_option maxHeartbeats 8000000 in
theorem ct_lay {kd z w mk wo : Int} (h : CS n f bn β gn σ d as ps pb pu pr) (hkd : inI kd) (hz : inI z) (hw9 : inI w) (hmk : inI mk) (hwo : inI wo) (h1 : ∀ (b k : Nat) r n1 f1, z = (b : Int) → w = (k : Int) → b < bn → k < 20 → kok kd mk wo → layN β gn σ kd mk wo b k r → n ≤ n1 → CS n1 f1 bn β gn σ d as ps pb pu pr → kM f f1 → Q (.inl (some (vI r))) n1 f1)
    (h2 : ∀ (b k : Nat) n1 f1, z = (b : Int) → w = (k : Int) → b < bn → k < 20 → kok kd mk wo → layY β gn σ kd mk wo b k → n ≤ n1 → CS n1 f1 bn β (gn + 1) (xui σ gn (stS (nwS2 kd mk wo (β b).2.1 k) 1)) d (aCt 1 (gn : Int) 0 0 0 :: as.take 7) ps pb pu pr → kM f f1 → Q (.inl (some (vI (gn : Int)))) n1 f1)
    (hx1 : ¬ ((0 ≤ z ∧ z < (bn : Int)) ∧ 0 ≤ w ∧ w < 20) → ∀ n', n ≤ n' → Q (.inr eIOB) n' f) (hx2 : ((0 ≤ z ∧ z < (bn : Int)) ∧ 0 ≤ w ∧ w < 20) → ¬ kok kd mk wo → ∀ n', n ≤ n' → Q (.inr eIAE) n' f) : xct g M_X9_lay 6 30 [vR 0, vI kd, vI z, vI w, vI mk, vI wo] n f Q := by
  refine xct_of rfl rfl (Nat.le_of_ble_eq_true rfl) ?_
  have hcs0 := h
  obtain ⟨bo, so, tk, rk, h0, hb, hs, hg, ha, hp, hl, ht, hr, h40, hrk, hw, hx⟩ := h
  have hgn := hs.2.1
  have hn := n79 hw hx
  obtain ⟨szl, ow, L, l20, l21, l22, l23, l24⟩ := id hl
  obtain ⟨p, a13, a14, a15, a16, a17, c12, c13, c14, c15, c16, c17, hp8, hl8, hi⟩ := id ha
  have K : ∀ b k : Nat, z = (b : Int) → w = (k : Int) → b < bn → k < 20 → kok kd mk wo → xw g M_X9_lay Q 5 24 29 [(0, vR 0), (1, vI kd), (2, vI z), (3, vI w), (4, vI mk), (5, vI wo), (6, vR (bo b))] [] n f := by
    intro b k ez ew hb9 hk20 hkok
    subst ew
    have hk := hb.2.2.1 b hb9
    have hlk := hk.2.2.2.2.2.1 k hk20
    have bl := wf_ne hw hk.2.1
    have bl1 := wf_ne hw hk.2.2.1
    have bl2 := wf_ne hw hk.2.2.2.1
    obtain ⟨pc, hpc⟩ : ∃ pc : Nat, pc = (if kd = 1 then 2 else 1) := ⟨_, rfl⟩
    have hpc2 : pc = 1 ∨ pc = 2 := by rw [hpc]; split; exact Or.inr rfl; exact Or.inl rfl
    obtain ⟨X, hX⟩ : ∃ X, X = nwS2 kd mk wo (β b).2.1 k := ⟨_, rfl⟩
    have hXp : ptS X = ptOf (β b).2.1 k (3 * (pc + 1)) := by rw [hX, hpc]; rfl
    have hXc : pcS X = pc := by rw [hX, hpc]; rfl
    have hX0 : hrS X = 0 := by rw [hX]; rfl
    have hXo : ∀ a, oSk X a = oSt kd mk wo pc a 0 := fun a => by rw [hX, hpc]; rfl
    obtain ⟨F, hF⟩ : ∃ F, F = xup (xup (xup f n (.inr (7, fun j => xdef (tyX7 j)))) (n + 1) (aI 9 (fun _ => 0))) n (oSt kd mk wo (if kd = 1 then 2 else 1) (n + 1) 0) := ⟨_, rfl⟩
    have Fk : ∀ j, j < n → F j = f j := fun j hj => by rw [hF, xup_n _ _ (by omega), xup_n _ _ (by omega), xup_n _ _ (by omega)]
    have Fn : F n = some (oSt kd mk wo pc (n + 1) 0) := by rw [hF, hpc, xup_s]
    have Fn1 : F (n + 1) = some (aI 9 (fun _ => 0)) := by rw [hF, xup_n _ _ (by omega), xup_s]
    have Fw : wf (n + 2) F := fun j hj => by rw [hF, xup_n _ _ (by omega), xup_n _ _ (by omega), xup_n _ _ (by omega)]; exact hw j (by omega)
    have Nx : ∀ (r : Int) (n1 : Nat) (f1 : xH), n + 2 ≤ n1 → (∀ j, j < n → f1 j = f j) → wf n1 f1 → layN β gn σ kd mk wo b k r → Q (.inl (some (vI r))) n1 f1 := by
      intro r n1 f1 hn1 hf1 hw1 hly
      obtain ⟨hcs, hkm⟩ := CS_ext hcs0 (by omega) hf1 hw1
      exact h1 b k r n1 f1 ez rfl hb9 hk20 hkok hly (by omega) hcs hkm
    -- short of laying
    have R : ∀ (r : Int) (n1 : Nat) (f1 : xH), r ≠ 0 → inI r → Q (.inl (some (vI r))) n1 f1 → xw g M_X9_lay Q 0 0 51 [(0, vR 0), (1, vI kd), (2, vI z), (3, vI (k : Int)), (4, vI mk), (5, vI wo), (6, vR (bo b)), (7, vR n)] [vI r] n1 f1 := by
      intro r n1 f1 hr0 hri hqr
      refine xw_istore dX9_lay_51 (by decide) ?_
      refine xw_iload dX9_lay_53 rfl ?_
      refine xw_ifeq (tgt := 61) dX9_lay_55 (by decide) (by first | assumption | (unfold inI; omega) | (unfold inI at *; omega)) (fun c_55 => ?_) (fun c_55 => ?_)
      · skip
        exact absurd c_55 hr0
      · skip
        refine xw_iload dX9_lay_58 rfl ?_
        exact xw_iret dX9_lay_60 rfl hqr
    -- laid
    have S : ∀ (n1 : Nat) (f1 : xH), n + 2 ≤ n1 → (∀ j, j < n → f1 j = f j) → f1 n = some (oSk X (n + 1)) → f1 (n + 1) = some (aI 9 (ptS X)) → wf n1 f1 → 3 * ((pc : Int) + 1) ≤ (β b).2.2 k → (∀ j, j < 3 * (pc + 1) → nr ((β b).2.1 (30 * k + j))) → proper (ptS X) (pcS X) → xw g M_X9_lay Q 0 0 51 [(0, vR 0), (1, vI kd), (2, vI z), (3, vI (k : Int)), (4, vI mk), (5, vI wo), (6, vR (bo b)), (7, vR n)] [vI 0] n1 f1 := by
      intro n1 f1 hn1 hf1 gn0 gn1 hw1 ha1 ha2 ha3
      have hnr : ∀ j, j < 9 → nr (ptS X j) := fun j hj => by
        rw [hXp]
        unfold ptOf
        split
        · next q => exact ha2 j q
        · unfold nr; omega
      have okX : okK X := by
        obtain ⟨q1, q2, q3⟩ := hkok
        refine ⟨by rw [hX]; exact q1, ?_, ?_, Or.inl hX0, hnr⟩
        · rw [hX]
          show 0 ≤ mk ∧ mk ≤ 127
          split at q2 <;> omega
        · rw [hX]
          show 1 ≤ wo ∧ wo ≤ 100
          split at q3 <;> omega
      have jk : ∀ j, j < 79 → f1 j = f j := fun j hj => hf1 j (by omega)
      have js : stk f1 gn so σ := stk_k hs (jk 2 (by omega)) (fun j e q1 q2 _ => (hf1 j (wf_ne hw q2)).trans q2)
      have jg : sgt f1 d := sgt_fr hg (fun j q1 q2 => jk j (by omega))
      have nso : ∀ t, t < gn → so t + 1 < n := fun t ht9 => wf_ne hw (hs.2.2.1 t ht9).2.2.1
      have NN : ∀ r f2, layN β gn σ kd mk wo b k r → (∀ j, j < n → (j < 5 ∨ 11 < j) → f2 j = f j) → wf n1 f2 → sok f2 → Q (.inl (some (vI r))) n1 f2 := by
        intro r f2 hly q1 q2 q3
        -- first the new cells, then the sight's
        have hcsA := CS_ext hcs0 (f1 := fun j => if j < n then f j else f2 j) (n1 := n1) (by omega) (fun j hj => if_pos hj) (fun j hj => by show (if j < n then f j else f2 j) = none; rw [if_neg (by omega)]; exact q2 j hj)
        have hcsB := CS_scr hcsA.1 (f1 := f2) ⟨fun j hj => by
          show f2 j = if j < n then f j else f2 j
          by_cases e : j < n
          · rw [if_pos e]; exact q1 j e hj
          · rw [if_neg e], q3⟩
        exact h1 b k r n1 f2 ez rfl hb9 hk20 hkok hly (by omega) hcsB.1 (kM_tr hcsA.2 hcsB.2)
      by_cases hfull : hc σ gn < 40 ∧ gn < 100
      · have T : ∀ f2, scr f1 f2 → ltR gn σ X (fun _ => True) (-1) → xw g M_X9_lay Q 0 0 102 [(0, vR 0), (7, vR n)] [] n1 f2 := by
          intro f2 hsc hlt
          have e2 : ∀ j, j < 79 → (j < 5 ∨ 11 < j) → f2 j = f j := fun j q1 q2 => (hsc.1 j q2).trans (jk j q1)
          have fn0 : f2 n = some (oSk X (n + 1)) := (hsc.1 n (by omega)).trans gn0
          have fn1 : f2 (n + 1) = some (aI 9 (ptS X)) := (hsc.1 (n + 1) (by omega)).trans gn1
          have hcn : hc (xui σ gn (stS X 1)) (gn + 1) = hc σ gn + 1 := by
            rw [hc_1 (by rw [xui_s]; rfl)]
            rw [hc_cg gn (fun t ht9 => by rw [xui_n _ _ (by omega)])]
          obtain ⟨G, hG⟩ : ∃ G, G = xup (xup (xup (xup (xup (xup (xup (xup (xup (xup f2 2 (aR 5 100 (fun s => if s < gn + 1 then some (xui so gn n s) else none))) n (oSt kd mk wo pc (n + 1) 1)) 0 (oTb bn ((gn : Int) + 1) ((hc σ gn : Int) + 1) 0 0 pu)) 20 (oLs szl (-1))) 13 (aI 8 (xui a13 p 1))) 14 (aI 8 (xui a14 p (gn : Int)))) 15 (aI 8 (xui a15 p 0))) 16 (aI 8 (xui a16 p 0))) 17 (aI 8 (xui a17 p 0))) 12 (.inr (0, fX0 (if 8 < (as.length : Int) + 1 then 8 else (as.length : Int) + 1) ((p + 1) % 8 : Nat))) := ⟨_, rfl⟩
          have Gk : ∀ j, j ≠ 0 → j ≠ 2 → j ≠ 20 → ¬ (12 ≤ j ∧ j ≤ 17) → j ≠ n → G j = f2 j := fun j q1 q2 q3 q4 q5 => by rw [hG, xup_n _ _ (by omega), xup_n _ _ (by omega), xup_n _ _ (by omega), xup_n _ _ (by omega), xup_n _ _ (by omega), xup_n _ _ (by omega), xup_n _ _ q3, xup_n _ _ q1, xup_n _ _ q5, xup_n _ _ q2]
          have Gn : G n = some (oSk (stS X 1) (n + 1)) := by
            rw [hG, xup_n _ _ (by omega), xup_n _ _ (by omega), xup_n _ _ (by omega), xup_n _ _ (by omega), xup_n _ _ (by omega), xup_n _ _ (by omega), xup_n _ _ (by omega), xup_n _ _ (by omega), xup_s, hX, hpc]
            rfl
          have G2 : G 2 = some (aR 5 100 (fun s => if s < gn + 1 then some (xui so gn n s) else none)) := by
            rw [hG, xup_n _ _ (by decide), xup_n _ _ (by decide), xup_n _ _ (by decide), xup_n _ _ (by decide), xup_n _ _ (by decide), xup_n _ _ (by decide), xup_n _ _ (by decide), xup_n _ _ (by decide), xup_n _ _ (by omega), xup_s]
          have G0 : G 0 = some (oTb bn ((gn : Int) + 1) ((hc σ gn : Int) + 1) 0 0 pu) := by rw [hG]; rfl
          have G20 : G 20 = some (oLs szl (-1)) := by rw [hG]; rfl
          have f2w : wf n1 f2 := fun j hj => (hsc.1 j (by omega)).trans (hw1 j hj)
          have Gw : wf n1 G := by rw [hG]; exact wf_up (wf_up (wf_up (wf_up (wf_up (wf_up (wf_up (wf_up (wf_up (wf_up f2w (by omega)) (by omega)) (by omega)) (by omega)) (by omega)) (by omega)) (by omega)) (by omega)) (by omega)) (by omega)
          have Gs : stk G (gn + 1) (xui so gn n) (xui σ gn (stS X 1)) := by
            refine ⟨G2, by omega, fun t ht9 => ?_, fun s t q1 q2 => ?_⟩
            · by_cases e : t = gn
              · subst e
                rw [xui_s, xui_s]
                exact ⟨hn, Gn, (Gk (n + 1) (by omega) (by omega) (by omega) (by omega) (by omega)).trans fn1, okK_st okX (Or.inr rfl)⟩
              · rw [xui_n _ _ e, xui_n _ _ e]
                have hkt := js.2.2.1 t (by omega)
                have hnt := nso t (by omega)
                exact ⟨hkt.1, (Gk _ (by omega) (by omega) (by omega) (by omega) (by omega)).trans ((hsc.1 _ (by omega)).trans hkt.2.1), (Gk _ (by omega) (by omega) (by omega) (by omega) (by omega)).trans ((hsc.1 _ (by omega)).trans hkt.2.2.1), hkt.2.2.2⟩
            · by_cases e : t = gn
              · subst e; rw [xui_s, xui_n _ _ (by omega)]; exact nso s q1
              · rw [xui_n _ _ e, xui_n _ _ (by omega)]; exact hs.2.2.2 s t q1 (by omega)
          have hcs : CS n1 G bn β (gn + 1) (xui σ gn (stS X 1)) d (aCt 1 (gn : Int) 0 0 0 :: as.take 7) ps pb pu pr := CS_st (n := n) (f := f) (tk := tk) (rk := rk) (by rw [hcn]; exact G0) hb Gs (sgt_fr (sgt_scr jg hsc) (fun j q1 q2 => Gk j (by omega) (by omega) (by omega) (by omega) (by omega))) (acs_note hp8 hl8 hi (by rw [hG]; rfl) (by rw [hG]; rfl) (by rw [hG]; rfl) (by rw [hG]; rfl) (by rw [hG]; rfl) (by rw [hG]; rfl)) hp hl (fun sz9 ow9 q => by rw [← oLs_inj (l20.symm.trans q)]; exact G20) ht hr (by omega) Gw hx (fun j q1 q2 q3 => (Gk j (by omega) (by omega) (by omega) (by omega) (by omega)).trans (e2 j q3 (by omega))) (fun j e q1 q2 q3 => (Gk j (by omega) (by omega) (by omega) (by omega) (by have := wf_ne hw q2; omega)).trans ((hsc.1 j (by omega)).trans ((hf1 j (wf_ne hw q2)).trans q2)))
          have hkm : kM f G := fun j e q1 q2 q3 => (Gk j (by omega) (by omega) (by omega) (by omega) (by omega)).trans ((e2 j (by omega) (by omega)).trans q3)
          have q2 := h2 b k n1 G ez rfl hb9 hk20 hkok
          rw [← hX] at q2
          obtain ⟨F3, hF3⟩ : ∃ F3, F3 = xup f2 2 (aR 5 100 (fun s => if s < gn + 1 then some (xui so gn n s) else none)) := ⟨_, rfl⟩
          have F3k : ∀ j, j ≠ 2 → F3 j = f2 j := fun j q => by rw [hF3, xup_n _ _ q]
          have F30 : F3 0 = some (oTb bn gn (hc σ gn : Int) tk rk pu) := (F3k 0 (by omega)).trans ((e2 0 (by omega) (by omega)).trans h0)
          have F3n : F3 n = some (oSt kd mk wo pc (n + 1) 0) := by rw [← hXo]; exact (F3k n (by omega)).trans fn0
          have F4k : ∀ j, j ≠ 0 → j ≠ 20 → j ≠ n → xup (xup (xup (xup F3 0 (oTb bn ((gn : Int) + 1) (hc σ gn : Int) tk rk pu)) n (oSt kd mk wo pc (n + 1) 1)) 0 (oTb bn ((gn : Int) + 1) ((hc σ gn : Int) + 1) 0 0 pu)) 20 (oLs szl (-1)) j = F3 j := fun j q1 q2 q3 => by rw [xup_n _ _ q2, xup_n _ _ q1, xup_n _ _ q3, xup_n _ _ q1]
          have F4 : ∀ j, 12 ≤ j → j ≤ 17 → xup (xup (xup (xup F3 0 (oTb bn ((gn : Int) + 1) (hc σ gn : Int) tk rk pu)) n (oSt kd mk wo pc (n + 1) 1)) 0 (oTb bn ((gn : Int) + 1) ((hc σ gn : Int) + 1) 0 0 pu)) 20 (oLs szl (-1)) j = f j := fun j q1 q2 => (F4k j (by omega) (by omega) (by omega)).trans ((F3k j (by omega)).trans (e2 j (by omega) (by omega)))
          have hcol : xup (xup F3 0 (oTb bn ((gn : Int) + 1) (hc σ gn : Int) tk rk pu)) n (oSt kd mk wo pc (n + 1) 1) = xup (xup F3 n (oSt kd mk wo pc (n + 1) 1)) 0 (oTb bn ((gn : Int) + 1) (hc σ gn : Int) tk rk pu) := xup_comm _ _ _ (by omega)
          refine xw_aload_n dX9_lay_102 rfl ?_
          refine xw_getfield dX9_lay_103 fl_X9_134 ((e2 0 (by omega) (by omega)).trans h0) rfl ?_
          refine xw_istore dX9_lay_106 (by decide) ?_
          refine xw_aload_n dX9_lay_108 rfl ?_
          refine xw_getfield dX9_lay_109 fl_X9_17 ((e2 0 (by omega) (by omega)).trans h0) rfl ?_
          refine xw_iload dX9_lay_112 rfl ?_
          refine xw_aload dX9_lay_114 rfl ?_
          refine xw_aast (a := 2) (v := n) (t := 5) (ci := 7) (j := gn) dX9_lay_116 ((e2 2 (by omega) (by omega)).trans hs.1) fn0 rfl rfl rfl (by omega) (by decide) ?_
          rw [ar_ext, ← hF3]
          refine xw_aload_n dX9_lay_117 rfl ?_
          refine xw_dup dX9_lay_118 rfl ?_
          refine xw_getfield dX9_lay_119 fl_X9_134 F30 rfl ?_
          refine xw_iconst dX9_lay_122 ?_
          refine xw_iadd dX9_lay_123 ?_
          refine xw_putfield dX9_lay_124 (fp_X9_134 _) F30 rfl rfl ?_
          rw [fX9_3]
          refine xw_aload_n dX9_lay_127 rfl ?_
          refine xw_aload dX9_lay_128 rfl ?_
          refine xw_callV (rc := 0) (rs := 0) (mc2 := 0) (ms2 := 0) (a := 0) (As := [vR n]) (st := []) dX9_lay_130 mv_X9_141 rfl rfl rfl (by decide) (by decide) (Nat.le_of_ble_eq_true rfl) rfl (ct_bringBack (f := xup F3 0 (oTb bn ((gn : Int) + 1) (hc σ gn : Int) tk rk pu)) rfl ((xup_n _ _ (by omega)).trans ((F3k 20 (by omega)).trans ((e2 20 (by omega) (by omega)).trans l20))) ((xup_n _ _ (by omega)).trans F3n) hn ?_)
          refine xw_aload_n dX9_lay_133 rfl ?_
          refine xw_getfield dX9_lay_134 fl_X9_31 rfl rfl ?_
          refine xw_iconst dX9_lay_137 ?_
          refine xw_iload dX9_lay_138 rfl ?_
          refine xw_iconst dX9_lay_140 ?_
          refine xw_iconst dX9_lay_141 ?_
          refine xw_iconst dX9_lay_142 ?_
          refine xw_callV (rc := 0) (rs := 0) (mc2 := 0) (ms2 := 0) (a := 12) (As := [vI 1, vI (gn : Int), vI 0, vI 0, vI 0]) (st := []) dX9_lay_143 mv_X9_145 ((F4 12 (by omega) (by omega)).trans c12) rfl rfl (by decide) (by decide) (Nat.le_of_ble_eq_true rfl) rfl (ct_note ((F4 12 (by omega) (by omega)).trans c12) ((F4 13 (by omega) (by omega)).trans c13) ((F4 14 (by omega) (by omega)).trans c14) ((F4 15 (by omega) (by omega)).trans c15) ((F4 16 (by omega) (by omega)).trans c16) ((F4 17 (by omega) (by omega)).trans c17) hp8 (by omega) ?_)
          refine xw_hq G (by rw [hG, hcol, xup_up, ← hF3]) ?_
          refine xw_iload dX9_lay_146 rfl ?_
          exact xw_iret dX9_lay_148 rfl (q2 ⟨by rw [← hpc]; exact ha1, by rw [← hpc]; exact ha2, by rw [← hX]; exact ha3, hfull, by rw [← hX]; exact hlt⟩ (by omega) hcs hkm)
        refine xw_istore dX9_lay_51 (by decide) ?_
        refine xw_iload dX9_lay_53 rfl ?_
        refine xw_ifeq (tgt := 61) dX9_lay_55 (by decide) (by first | assumption | (unfold inI; omega) | (unfold inI at *; omega)) (fun c_55 => ?_) (fun c_55 => ?_)
        · skip
          refine xw_aload_n dX9_lay_61 rfl ?_
          refine xw_getfield dX9_lay_62 fl_X9_131 ((jk 0 (by omega)).trans h0) rfl ?_
          refine xw_bipush (z := 40) dX9_lay_65 (by decide) ?_
          refine xw_icmpge (tgt := 79) dX9_lay_67 (by decide) (by first | assumption | (unfold inI; omega) | (unfold inI at *; omega)) (by first | assumption | (unfold inI; omega) | (unfold inI at *; omega)) (fun c_67 => ?_) (fun c_67 => ?_)
          · skip
            exfalso; omega
          · skip
            refine xw_aload_n dX9_lay_70 rfl ?_
            refine xw_getfield dX9_lay_71 fl_X9_134 ((jk 0 (by omega)).trans h0) rfl ?_
            refine xw_bipush (z := 100) dX9_lay_74 (by decide) ?_
            refine xw_icmplt (tgt := 82) dX9_lay_76 (by decide) (by first | assumption | (unfold inI; omega) | (unfold inI at *; omega)) (by first | assumption | (unfold inI; omega) | (unfold inI at *; omega)) (fun c_76 => ?_) (fun c_76 => ?_)
            · skip
              refine xw_aload_n dX9_lay_82 rfl ?_
              refine xw_aload dX9_lay_83 rfl ?_
              refine xw_callV (rc := 0) (rs := 0) (mc2 := 0) (ms2 := 0) (a := 0) (As := [vR n]) (st := []) dX9_lay_85 mv_X9_137 ((jk 0 (by omega)).trans h0) rfl rfl (by decide) (by decide) (Nat.le_of_ble_eq_true rfl) rfl (ct_leastTouched ((jk 0 (by omega)).trans h0) js jg gn0 gn1 hn hnr (fun f2 r hsc hlt => ?_))
              have hrr := ltR_rg hlt
              have hlt2 : ltR gn σ X (fun _ => True) r := ltR_cg hlt (fun t ht9 => ⟨fun _ => trivial, fun _ => by have := nso t ht9; omega⟩)
              refine xw_istore dX9_lay_88 (by decide) ?_
              refine xw_iload dX9_lay_90 rfl ?_
              refine xw_iconst dX9_lay_92 ?_
              refine xw_icmpeq (tgt := 102) dX9_lay_93 (by decide) (by first | assumption | (unfold inI; omega) | (unfold inI at *; omega)) (by first | assumption | (unfold inI; omega) | (unfold inI at *; omega)) (fun c_93 => ?_) (fun c_93 => ?_)
              · skip
                rw [c_93] at hlt2
                exact xw_ls [(0, vR 0), (7, vR n)] ⟨rfl, rfl, trivial⟩ (T f2 hsc hlt2)
              · skip
                refine xw_bipush (z := -10) dX9_lay_96 (by decide) ?_
                refine xw_iload dX9_lay_98 rfl ?_
                refine xw_isub dX9_lay_100 ?_
                exact xw_iret dX9_lay_101 rfl (NN _ f2 (by
                    refine Or.inr (Or.inr ⟨by rw [← hpc]; exact ha1, Or.inr ⟨by rw [← hpc]; exact ha2, Or.inr ⟨by rw [← hX]; exact ha3, Or.inr ⟨hfull, r, by rw [← hX]; exact hlt2, c_93, rfl⟩⟩⟩⟩)) (fun j q1 q2 => (hsc.1 j q2).trans (hf1 j q1)) (fun j hj => (hsc.1 j (by omega)).trans (hw1 j hj)) hsc.2)
            · skip
              exfalso; omega
        · skip
          exact absurd rfl c_55
      · skip
        refine xw_istore dX9_lay_51 (by decide) ?_
        refine xw_iload dX9_lay_53 rfl ?_
        refine xw_ifeq (tgt := 61) dX9_lay_55 (by decide) (by first | assumption | (unfold inI; omega) | (unfold inI at *; omega)) (fun c_55 => ?_) (fun c_55 => ?_)
        · skip
          refine xw_aload_n dX9_lay_61 rfl ?_
          refine xw_getfield dX9_lay_62 fl_X9_131 ((jk 0 (by omega)).trans h0) rfl ?_
          refine xw_bipush (z := 40) dX9_lay_65 (by decide) ?_
          refine xw_icmpge (tgt := 79) dX9_lay_67 (by decide) (by first | assumption | (unfold inI; omega) | (unfold inI at *; omega)) (by first | assumption | (unfold inI; omega) | (unfold inI at *; omega)) (fun c_67 => ?_) (fun c_67 => ?_)
          · skip
            refine xw_bipush (z := -5) dX9_lay_79 (by decide) ?_
            exact xw_iret dX9_lay_81 rfl (NN _ f1 (by
                refine Or.inr (Or.inr ⟨by rw [← hpc]; exact ha1, Or.inr ⟨by rw [← hpc]; exact ha2, Or.inr ⟨by rw [← hX]; exact ha3, Or.inl ⟨rfl, hfull⟩⟩⟩⟩)) (fun j q1 q2 => hf1 j q1) hw1 (by obtain ⟨s9, q3, q4, q5, _⟩ := jg; exact q5))
          · skip
            refine xw_aload_n dX9_lay_70 rfl ?_
            refine xw_getfield dX9_lay_71 fl_X9_134 ((jk 0 (by omega)).trans h0) rfl ?_
            refine xw_bipush (z := 100) dX9_lay_74 (by decide) ?_
            refine xw_icmplt (tgt := 82) dX9_lay_76 (by decide) (by first | assumption | (unfold inI; omega) | (unfold inI at *; omega)) (by first | assumption | (unfold inI; omega) | (unfold inI at *; omega)) (fun c_76 => ?_) (fun c_76 => ?_)
            · skip
              exfalso; omega
            · skip
              refine xw_bipush (z := -5) dX9_lay_79 (by decide) ?_
              exact xw_iret dX9_lay_81 rfl (NN _ f1 (by
                  refine Or.inr (Or.inr ⟨by rw [← hpc]; exact ha1, Or.inr ⟨by rw [← hpc]; exact ha2, Or.inr ⟨by rw [← hX]; exact ha3, Or.inl ⟨rfl, hfull⟩⟩⟩⟩)) (fun j q1 q2 => hf1 j q1) hw1 (by obtain ⟨s9, q3, q4, q5, _⟩ := jg; exact q5))
        · skip
          exact absurd rfl c_55
    refine xw_new (rc := 4) (rs := 18) (N := 6) dX9_lay_29 nw_X9_15 ?_
    refine xw_dup dX9_lay_32 rfl ?_
    refine xw_iload_n dX9_lay_33 rfl ?_
    refine xw_iload dX9_lay_34 rfl ?_
    refine xw_iload dX9_lay_36 rfl ?_
    refine xw_callI (rc := 3) (rs := 9) (mc2 := 1) (ms2 := 9) (As := [vI kd, vI mk, vI wo]) (st := [vR n]) dX9_lay_38 mi_X9_124 (by decide) (by decide) (Nat.le_of_ble_eq_true rfl) rfl (ct_Stick (b := n) (xup_s _ _ _) (by omega) hkd ?_)
    refine xw_hq F hF.symm ?_
    refine xw_astore dX9_lay_41 (by decide) ?_
    refine xw_aload dX9_lay_43 rfl ?_
    refine xw_aload dX9_lay_45 rfl ?_
    refine xw_iload_n dX9_lay_47 rfl ?_
    refine xw_callV (rc := 0) (rs := 0) (mc2 := 3) (ms2 := 9) (a := n) (As := [vR (bo b), vI (k : Int)]) (st := []) dX9_lay_48 mv_X9_127 Fn rfl rfl (by decide) (by decide) (Nat.le_of_ble_eq_true rfl) rfl (ct_takePoints Fn Fn1 ((Fk _ bl).trans hk.2.1) ((Fk _ bl2).trans hk.2.2.2.1) ((Fk _ bl1).trans hk.2.2.1) Fw hpc2 hk20 hlk hk.2.2.2.2.2.2 (by omega) (by omega) (by omega) (by omega) (fun q1 => ?_) (fun q1 q2 => ?_) (fun q1 q2 pt => ?_) (fun q1 q2 q3 m q4 q5 => ?_) (fun q1 q2 q3 m q4 q5 => ?_))
    · exact xw_ls [(0, vR 0), (1, vI kd), (2, vI z), (3, vI (k : Int)), (4, vI mk), (5, vI wo), (6, vR (bo b)), (7, vR n)] ⟨rfl, rfl, rfl, rfl, rfl, rfl, rfl, rfl, trivial⟩ (R (-1) _ F (by decide) (by unfold inI; omega) (Nx (-1) (n + 2) F (by omega) Fk Fw (Or.inl ⟨rfl, q1⟩)))
    · exact xw_ls [(0, vR 0), (1, vI kd), (2, vI z), (3, vI (k : Int)), (4, vI mk), (5, vI wo), (6, vR (bo b)), (7, vR n)] ⟨rfl, rfl, rfl, rfl, rfl, rfl, rfl, rfl, trivial⟩ (R (-2) _ F (by decide) (by unfold inI; omega) (Nx (-2) (n + 2) F (by omega) Fk Fw (Or.inr (Or.inl ⟨rfl, q1, by rw [← hpc]; exact q2⟩))))
    · exact xw_ls [(0, vR 0), (1, vI kd), (2, vI z), (3, vI (k : Int)), (4, vI mk), (5, vI wo), (6, vR (bo b)), (7, vR n)] ⟨rfl, rfl, rfl, rfl, rfl, rfl, rfl, rfl, trivial⟩ (R (-3) _ _ (by decide) (by unfold inI; omega) (Nx (-3) (n + 2) _ (by omega) (fun j hj => (xup_n _ _ (by omega)).trans (Fk j hj)) (wf_up Fw (by omega)) (Or.inr (Or.inr ⟨by rw [← hpc]; exact q1, Or.inl ⟨rfl, by rw [← hpc]; exact q2⟩⟩))))
    · exact xw_ls [(0, vR 0), (1, vI kd), (2, vI z), (3, vI (k : Int)), (4, vI mk), (5, vI wo), (6, vR (bo b)), (7, vR n)] ⟨rfl, rfl, rfl, rfl, rfl, rfl, rfl, rfl, trivial⟩ (R (-4) _ _ (by decide) (by unfold inI; omega) (Nx (-4) m _ (by omega) (fun j hj => (xup_n _ _ (by omega)).trans (Fk j hj)) (wf_le (wf_up Fw (by omega)) (by omega)) (Or.inr (Or.inr ⟨by rw [← hpc]; exact q1, Or.inr ⟨by rw [← hpc]; exact q2, Or.inl ⟨rfl, by rw [← hX, hXp, hXc]; exact q3⟩⟩⟩))))
    · exact xw_ls [(0, vR 0), (1, vI kd), (2, vI z), (3, vI (k : Int)), (4, vI mk), (5, vI wo), (6, vR (bo b)), (7, vR n)] ⟨rfl, rfl, rfl, rfl, rfl, rfl, rfl, rfl, trivial⟩ (S m _ (by omega) (fun j hj => (xup_n _ _ (by omega)).trans (Fk j hj)) ((xup_n _ _ (by omega)).trans (by rw [hXo]; exact Fn)) (by rw [xup_s, hXp]) (wf_le (wf_up Fw (by omega)) (by omega)) q1 q2 (by rw [hXp, hXc]; exact q3))
  refine xw_aload_n dX9_lay_0 rfl ?_
  refine xw_iload_n dX9_lay_1 rfl ?_
  refine xw_iload_n dX9_lay_2 rfl ?_
  refine xw_callV (rc := 5) (rs := 24) (mc2 := 1) (ms2 := 6) (a := 0) (As := [vI z, vI w]) (st := []) dX9_lay_3 mv_X9_86 h0 rfl rfl (by decide) (by decide) (Nat.le_of_ble_eq_true rfl) rfl (ct_boxWithRow h0 hb hz hw9 (fun b k e1 e2 e3 e4 => ?_) hx1)
  refine xw_astore dX9_lay_6 (by decide) ?_
  refine xw_iload_n dX9_lay_8 rfl ?_
  refine xw_iload dX9_lay_9 rfl ?_
  refine xw_iload dX9_lay_11 rfl ?_
  refine xw_callS (rc := 5) (rs := 24) (mc2 := 0) (ms2 := 0) (As := [vI kd, vI mk, vI wo]) (st := []) dX9_lay_13 ms_X9_118 rfl (by decide) (by decide) (Nat.le_of_ble_eq_true rfl) rfl (ct_isKind hkd hmk hwo (fun q => ?_) (fun q => ?_))
  · skip
    refine xw_ifne (tgt := 29) dX9_lay_16 (by decide) (by unfold inI; omega) (fun _ => ?_) (fun c => absurd c (by decide))
    exact xw_ls [(0, vR 0), (1, vI kd), (2, vI z), (3, vI w), (4, vI mk), (5, vI wo), (6, vR (bo b))] ⟨rfl, rfl, rfl, rfl, rfl, rfl, rfl, trivial⟩ (K b k e1 e2 e3 e4 q)
  · skip
    refine xw_ifne (tgt := 29) dX9_lay_16 (by decide) (by unfold inI; omega) (fun c => absurd c (by decide)) (fun _ => ?_)
    exact xw_throwS (rc := 4) (rs := 18) th_122 rfl dX9_lay_19 dX9_lay_22 dX9_lay_23 dX9_lay_25 dX9_lay_28 (by decide) (by decide) (hx2 (by omega) q)
end C75
