/-! the calls about boxes -/
theorem bxs_1 {f : xH} {bn : Nat} {bo : Nat → Nat} {β : Nat → xBx} (h : bxs f bn bo β) {b : Nat} (hb : b < bn) : f 1 = some (aR 4 8 (fun b => if b < bn then some (bo b) else none)) ∧ 79 ≤ bo b := ⟨h.1, (h.2.2.1 b hb).1⟩
/-- one box changed within its cells -/
theorem bxs_up {f f1 : xH} {bn b : Nat} {bo : Nat → Nat} {β : Nat → xBx} {x : xBx} (h : bxs f bn bo β) (hb : b < bn) (h1 : f1 1 = f 1) (hw : x.1 = (β b).1) (hx : okB x) (e0 : f1 (bo b) = f (bo b)) (e1 : f1 (bo b + 1) = some (aL 600 x.2.1)) (e2 : f1 (bo b + 2) = some (aI 20 x.2.2)) (hf : ∀ k, 79 ≤ k → k ≠ bo b + 1 → k ≠ bo b + 2 → f1 k = f k) : bxs f1 bn bo (xui β b x) := by
  refine ⟨h1.trans h.1, h.2.1, fun c hc => ?_, h.2.2.2⟩
  have hk := h.2.2.1 c hc
  by_cases e : c = b
  · subst e
    rw [xui_s]
    refine ⟨hk.1, e0.trans ?_, e1, e2, hx⟩
    rw [hw]; exact hk.2.1
  · rw [xui_n _ _ e]
    have hkb := h.2.2.1 b hb
    have hsp : bo c + 2 < bo b ∨ bo b + 2 < bo c := by
      rcases Nat.lt_or_ge c b with q | q
      · exact Or.inl (h.2.2.2 c b q hb)
      · exact Or.inr (h.2.2.2 b c (by omega) hc)
    exact ⟨hk.1, (hf _ hk.1 (by omega) (by omega)).trans hk.2.1, (hf _ (by omega) (by omega) (by omega)).trans hk.2.2.1, (hf _ (by omega) (by omega) (by omega)).trans hk.2.2.2.1, hk.2.2.2.2⟩
theorem no600 {v : Nat → Int} (h : szA (aL 600 v) = 9 ∨ szA (aL 600 v) = 1007 ∨ szA (aL 600 v) = 1002) : False := by
  rcases h with h | h | h <;> exact absurd h (Nat.ne_of_beq_eq_false rfl)
theorem no20 {v : Nat → Int} (h : szA (aI 20 v) = 9 ∨ szA (aI 20 v) = 1007 ∨ szA (aI 20 v) = 1002) : False := by
  rcases h with h | h | h <;> exact absurd h (Nat.ne_of_beq_eq_false rfl)
theorem kept_L {w v : Int} (h : inL v) : inL (kept w v) := by
  unfold kept
  split
  · have h1 := Int.bmod_lt (x := v) (m := 65536) (by decide)
    have h2 := Int.le_bmod (x := v) (m := 65536) (by decide)
    unfold inL; omega
  · split
    · have h1 := Int.bmod_lt (x := v) (m := 4294967296) (by decide)
      have h2 := Int.le_bmod (x := v) (m := 4294967296) (by decide)
      unfold inL; omega
    · exact h
theorem ar_ext (bn n : Nat) (bo : Nat → Nat) : xui (fun b => if b < bn then some (bo b) else none) bn (some n) = fun b => if b < bn + 1 then some (xui bo bn n b) else none := by
  funext b
  unfold xui
  by_cases e : b = bn
  · rw [if_pos e, if_pos (by omega), if_pos e]
  · rw [if_neg e, if_neg e]
    show (if b < bn then some (bo b) else none) = _
    by_cases e2 : b < bn
    · rw [if_pos e2, if_pos (by omega)]
    · rw [if_neg e2, if_neg (by omega)]
def nbx (w : Int) : xBx := (w, (fun _ => 0, fun _ => -1))
theorem xw_stk {g : xG} {y : xM} {Q : xP} {rc rs pc : Nat} {ls : xS} {n : Nat} {f : xH} {st0 : List xV} (st : List xV) (h : st0 = st) (k : xw g y Q rc rs pc ls st n f) : xw g y Q rc rs pc ls st0 n f := by rw [h]; exact k
section C68
variable {g : xG} {y : xM} {Q : xP} {n : Nat} {f : xH} {bn : Nat} {β : Nat → xBx} {gn : Nat} {σ : Nat → xSt} {d : Nat → Int} {as : List xAc} {ps : Nat} {pb : Nat → Int} {pu : Nat} {pr : Nat → Int}
set_option maxHeartbeats 4000000 in
theorem ct_box {w : Int} (h : CS n f bn β gn σ d as ps pb pu pr) (hz : inI w) (h1 : (0 ≤ w ∧ w ≤ 2) → bn < 8 → ∀ n1 f1, n ≤ n1 → CS n1 f1 (bn + 1) (xui β bn (nbx w)) gn σ d as ps pb pu pr → kM f f1 → Q (.inl (some (vI (bn : Int)))) n1 f1) (hx1 : ¬ (0 ≤ w ∧ w ≤ 2) → ∀ n', n ≤ n' → Q (.inr eIAE) n' f) (hx2 : (0 ≤ w ∧ w ≤ 2) → ¬ bn < 8 → ∀ n', n ≤ n' → Q (.inr eISE) n' f) : xct g M_X9_box 3 623 [vR 0, vI w] n f Q := by
  refine xct_of rfl rfl (Nat.le_of_ble_eq_true rfl) ?_
  obtain ⟨bo, so, tk, rk, h0, hb, hs, hg, ha, hp, hl, ht, hr, h40, hrk, hw, hx⟩ := h
  have hb8 := hb.2.1
  have hn := n79 hw hx
  have T1 : ¬ (0 ≤ w ∧ w ≤ 2) → xw g M_X9_box Q 3 623 9 [(0, vR 0), (1, vI w)] [] n f := fun hc => xw_throwS (rc := 2) (rs := 617) th_69 rfl dX9_box_9 dX9_box_12 dX9_box_13 dX9_box_15 dX9_box_18 (by decide) (by decide) (hx1 hc)
  refine xw_iload_n dX9_box_0 rfl ?_
  refine xw_iflt (tgt := 9) dX9_box_1 (by decide) (by first | assumption | (unfold inI; omega) | (unfold inI at *; omega)) (fun c_1 => ?_) (fun c_1 => ?_)
  · skip
    exact xw_ls [(0, vR 0), (1, vI w)] ⟨rfl, rfl, trivial⟩ (T1 (by omega))
  · skip
    refine xw_iload_n dX9_box_4 rfl ?_
    refine xw_iconst dX9_box_5 ?_
    refine xw_icmplt (tgt := 19) dX9_box_6 (by decide) (by first | assumption | (unfold inI; omega) | (unfold inI at *; omega)) (by first | assumption | (unfold inI; omega) | (unfold inI at *; omega)) (fun c_6 => ?_) (fun c_6 => ?_)
    · skip
      refine xw_aload_n dX9_box_19 rfl ?_
      refine xw_getfield dX9_box_20 fl_X9_74 h0 rfl ?_
      refine xw_bipush (z := 8) dX9_box_23 (by decide) ?_
      refine xw_icmplt (tgt := 38) dX9_box_25 (by decide) (by first | assumption | (unfold inI; omega) | (unfold inI at *; omega)) (by first | assumption | (unfold inI; omega) | (unfold inI at *; omega)) (fun c_25 => ?_) (fun c_25 => ?_)
      · skip
        refine xw_aload_n dX9_box_38 rfl ?_
        refine xw_getfield dX9_box_39 fl_X9_11 h0 rfl ?_
        refine xw_aload_n dX9_box_42 rfl ?_
        refine xw_getfield dX9_box_43 fl_X9_74 h0 rfl ?_
        refine xw_new (rc := 2) (rs := 620) (N := 3) dX9_box_46 nw_X9_9 ?_
        refine xw_dup dX9_box_49 rfl ?_
        refine xw_iload_n dX9_box_50 rfl ?_
        refine xw_callI (rc := 0) (rs := 0) (mc2 := 2) (ms2 := 620) (As := [vI w]) (st := [vR n, vI (bn : Int), vR 1]) dX9_box_51 mi_X9_83 (by decide) (by decide) (Nat.le_of_ble_eq_true rfl) rfl (ct_Box (b := n) (w := w) (xup_s _ _ _) (by omega) ?_)
        obtain ⟨G, hG9⟩ : ∃ G, G = xup (xup (xup (xup f n (.inr (1, fun j => xdef (tyX1 j)))) (n + 1) (aL 600 (fun _ => 0))) (n + 1 + 1) (aI 20 (fun _ => -1))) n (.inr (1, fBx w (n + 1) (n + 1 + 1))) := ⟨_, rfl⟩
        rw [← hG9]
        have Go : ∀ k, k < n → G k = f k := fun k hk => by rw [hG9, xup_n _ _ (by omega), xup_n _ _ (by omega), xup_n _ _ (by omega), xup_n _ _ (by omega)]
        have Gn : G n = some (.inr (1, fBx w (n + 1) (n + 2))) := by rw [hG9]; exact xup_s _ _ _
        have Gn1 : G (n + 1) = some (aL 600 (fun _ => 0)) := by rw [hG9, xup_n _ _ (by omega), xup_n _ _ (by omega)]; exact xup_s _ _ _
        have Gn2 : G (n + 2) = some (aI 20 (fun _ => -1)) := by rw [hG9, xup_n _ _ (by omega)]; exact xup_s _ _ _
        have Gw : wf (n + 3) G := fun k hk => by rw [hG9, xup_n _ _ (by omega), xup_n _ _ (by omega), xup_n _ _ (by omega), xup_n _ _ (by omega)]; exact hw k (by omega)
        have G0 : G 0 = some (oTb bn gn (hc σ gn : Int) tk rk pu) := (Go 0 (by omega)).trans h0
        have G1 := (Go 1 (by omega)).trans hb.1
        refine xw_aast (a := 1) (v := n) (t := 4) (ci := 1) (j := bn) dX9_box_54 G1 Gn rfl rfl rfl (by omega) (by decide) ?_
        refine xw_aload_n dX9_box_55 rfl ?_
        refine xw_dup dX9_box_56 rfl ?_
        refine xw_getfield dX9_box_57 fl_X9_74 G0 rfl ?_
        refine xw_iconst dX9_box_60 ?_
        refine xw_iadd dX9_box_61 ?_
        refine xw_putfield dX9_box_62 (fp_X9_74 _) G0 rfl rfl ?_
        rw [fX9_1]
        refine xw_aload_n dX9_box_65 rfl ?_
        refine xw_getfield dX9_box_66 fl_X9_74 rfl rfl ?_
        refine xw_iconst dX9_box_69 ?_
        refine xw_isub dX9_box_70 ?_
        refine xw_topi (bn : Int) (by omega) ?_
        refine xw_topi (bn : Int) (by omega) (xw_iret dX9_box_71 rfl (h1 (by omega) (by omega) (n + 3) _ (by omega) (CS_bx (bo1 := xui bo bn n) (n := n) (f := f) (tk := tk) (rk := rk) (by rw [xup_s]; rfl) ⟨?_, by omega, fun b hb9 => ?_, fun b c g1 g2 => ?_⟩ hs hg ha hp hl ht hr h40 hrk (fun k hk => ?_) hx (fun k k1 k2 => ?_) (fun k e k1 k2 k3 => ?_)) (fun k e a b q => ?_)))
        · rw [xup_n _ _ (by decide), xup_s]
          rw [ar_ext]
        · by_cases e : b = bn
          · subst e
            rw [xui_s, xui_s, xup_n _ _ (by omega), xup_n _ _ (by omega), xup_n _ _ (by omega), xup_n _ _ (by omega), xup_n _ _ (by omega), xup_n _ _ (by omega)]
            exact ⟨hn, Gn, Gn1, Gn2, ⟨by show 0 ≤ w ∧ w ≤ 2; omega, fun k hk => by show -1 ≤ (-1 : Int) ∧ (-1 : Int) ≤ 30; omega, fun j hj => by show inL 0; unfold inL; omega⟩⟩
          · rw [xui_n _ _ e, xui_n _ _ e]
            have hk := hb.2.2.1 b (by omega)
            have hk1 := wf_ne hw hk.2.1
            have hk2 := wf_ne hw hk.2.2.1
            have hk3 := wf_ne hw hk.2.2.2.1
            rw [xup_n _ _ (by omega), xup_n _ _ (by omega), xup_n _ _ (by omega), xup_n _ _ (by omega), xup_n _ _ (by omega), xup_n _ _ (by omega), Go _ hk1, Go _ hk2, Go _ hk3]
            exact hk
        · by_cases e : c = bn
          · subst e
            rw [xui_s, xui_n _ _ (by omega)]
            exact wf_ne hw (hb.2.2.1 b g1).2.2.2.1
          · rw [xui_n _ _ e, xui_n _ _ (by omega)]
            exact hb.2.2.2 b c g1 (by omega)
        · rw [xup_n _ _ (by omega), xup_n _ _ (by omega)]; exact Gw k hk
        · rw [xup_n _ _ (by omega), xup_n _ _ (by omega)]; exact Go k (by omega)
        · have hk1 := wf_ne hw k2
          rw [xup_n _ _ (by omega), xup_n _ _ (by omega), Go k hk1]; exact k2
        · rw [xup_n _ _ (by omega), xup_n _ _ (by omega), Go k (by omega)]; exact q
      · skip
        exact xw_throwS (rc := 2) (rs := 617) th_80 rfl dX9_box_28 dX9_box_31 dX9_box_32 dX9_box_34 dX9_box_37 (by decide) (by decide) (hx2 (by omega) (by omega))
    · skip
      exact xw_ls [(0, vR 0), (1, vI w)] ⟨rfl, rfl, trivial⟩ (T1 (by omega))
set_option maxHeartbeats 4000000 in
theorem ct_row {z w m : Int} (h : CS n f bn β gn σ d as ps pb pu pr) (hz : inI z) (hw9 : inI w) (hm : inI m) (h1 : ∀ b k : Nat, z = (b : Int) → w = (k : Int) → b < bn → k < 20 → (0 ≤ m ∧ m ≤ 30) → ∀ f1, CS n f1 bn (xui β b ((β b).1, (zrow (β b).2.1 k 30, xui (β b).2.2 k m))) gn σ d as ps pb pu pr → kM f f1 → Q (.inl (some (vI m))) n f1) (h2 : ∀ b k : Nat, z = (b : Int) → w = (k : Int) → b < bn → k < 20 → ¬ (0 ≤ m ∧ m ≤ 30) → Q (.inl (some (vI (-1)))) n f) (hx1 : ¬ ((0 ≤ z ∧ z < (bn : Int)) ∧ 0 ≤ w ∧ w < 20) → ∀ n', n ≤ n' → Q (.inr eIOB) n' f) : xct g M_X9_row 1 6 [vR 0, vI z, vI w, vI m] n f Q := by
  refine xct_of rfl rfl (Nat.le_of_ble_eq_true rfl) ?_
  obtain ⟨bo, so, tk, rk, h0, hb, hs, hg, ha, hp, hl, ht, hr, h40, hrk, hw, hx⟩ := h
  refine xw_aload_n dX9_row_0 rfl ?_
  refine xw_iload_n dX9_row_1 rfl ?_
  refine xw_iload_n dX9_row_2 rfl ?_
  refine xw_callV (rc := 0) (rs := 0) (mc2 := 1) (ms2 := 6) (a := 0) (As := [vI z, vI w]) (st := []) dX9_row_3 mv_X9_86 h0 rfl rfl (by decide) (by decide) (Nat.le_of_ble_eq_true rfl) rfl (ct_boxWithRow h0 hb hz hw9 (fun b k e1 e2 e3 e4 => ?_) hx1)
  subst e1 e2
  have hk := hb.2.2.1 b e3
  refine xw_astore dX9_row_6 (by decide) ?_
  refine xw_iload_n dX9_row_8 rfl ?_
  refine xw_iflt (tgt := 18) dX9_row_9 (by decide) (by first | assumption | (unfold inI; omega) | (unfold inI at *; omega)) (fun c_9 => ?_) (fun c_9 => ?_)
  · skip
    refine xw_iconst dX9_row_18 ?_
    exact xw_iret dX9_row_19 rfl (h2 b k rfl rfl e3 e4 (by omega))
  · skip
    refine xw_iload_n dX9_row_12 rfl ?_
    refine xw_bipush (z := 30) dX9_row_13 (by decide) ?_
    refine xw_icmple (tgt := 20) dX9_row_15 (by decide) (by first | assumption | (unfold inI; omega) | (unfold inI at *; omega)) (by first | assumption | (unfold inI; omega) | (unfold inI at *; omega)) (fun c_15 => ?_) (fun c_15 => ?_)
    · skip
      refine xw_aload dX9_row_20 rfl ?_
      refine xw_iload_n dX9_row_22 rfl ?_
      refine xw_iload_n dX9_row_23 rfl ?_
      refine xw_callV (rc := 0) (rs := 0) (mc2 := 0) (ms2 := 0) (a := (bo b)) (As := [vI (k : Int), vI m]) (st := []) dX9_row_24 mv_X9_90 hk.2.1 rfl rfl (by decide) (by decide) (Nat.le_of_ble_eq_true rfl) rfl (ct_renew hk.2.1 hk.2.2.2.1 hk.2.2.1 (by omega) (by omega) (by omega) e4 ?_)
      refine xw_iload_n dX9_row_27 rfl ?_
      exact xw_iret dX9_row_28 rfl (h1 b k rfl rfl e3 e4 (by omega) _ (CS_bx (bo1 := bo) (n := n) (f := f) (tk := tk) (rk := rk) ((xup_n _ _ (by omega)).trans ((xup_n _ _ (by omega)).trans h0)) (bxs_up hb e3 ((xup_n _ _ (by omega)).trans (xup_n _ _ (by omega))) rfl ⟨hk.2.2.2.2.1, fun k9 hk9 => by
          show -1 ≤ xui (β b).2.2 k m k9 ∧ xui (β b).2.2 k m k9 ≤ 30
          unfold xui; split
          · omega
          · exact hk.2.2.2.2.2.1 k9 hk9, fun j hj => by
          show inL (zrow (β b).2.1 k 30 j)
          unfold zrow; split
          · unfold inL; omega
          · exact hk.2.2.2.2.2.2 j hj⟩ ((xup_n _ _ (by omega)).trans (xup_n _ _ (by omega))) (xup_s _ _ _) ((xup_n _ _ (by omega)).trans (xup_s _ _ _)) (fun k9 q1 q2 q3 => (xup_n _ _ q2).trans (xup_n _ _ q3))) hs hg ha hp hl ht hr h40 hrk (wf_up (wf_up hw (wf_ne hw hk.2.2.2.1)) (wf_ne hw hk.2.2.1)) hx (fun k9 q1 q2 => (xup_n _ _ (by omega)).trans (xup_n _ _ (by omega))) (fun k9 e q1 q2 q3 => (xup_n _ _ (fun q => by rw [q, hk.2.2.1] at q2; rw [← Option.some.inj q2] at q3; exact no600 q3)).trans ((xup_n _ _ (fun q => by rw [q, hk.2.2.2.1] at q2; rw [← Option.some.inj q2] at q3; exact no20 q3)).trans q2))) (fun k9 e q1 q2 q3 => (xup_n _ _ (by omega)).trans ((xup_n _ _ (by omega)).trans q3)))
    · skip
      refine xw_iconst dX9_row_18 ?_
      exact xw_iret dX9_row_19 rfl (h2 b k rfl rfl e3 e4 (by omega))
set_option maxHeartbeats 4000000 in
theorem ct_tear {z w : Int} (h : CS n f bn β gn σ d as ps pb pu pr) (hz : inI z) (hw9 : inI w) (h1 : ∀ b k : Nat, z = (b : Int) → w = (k : Int) → b < bn → k < 20 → ∀ f1, CS n f1 bn (xui β b ((β b).1, ((β b).2.1, xui (β b).2.2 k (-1)))) gn σ d as ps pb pu pr → kM f f1 → Q (.inl (some (vI ((β b).2.2 k)))) n f1) (hx1 : ¬ ((0 ≤ z ∧ z < (bn : Int)) ∧ 0 ≤ w ∧ w < 20) → ∀ n', n ≤ n' → Q (.inr eIOB) n' f) : xct g M_X9_tear 1 6 [vR 0, vI z, vI w] n f Q := by
  refine xct_of rfl rfl (Nat.le_of_ble_eq_true rfl) ?_
  obtain ⟨bo, so, tk, rk, h0, hb, hs, hg, ha, hp, hl, ht, hr, h40, hrk, hw, hx⟩ := h
  refine xw_aload_n dX9_tear_0 rfl ?_
  refine xw_iload_n dX9_tear_1 rfl ?_
  refine xw_iload_n dX9_tear_2 rfl ?_
  refine xw_callV (rc := 0) (rs := 0) (mc2 := 1) (ms2 := 6) (a := 0) (As := [vI z, vI w]) (st := []) dX9_tear_3 mv_X9_86 h0 rfl rfl (by decide) (by decide) (Nat.le_of_ble_eq_true rfl) rfl (ct_boxWithRow h0 hb hz hw9 (fun b k e1 e2 e3 e4 => ?_) hx1)
  subst e1 e2
  have hk := hb.2.2.1 b e3
  refine xw_iload_n dX9_tear_6 rfl ?_
  refine xw_callV (rc := 0) (rs := 0) (mc2 := 0) (ms2 := 0) (a := (bo b)) (As := [vI (k : Int)]) (st := []) dX9_tear_7 mv_X9_115 hk.2.1 rfl rfl (by decide) (by decide) (Nat.le_of_ble_eq_true rfl) rfl (ct_remove hk.2.1 hk.2.2.2.1 e4 (by have := hk.2.2.2.2.2.1 k e4; unfold inI; omega) ?_)
  exact xw_iret dX9_tear_10 rfl (h1 b k rfl rfl e3 e4 _ (CS_bx (bo1 := bo) (n := n) (f := f) (tk := tk) (rk := rk) ((xup_n _ _ (by omega)).trans h0) (bxs_up hb e3 (xup_n _ _ (by omega)) rfl ⟨hk.2.2.2.2.1, fun k9 hk9 => by
      show -1 ≤ xui (β b).2.2 k (-1) k9 ∧ xui (β b).2.2 k (-1) k9 ≤ 30
      unfold xui; split
      · omega
      · exact hk.2.2.2.2.2.1 k9 hk9, hk.2.2.2.2.2.2⟩ (xup_n _ _ (by omega)) ((xup_n _ _ (by omega)).trans hk.2.2.1) (xup_s _ _ _) (fun k9 q1 q2 q3 => xup_n _ _ q3)) hs hg ha hp hl ht hr h40 hrk (wf_up hw (wf_ne hw hk.2.2.2.1)) hx (fun k9 q1 q2 => xup_n _ _ (by omega)) (fun k9 e q1 q2 q3 => (xup_n _ _ (fun q => by rw [q, hk.2.2.2.1] at q2; rw [← Option.some.inj q2] at q3; exact no20 q3)).trans q2)) (fun k9 e q1 q2 q3 => (xup_n _ _ (by omega)).trans q3))
set_option maxHeartbeats 4000000 in
theorem ct_put {z w m v : Int} (h : CS n f bn β gn σ d as ps pb pu pr) (hz : inI z) (hw9 : inI w) (hm : inI m) (hv : inL v) (h1 : ∀ b k i : Nat, z = (b : Int) → w = (k : Int) → m = (i : Int) → b < bn → k < 20 → (i : Int) < (β b).2.2 k → ∀ f1, CS n f1 bn (xui β b ((β b).1, (xui (β b).2.1 (30 * k + i) (kept (β b).1 v), (β b).2.2))) gn σ d as ps pb pu pr → kM f f1 → Q (.inl (some (vI 1))) n f1) (h2 : ∀ b k : Nat, z = (b : Int) → w = (k : Int) → b < bn → k < 20 → (β b).2.2 k = -1 → Q (.inl (some (vI (-1)))) n f) (h3 : ∀ b k : Nat, z = (b : Int) → w = (k : Int) → b < bn → k < 20 → (β b).2.2 k ≠ -1 → ¬ (0 ≤ m ∧ m < (β b).2.2 k) → Q (.inl (some (vI (-2)))) n f) (hx1 : ¬ ((0 ≤ z ∧ z < (bn : Int)) ∧ 0 ≤ w ∧ w < 20) → ∀ n', n ≤ n' → Q (.inr eIOB) n' f) : xct g M_X9_put 1 6 [vR 0, vI z, vI w, vI m, vL v] n f Q := by
  refine xct_of rfl rfl (Nat.le_of_ble_eq_true rfl) ?_
  obtain ⟨bo, so, tk, rk, h0, hb, hs, hg, ha, hp, hl, ht, hr, h40, hrk, hw, hx⟩ := h
  refine xw_aload_n dX9_put_0 rfl ?_
  refine xw_iload_n dX9_put_1 rfl ?_
  refine xw_iload_n dX9_put_2 rfl ?_
  refine xw_callV (rc := 0) (rs := 0) (mc2 := 1) (ms2 := 6) (a := 0) (As := [vI z, vI w]) (st := []) dX9_put_3 mv_X9_86 h0 rfl rfl (by decide) (by decide) (Nat.le_of_ble_eq_true rfl) rfl (ct_boxWithRow h0 hb hz hw9 (fun b k e1 e2 e3 e4 => ?_) hx1)
  subst e1 e2
  have hk := hb.2.2.1 b e3
  have hlk := hk.2.2.2.2.2.1 k e4
  refine xw_astore dX9_put_6 (by decide) ?_
  refine xw_aload dX9_put_8 rfl ?_
  refine xw_iload_n dX9_put_10 rfl ?_
  refine xw_callV (rc := 0) (rs := 0) (mc2 := 0) (ms2 := 0) (a := (bo b)) (As := [vI (k : Int)]) (st := []) dX9_put_11 mv_X9_94 hk.2.1 rfl rfl (by decide) (by decide) (Nat.le_of_ble_eq_true rfl) rfl (ct_lengthOf hk.2.1 hk.2.2.2.1 e4 ?_)
  refine xw_istore dX9_put_14 (by decide) ?_
  refine xw_iload dX9_put_16 rfl ?_
  refine xw_iconst dX9_put_18 ?_
  refine xw_icmpne (tgt := 24) dX9_put_19 (by decide) (by first | assumption | (unfold inI; omega) | (unfold inI at *; omega)) (by first | assumption | (unfold inI; omega) | (unfold inI at *; omega)) (fun c_19 => ?_) (fun c_19 => ?_)
  · skip
    refine xw_iload_n dX9_put_24 rfl ?_
    refine xw_iflt (tgt := 34) dX9_put_25 (by decide) (by first | assumption | (unfold inI; omega) | (unfold inI at *; omega)) (fun c_25 => ?_) (fun c_25 => ?_)
    · skip
      refine xw_bipush (z := -2) dX9_put_34 (by decide) ?_
      exact xw_iret dX9_put_36 rfl (h3 b k rfl rfl e3 e4 (by omega) (by omega))
    · skip
      refine xw_iload_n dX9_put_28 rfl ?_
      refine xw_iload dX9_put_29 rfl ?_
      refine xw_icmplt (tgt := 37) dX9_put_31 (by decide) (by first | assumption | (unfold inI; omega) | (unfold inI at *; omega)) (by first | assumption | (unfold inI; omega) | (unfold inI at *; omega)) (fun c_31 => ?_) (fun c_31 => ?_)
      · skip
        obtain ⟨i, rfl⟩ : ∃ i : Nat, m = (i : Int) := ⟨m.toNat, by omega⟩
        have hi30 : i < 30 := by omega
        refine xw_aload dX9_put_37 rfl ?_
        refine xw_iload_n dX9_put_39 rfl ?_
        refine xw_iload_n dX9_put_40 rfl ?_
        refine xw_lload dX9_put_41 rfl ?_
        refine xw_callV (rc := 0) (rs := 0) (mc2 := 0) (ms2 := 0) (a := (bo b)) (As := [vI (k : Int), vI (i : Int), vL v]) (st := []) dX9_put_43 mv_X9_98 hk.2.1 rfl rfl (by decide) (by decide) (Nat.le_of_ble_eq_true rfl) rfl (ct_write hk.2.1 hk.2.2.2.1 hk.2.2.1 e4 (by omega) (by omega) hk.2.2.2.2.1 ?_)
        refine xw_iconst dX9_put_46 ?_
        exact xw_iret dX9_put_47 rfl (h1 b k i rfl rfl rfl e3 e4 (by omega) _ (CS_bx (bo1 := bo) (n := n) (f := f) (tk := tk) (rk := rk) ((xup_n _ _ (by omega)).trans h0) (bxs_up hb e3 (xup_n _ _ (by omega)) rfl ⟨hk.2.2.2.2.1, hk.2.2.2.2.2.1, fun j hj => by
            show inL (xui (β b).2.1 (30 * k + i) (kept (β b).1 v) j)
            unfold xui; split
            · exact kept_L hv
            · exact hk.2.2.2.2.2.2 j hj⟩ (xup_n _ _ (by omega)) (xup_s _ _ _) ((xup_n _ _ (by omega)).trans hk.2.2.2.1) (fun k9 q1 q2 q3 => xup_n _ _ q2)) hs hg ha hp hl ht hr h40 hrk (wf_up hw (wf_ne hw hk.2.2.1)) hx (fun k9 q1 q2 => xup_n _ _ (by omega)) (fun k9 e q1 q2 q3 => (xup_n _ _ (fun q => by rw [q, hk.2.2.1] at q2; rw [← Option.some.inj q2] at q3; exact no600 q3)).trans q2)) (fun k9 e q1 q2 q3 => (xup_n _ _ (by omega)).trans q3))
      · skip
        refine xw_bipush (z := -2) dX9_put_34 (by decide) ?_
        exact xw_iret dX9_put_36 rfl (h3 b k rfl rfl e3 e4 (by omega) (by omega))
  · skip
    refine xw_iconst dX9_put_22 ?_
    exact xw_iret dX9_put_23 rfl (h2 b k rfl rfl e3 e4 (by omega))
set_option maxHeartbeats 4000000 in
theorem ct_copy {z w x z2 w2 x2 m : Int} (h : CS n f bn β gn σ d as ps pb pu pr) (hz : inI z) (hw9 : inI w) (hx9 : inI x) (hz2 : inI z2) (hw2 : inI w2) (hx2 : inI x2) (hm : inI m) (hq : ∀ b k b2 k2 : Nat, z = (b : Int) → w = (k : Int) → z2 = (b2 : Int) → w2 = (k2 : Int) → b < bn → k < 20 → b2 < bn → k2 < 20 →
      (((β b).2.2 k = -1 ∨ (β b2).2.2 k2 = -1) → Q (.inl (some (vI (-1)))) n f) ∧
      (¬ ((β b).2.2 k = -1 ∨ (β b2).2.2 k2 = -1) → ¬ (0 ≤ x ∧ 0 ≤ x2 ∧ 0 ≤ m ∧ x ≤ (β b).2.2 k - m ∧ x2 ≤ (β b2).2.2 k2 - m) → Q (.inl (some (vI (-2)))) n f) ∧
      (¬ ((β b).2.2 k = -1 ∨ (β b2).2.2 k2 = -1) → (0 ≤ x ∧ 0 ≤ x2 ∧ 0 ≤ m ∧ x ≤ (β b).2.2 k - m ∧ x2 ≤ (β b2).2.2 k2 - m) → (β b).1 ≠ (β b2).1 → Q (.inl (some (vI (-3)))) n f) ∧
      (¬ ((β b).2.2 k = -1 ∨ (β b2).2.2 k2 = -1) → ∀ i i2 c : Nat, x = (i : Int) → x2 = (i2 : Int) → m = (c : Int) → (i + c : Int) ≤ (β b).2.2 k → (i2 + c : Int) ≤ (β b2).2.2 k2 → (β b).1 = (β b2).1 → ∀ f1, CS n f1 bn (xui β b2 ((β b2).1, ((fun j => if 30 * k2 + i2 ≤ j ∧ j < 30 * k2 + i2 + c then (β b).2.1 (30 * k + i + (j - (30 * k2 + i2))) else (β b2).2.1 j), (β b2).2.2))) gn σ d as ps pb pu pr → kM f f1 → Q (.inl (some (vI m))) n f1))
    (hx1 : ¬ (((0 ≤ z ∧ z < (bn : Int)) ∧ 0 ≤ w ∧ w < 20) ∧ ((0 ≤ z2 ∧ z2 < (bn : Int)) ∧ 0 ≤ w2 ∧ w2 < 20)) → ∀ n', n ≤ n' → Q (.inr eIOB) n' f) : xct g M_X9_copy 2 12 [vR 0, vI z, vI w, vI x, vI z2, vI w2, vI x2, vI m] n f Q := by
  refine xct_of rfl rfl (Nat.le_of_ble_eq_true rfl) ?_
  obtain ⟨bo, so, tk, rk, h0, hb, hs, hg, ha, hp, hl, ht, hr, h40, hrk, hw, hx⟩ := h
  refine xw_aload_n dX9_copy_0 rfl ?_
  refine xw_iload_n dX9_copy_1 rfl ?_
  refine xw_iload_n dX9_copy_2 rfl ?_
  refine xw_callV (rc := 1) (rs := 6) (mc2 := 1) (ms2 := 6) (a := 0) (As := [vI z, vI w]) (st := []) dX9_copy_3 mv_X9_86 h0 rfl rfl (by decide) (by decide) (Nat.le_of_ble_eq_true rfl) rfl (ct_boxWithRow h0 hb hz hw9 (fun b k e1 e2 e3 e4 => ?_) (fun q => hx1 (fun q2 => q q2.1)))
  subst e1 e2
  have hk := hb.2.2.1 b e3
  have hlk := hk.2.2.2.2.2.1 k e4
  refine xw_astore dX9_copy_6 (by decide) ?_
  refine xw_aload_n dX9_copy_8 rfl ?_
  refine xw_iload dX9_copy_9 rfl ?_
  refine xw_iload dX9_copy_11 rfl ?_
  refine xw_callV (rc := 0) (rs := 0) (mc2 := 1) (ms2 := 6) (a := 0) (As := [vI z2, vI w2]) (st := []) dX9_copy_13 mv_X9_86 h0 rfl rfl (by decide) (by decide) (Nat.le_of_ble_eq_true rfl) rfl (ct_boxWithRow h0 hb hz2 hw2 (fun b2 k2 e5 e6 e7 e8 => ?_) (fun q => hx1 (fun q2 => q q2.2)))
  subst e5 e6
  have hk2 := hb.2.2.1 b2 e7
  have hlk2 := hk2.2.2.2.2.2.1 k2 e8
  obtain ⟨q1, q2, q3, q4⟩ := hq b k b2 k2 rfl rfl rfl rfl e3 e4 e7 e8
  refine xw_astore dX9_copy_16 (by decide) ?_
  refine xw_aload dX9_copy_18 rfl ?_
  refine xw_iload_n dX9_copy_20 rfl ?_
  refine xw_callV (rc := 0) (rs := 0) (mc2 := 0) (ms2 := 0) (a := (bo b)) (As := [vI (k : Int)]) (st := []) dX9_copy_21 mv_X9_94 hk.2.1 rfl rfl (by decide) (by decide) (Nat.le_of_ble_eq_true rfl) rfl (ct_lengthOf hk.2.1 hk.2.2.2.1 e4 ?_)
  refine xw_istore dX9_copy_24 (by decide) ?_
  refine xw_aload dX9_copy_26 rfl ?_
  refine xw_iload dX9_copy_28 rfl ?_
  refine xw_callV (rc := 0) (rs := 0) (mc2 := 0) (ms2 := 0) (a := (bo b2)) (As := [vI (k2 : Int)]) (st := []) dX9_copy_30 mv_X9_94 hk2.2.1 rfl rfl (by decide) (by decide) (Nat.le_of_ble_eq_true rfl) rfl (ct_lengthOf hk2.2.1 hk2.2.2.2.1 e8 ?_)
  refine xw_istore dX9_copy_33 (by decide) ?_
  refine xw_iload dX9_copy_35 rfl ?_
  refine xw_iconst dX9_copy_37 ?_
  refine xw_icmpeq (tgt := 47) dX9_copy_38 (by decide) (by first | assumption | (unfold inI; omega) | (unfold inI at *; omega)) (by first | assumption | (unfold inI; omega) | (unfold inI at *; omega)) (fun c_38 => ?_) (fun c_38 => ?_)
  · skip
    refine xw_iconst dX9_copy_47 ?_
    exact xw_iret dX9_copy_48 rfl (q1 (by omega))
  · skip
    refine xw_iload dX9_copy_41 rfl ?_
    refine xw_iconst dX9_copy_43 ?_
    refine xw_icmpne (tgt := 49) dX9_copy_44 (by decide) (by first | assumption | (unfold inI; omega) | (unfold inI at *; omega)) (by first | assumption | (unfold inI; omega) | (unfold inI at *; omega)) (fun c_44 => ?_) (fun c_44 => ?_)
    · skip
      refine xw_iload_n dX9_copy_49 rfl ?_
      refine xw_iflt (tgt := 82) dX9_copy_50 (by decide) (by first | assumption | (unfold inI; omega) | (unfold inI at *; omega)) (fun c_50 => ?_) (fun c_50 => ?_)
      · skip
        refine xw_bipush (z := -2) dX9_copy_82 (by decide) ?_
        exact xw_iret dX9_copy_84 rfl (q2 (by omega) (by omega))
      · skip
        refine xw_iload dX9_copy_53 rfl ?_
        refine xw_iflt (tgt := 82) dX9_copy_55 (by decide) (by first | assumption | (unfold inI; omega) | (unfold inI at *; omega)) (fun c_55 => ?_) (fun c_55 => ?_)
        · skip
          refine xw_bipush (z := -2) dX9_copy_82 (by decide) ?_
          exact xw_iret dX9_copy_84 rfl (q2 (by omega) (by omega))
        · skip
          refine xw_iload dX9_copy_58 rfl ?_
          refine xw_iflt (tgt := 82) dX9_copy_60 (by decide) (by first | assumption | (unfold inI; omega) | (unfold inI at *; omega)) (fun c_60 => ?_) (fun c_60 => ?_)
          · skip
            refine xw_bipush (z := -2) dX9_copy_82 (by decide) ?_
            exact xw_iret dX9_copy_84 rfl (q2 (by omega) (by omega))
          · skip
            refine xw_iload_n dX9_copy_63 rfl ?_
            refine xw_iload dX9_copy_64 rfl ?_
            refine xw_iload dX9_copy_66 rfl ?_
            refine xw_isub dX9_copy_68 ?_
            refine xw_icmpgt (tgt := 82) dX9_copy_69 (by decide) hx9 (by unfold inI; unfold inI at hm; omega) (fun c_69 => ?_) (fun c_69 => ?_)
            · skip
              refine xw_bipush (z := -2) dX9_copy_82 (by decide) ?_
              exact xw_iret dX9_copy_84 rfl (q2 (by omega) (by omega))
            · skip
              refine xw_iload dX9_copy_72 rfl ?_
              refine xw_iload dX9_copy_74 rfl ?_
              refine xw_iload dX9_copy_76 rfl ?_
              refine xw_isub dX9_copy_78 ?_
              refine xw_icmple (tgt := 85) dX9_copy_79 (by decide) hx2 (by unfold inI; unfold inI at hm; omega) (fun c_79 => ?_) (fun c_79 => ?_)
              · skip
                refine xw_aload dX9_copy_85 rfl ?_
                refine xw_getfield dX9_copy_87 fl_X9_102 hk.2.1 rfl ?_
                refine xw_aload dX9_copy_90 rfl ?_
                refine xw_getfield dX9_copy_92 fl_X9_102 hk2.2.1 rfl ?_
                refine xw_icmpeq (tgt := 101) dX9_copy_95 (by decide) (by have := hk.2.2.2.2.1; unfold inI; omega) (by have := hk2.2.2.2.2.1; unfold inI; omega) (fun c_95 => ?_) (fun c_95 => ?_)
                · skip
                  obtain ⟨i, rfl⟩ : ∃ i : Nat, x = (i : Int) := ⟨x.toNat, by omega⟩
                  obtain ⟨i2, rfl⟩ : ∃ i2 : Nat, x2 = (i2 : Int) := ⟨x2.toNat, by omega⟩
                  obtain ⟨c, rfl⟩ : ∃ c : Nat, m = (c : Int) := ⟨m.toNat, by omega⟩
                  refine xw_aload dX9_copy_101 rfl ?_
                  refine xw_getfield dX9_copy_103 fl_X9_105 hk.2.1 rfl ?_
                  refine xw_iload_n dX9_copy_106 rfl ?_
                  refine xw_bipush (z := 30) dX9_copy_107 (by decide) ?_
                  refine xw_imul dX9_copy_109 ?_
                  refine xw_iload_n dX9_copy_110 rfl ?_
                  refine xw_iadd dX9_copy_111 ?_
                  refine xw_aload dX9_copy_112 rfl ?_
                  refine xw_getfield dX9_copy_114 fl_X9_105 hk2.2.1 rfl ?_
                  refine xw_iload dX9_copy_117 rfl ?_
                  refine xw_bipush (z := 30) dX9_copy_119 (by decide) ?_
                  refine xw_imul dX9_copy_121 ?_
                  refine xw_iload dX9_copy_122 rfl ?_
                  refine xw_iadd dX9_copy_124 ?_
                  refine xw_iload dX9_copy_125 rfl ?_
                  refine xw_stk ([vI (c : Int), vI ((30 * k2 + i2 : Nat) : Int), vR (bo b2 + 1), vI ((30 * k + i : Nat) : Int), vR (bo b + 1)]) (by rw [show ((30 * k2 + i2 : Nat) : Int) = (k2 : Int) * 30 + (i2 : Int) by omega, show ((30 * k + i : Nat) : Int) = (k : Int) * 30 + (i : Int) by omega]; rfl) ?_
                  refine xw_copyL (a0 := bo b + 1) (a := bo b2 + 1) (sp := 30 * k + i) (dp := 30 * k2 + i2) (k := c) (n0 := 600) (n1 := 600) dX9_copy_127 cp_1 cp_2 cp_3 cp_4 hk.2.2.1 hk2.2.2.1 (by omega) (by omega) (by decide) (by decide) (by decide) (by decide) ?_
                  refine xw_iload dX9_copy_130 rfl ?_
                  exact xw_iret dX9_copy_132 rfl (q4 (by omega) i i2 c rfl rfl rfl (by omega) (by omega) (by omega) _ (CS_bx (bo1 := bo) (n := n) (f := f) (tk := tk) (rk := rk) ((xup_n _ _ (by omega)).trans h0) (bxs_up hb e7 (xup_n _ _ (by omega)) rfl ⟨hk2.2.2.2.2.1, hk2.2.2.2.2.2.1, fun j hj => by
                      show inL (if 30 * k2 + i2 ≤ j ∧ j < 30 * k2 + i2 + c then (β b).2.1 (30 * k + i + (j - (30 * k2 + i2))) else (β b2).2.1 j)
                      split
                      · exact hk.2.2.2.2.2.2 _ (by omega)
                      · exact hk2.2.2.2.2.2.2 j hj⟩ (xup_n _ _ (by omega)) (xup_s _ _ _) ((xup_n _ _ (by omega)).trans hk2.2.2.2.1) (fun k9 q1 q2 q3 => xup_n _ _ q2)) hs hg ha hp hl ht hr h40 hrk (wf_up hw (wf_ne hw hk2.2.2.1)) hx (fun k9 q1 q2 => xup_n _ _ (by omega)) (fun k9 e q1 q2 q3 => (xup_n _ _ (fun q => by rw [q, hk2.2.2.1] at q2; rw [← Option.some.inj q2] at q3; exact no600 q3)).trans q2)) (fun k9 e q1 q2 q3 => (xup_n _ _ (by omega)).trans q3))
                · skip
                  refine xw_bipush (z := -3) dX9_copy_98 (by decide) ?_
                  exact xw_iret dX9_copy_100 rfl (q3 (by omega) (by omega) (by omega))
              · skip
                refine xw_bipush (z := -2) dX9_copy_82 (by decide) ?_
                exact xw_iret dX9_copy_84 rfl (q2 (by omega) (by omega))
    · skip
      refine xw_iconst dX9_copy_47 ?_
      exact xw_iret dX9_copy_48 rfl (q1 (by omega))
end C68
