/-! the stick asked for, its crossings, the remedy -/
theorem lst_up {n : Nat} {f : xH} {sz a : Nat} {L : Nat → xC7} {e e0 : xE} (h : lst n f sz L) (ha : f a = some e0) (h0 : ∀ c, e0 ≠ oCr c) (h21 : a ≠ 21) : lst n (xup f a e) sz L := by
  obtain ⟨rw0, g21, hinj, hall, hrow⟩ := h
  have hk : ∀ {b : Nat} {c : xC7}, f b = some (oCr c) → xup f a e b = some (oCr c) := by
    intro b c hb
    exact (xup_n _ _ (fun q => by rw [q, ha] at hb; exact h0 c (Option.some.inj hb))).trans hb
  exact ⟨rw0, (xup_n _ _ (Ne.symm h21)).trans g21, hinj, fun i b hi hb => by obtain ⟨c, hc⟩ := hall i b hi hb; exact ⟨c, hk hc⟩, fun j hj => by obtain ⟨b, h1, h2⟩ := hrow j hj; exact ⟨b, h1, hk h2⟩⟩
theorem lst_0 {n : Nat} {f : xH} {sz : Nat} {L : Nat → xC7} (h : lst n f sz L) (L1 : Nat → xC7) : lst n f 0 L1 := by
  obtain ⟨rw0, g21, hinj, hall, hrow⟩ := h
  exact ⟨rw0, g21, hinj, hall, fun j hj => absurd hj (Nat.not_lt_zero j)⟩
theorem frD_20 {f : xH} {e : xE} : frD f (xup f 20 e) := fun k e9 he _ _ c _ _ => (xup_n _ _ c).trans he
def lsOf (d : Nat → Int) (gn : Nat) (σ : Nat → xSt) (s sz : Nat) (L : Nat → xC7) : Prop := sz = (clist d gn σ s).1 ∧ ∀ j, j < sz → L j = (clist d gn σ s).2 j
def lsA (n : Nat) (f : xH) (gn : Nat) (σ : Nat → xSt) (d : Nat → Int) : Prop := ∃ sz ow L, f 20 = some (oLs sz ow) ∧ lst n f sz L ∧ sz ≤ 156 ∧ okL (sz, L) ∧ (ow = -1 ∨ ∃ s : Nat, ow = (s : Int) ∧ s < gn ∧ hrS (σ s) = 1 ∧ lsOf d gn σ s sz L)
section C64
variable {g : xG} {y : xM} {Q : xP} {n : Nat} {f : xH}
set_option maxHeartbeats 4000000 in
theorem ct_stickOnTable {bn on tk rk pu z : Int} {gn : Nat} {so : Nat → Nat} {σ : Nat → xSt} (h0 : f 0 = some (oTb bn gn on tk rk pu)) (hs : stk f gn so σ) (hz : inI z) (h1 : ∀ s : Nat, z = (s : Int) → s < gn → hrS (σ s) = 1 → Q (.inl (some (vR (so s)))) n f) (hx : ¬ hre gn σ z → ∀ n', n ≤ n' → Q (.inr eNSE) n' f) : xct g M_X9_stickOnTable 1 6 [vR 0, vI z] n f Q := by
  refine xct_of rfl rfl (Nat.le_of_ble_eq_true rfl) ?_
  refine xw_aload_n dX9_stickOnTable_0 rfl ?_
  refine xw_iload_n dX9_stickOnTable_1 rfl ?_
  refine xw_callV (rc := 1) (rs := 6) (mc2 := 0) (ms2 := 0) (a := 0) (As := [vI z]) (st := []) dX9_stickOnTable_2 mv_X9_229 h0 rfl rfl (by decide) (by decide) (Nat.le_of_ble_eq_true rfl) rfl (ct_isHere h0 hs hz (fun s e1 e2 e3 => ?_) (fun hn => ?_))
  · skip
    refine xw_ifne (tgt := 19) dX9_stickOnTable_5 (by decide) (by unfold inI; omega) (fun _ => ?_) (fun c => absurd c (by decide))
    subst e1
    refine xw_aload_n dX9_stickOnTable_19 rfl ?_
    refine xw_getfield dX9_stickOnTable_20 fl_X9_17 h0 rfl ?_
    refine xw_iload_n dX9_stickOnTable_23 rfl ?_
    refine xw_aald dX9_stickOnTable_24 hs.1 rfl (j := s) rfl (by have := hs.2.1; omega) (by decide) ?_
    refine xw_topr (so s) (if_pos e2) ?_
    exact xw_aret dX9_stickOnTable_25 rfl (h1 s rfl e2 e3)
  · skip
    refine xw_ifne (tgt := 19) dX9_stickOnTable_5 (by decide) (by unfold inI; omega) (fun c => absurd c (by decide)) (fun _ => ?_)
    exact xw_throwN (rc := 0) (rs := 0) rfl nse_1 nse_2 nse_3 rfl dX9_stickOnTable_8 dX9_stickOnTable_11 dX9_stickOnTable_12 dX9_stickOnTable_15 dX9_stickOnTable_18 (by decide) (by decide) (hx hn)
set_option maxHeartbeats 8000000 in
theorem ct_crossingsOf {bn on tk rk pu z : Int} {gn : Nat} {so : Nat → Nat} {σ : Nat → xSt} {d : Nat → Int} (h0 : f 0 = some (oTb bn gn on tk rk pu)) (hs : stk f gn so σ) (hg : sgt f d) (hl : lsA n f gn σ d) (hw : wf n f) (h40 : hc σ gn ≤ 40) (hz : inI z)
    (hq : ∀ (s n1 : Nat) f1 sz L, z = (s : Int) → s < gn → hrS (σ s) = 1 → n ≤ n1 → wf n1 f1 → frD f f1 → sgt f1 d → f1 20 = some (oLs sz (s : Int)) → lst n1 f1 sz L → sz ≤ 156 → okL (sz, L) → lsOf d gn σ s sz L → Q (.inl (some (vR 20))) n1 f1) (hx : ¬ hre gn σ z → ∀ n', n ≤ n' → Q (.inr eNSE) n' f) : xct g M_X9_crossingsOf 401 2806 [vR 0, vI z] n f Q := by
  refine xct_of rfl rfl (Nat.le_of_ble_eq_true rfl) ?_
  have hgn := hs.2.1
  obtain ⟨sz0, ow, L0, h20, hls, hz0, hok0, how⟩ := hl
  have how2 : inI ow := by
    rcases how with rfl | ⟨s, rfl, h1, _⟩
    · unfold inI; omega
    · unfold inI; omega
  have F : ∀ s : Nat, z = (s : Int) → s < gn → hrS (σ s) = 1 → xw g M_X9_crossingsOf Q 400 2800 5 [(0, vR 0), (1, vI (s : Int))] [vR (so s)] n f := by
    intro s ez hlt hr
    have hks := hs.2.2.1 s hlt
    have O : ∀ (m o n1 : Nat) (f1 : xH) (l1 : xLs), o + m = gn → n ≤ n1 → wf n1 f1 → frD f f1 → sgt f1 d → f1 20 = some (oLs l1.1 ow) → lst n1 f1 l1.1 l1.2 → okL l1 → l1.1 + (if s < o then 4 else 0) ≤ 4 * hc σ o → lcO d σ s m o l1 = clist d gn σ s → xw g M_X9_crossingsOf Q (4 * m) (28 * m) 32 [(0, vR 0), (1, vI (s : Int)), (2, vR (so s)), (3, vI (o : Int))] [] n1 f1 := by
      intro m
      induction m with
      | zero =>
        intro o n1 f1 l1 hm hn1 hw1 hf hg1 e20 hl1 hok1 hB hR
        have e0 : f1 0 = some (oTb bn gn on tk rk pu) := hf _ _ h0 (by omega) (by omega) (by omega) (by omega) (fun c e => by cases e)
        have w20 := wf_ne hw1 e20
        show xw g M_X9_crossingsOf Q 0 0 32 _ [] n1 f1
        obtain rfl : o = gn := by omega
        have hR1 : l1 = clist d o σ s := hR
        have h156 : l1.1 ≤ 156 := by rw [if_pos hlt] at hB; omega
        refine xw_iload_n dX9_crossingsOf_32 rfl ?_
        refine xw_aload_n dX9_crossingsOf_33 rfl ?_
        refine xw_getfield dX9_crossingsOf_34 fl_X9_134 e0 rfl ?_
        refine xw_icmpge (tgt := 71) dX9_crossingsOf_37 (by decide) (by first | assumption | (unfold inI; omega) | (unfold inI at *; omega)) (by first | assumption | (unfold inI; omega) | (unfold inI at *; omega)) (fun c_37 => ?_) (fun c_37 => ?_)
        · skip
          refine xw_aload_n dX9_crossingsOf_71 rfl ?_
          refine xw_getfield dX9_crossingsOf_72 fl_X9_45 e0 rfl ?_
          refine xw_iload_n dX9_crossingsOf_75 rfl ?_
          refine xw_putfield dX9_crossingsOf_76 (fp_X9_348 _) e20 rfl rfl ?_
          rw [fX3_2]
          refine xw_aload_n dX9_crossingsOf_79 rfl ?_
          refine xw_getfield dX9_crossingsOf_80 fl_X9_45 e0 rfl ?_
          exact xw_aret dX9_crossingsOf_83 rfl (hq s n1 _ l1.1 l1.2 ez hlt hr hn1 (wf_up hw1 w20) (frD_tr hf frD_20) (sgt_o hg1 (by decide)) rfl (lst_up hl1 e20 (fun c e => by cases e) (by decide)) h156 hok1 ⟨by rw [hR1], fun j _ => by rw [hR1]⟩)
        · skip
          exfalso; omega
      | succ m ih =>
        intro o n1 f1 l1 hm hn1 hw1 hf hg1 e20 hl1 hok1 hB hR
        have ho : o < gn := by omega
        have e0 : f1 0 = some (oTb bn gn on tk rk pu) := hf _ _ h0 (by omega) (by omega) (by omega) (by omega) (fun c e => by cases e)
        have es : stk f1 gn so σ := stk_frD hs hf
        have ks1 := es.2.2.1 s hlt
        have ko1 := es.2.2.1 o ho
        have hR2 : lcO d σ s m (o + 1) (if o ≠ s ∧ hrS (σ o) = 1 then lcI d (σ s) o (σ o) (pcS (σ s)) 0 l1 else l1) = clist d gn σ s := hR
        have N : ∀ n2 f2 l2, n ≤ n2 → wf n2 f2 → frD f f2 → sgt f2 d → f2 20 = some (oLs l2.1 ow) → lst n2 f2 l2.1 l2.2 → okL l2 → l2.1 + (if s < o + 1 then 4 else 0) ≤ 4 * hc σ (o + 1) → l2 = (if o ≠ s ∧ hrS (σ o) = 1 then lcI d (σ s) o (σ o) (pcS (σ s)) 0 l1 else l1) → xw g M_X9_crossingsOf Q (4 * m) (28 * m) 65 [(0, vR 0), (1, vI (s : Int)), (2, vR (so s)), (3, vI (o : Int))] [] n2 f2 := by
          intro n2 f2 l2 k1 k2 k3 k4 k5 k6 k7 k8 k9
          refine xw_iinc dX9_crossingsOf_65 rfl (by decide) ?_
          refine xw_goto (tgt := 32) dX9_crossingsOf_68 (by decide) ?_
          exact xw_ls [(0, vR 0), (1, vI (s : Int)), (2, vR (so s)), (3, vI ((o + 1 : Nat) : Int))] ⟨rfl, rfl, rfl, rfl, trivial⟩ (ih (o + 1) n2 f2 l2 (by omega) k1 k2 k3 k4 k5 k6 k7 k8 (by rw [k9]; exact hR2))
        show xw g M_X9_crossingsOf Q (4 * m + 4) (28 * m + 28) 32 _ [] n1 f1
        refine xw_iload_n dX9_crossingsOf_32 rfl ?_
        refine xw_aload_n dX9_crossingsOf_33 rfl ?_
        refine xw_getfield dX9_crossingsOf_34 fl_X9_134 e0 rfl ?_
        refine xw_icmpge (tgt := 71) dX9_crossingsOf_37 (by decide) (by first | assumption | (unfold inI; omega) | (unfold inI at *; omega)) (by first | assumption | (unfold inI; omega) | (unfold inI at *; omega)) (fun c_37 => ?_) (fun c_37 => ?_)
        · skip
          exfalso; omega
        · skip
          refine xw_iload_n dX9_crossingsOf_40 rfl ?_
          refine xw_iload_n dX9_crossingsOf_41 rfl ?_
          refine xw_icmpeq (tgt := 65) dX9_crossingsOf_42 (by decide) (by first | assumption | (unfold inI; omega) | (unfold inI at *; omega)) (by first | assumption | (unfold inI; omega) | (unfold inI at *; omega)) (fun c_42 => ?_) (fun c_42 => ?_)
          · skip
            first
              | exact xw_ls [(0, vR 0), (1, vI (s : Int)), (2, vR (so s)), (3, vI (o : Int))] ⟨rfl, rfl, rfl, rfl, trivial⟩ (N n2 f2 l2 (by omega) k2 (frD_tr hf k3) k4 k6 k7 k8 (by
                  rw [h1]
                  by_cases e : s < o
                  · rw [if_pos (by omega)]; rw [if_pos e] at hB; omega
                  · rw [if_neg (by omega)]; rw [if_neg e] at hB; omega) (by rw [if_pos ⟨hne, hr2⟩]; exact k5))
              | exact xw_room (Nat.le_add_right _ _) (Nat.le_add_right _ _) (xw_ls [(0, vR 0), (1, vI (s : Int)), (2, vR (so s)), (3, vI (o : Int))] ⟨rfl, rfl, rfl, rfl, trivial⟩ (N n1 f1 l1 hn1 hw1 hf hg1 e20 hl1 hok1 (by
                  have hc0 := hc_0 (σ := σ) (s := o) (fun q => hn ⟨o, rfl, ho, q⟩)
                  have hne : o ≠ s := fun e => hn ⟨o, rfl, ho, by rw [e]; exact hr⟩
                  rw [hc0]
                  by_cases e : s < o
                  · rw [if_pos (by omega)]; rw [if_pos e] at hB; omega
                  · rw [if_neg (by omega)]; rw [if_neg e] at hB; omega) (by rw [if_neg (fun q => hn ⟨o, rfl, ho, q.2⟩)])))
              | exact xw_room (Nat.le_add_right _ _) (Nat.le_add_right _ _) (xw_ls [(0, vR 0), (1, vI (s : Int)), (2, vR (so s)), (3, vI (o : Int))] ⟨rfl, rfl, rfl, rfl, trivial⟩ (N n1 f1 l1 hn1 hw1 hf hg1 e20 hl1 hok1 (by
                  have e9 : o = s := by omega
                  subst e9
                  have h1 := hc_1 hr
                  rw [h1, if_pos (by omega)]
                  rw [if_neg (by omega)] at hB
                  omega) (by rw [if_neg (fun q => q.1 (by omega))])))
          · skip
            refine xw_aload_n dX9_crossingsOf_45 rfl ?_
            refine xw_iload_n dX9_crossingsOf_46 rfl ?_
            refine xw_callV (rc := 4 * m + 4) (rs := 28 * m + 28) (mc2 := 0) (ms2 := 0) (a := 0) (As := [vI (o : Int)]) (st := []) dX9_crossingsOf_47 mv_X9_229 e0 rfl rfl (by decide) (by decide) (Nat.le_of_ble_eq_true rfl) rfl (ct_isHere e0 es (by unfold inI; omega) (fun t ht hlt2 hr2 => ?_) (fun hn => ?_))
            · skip
              refine xw_ifeq (tgt := 65) dX9_crossingsOf_50 (by decide) (by unfold inI; omega) (fun c => absurd c (by decide)) (fun _ => ?_)
              obtain rfl : o = t := by omega
              have hne : o ≠ s := fun e => c_42 (by omega)
              have h1 := hc_1 hr2
              have hcap : l1.1 + 4 ≤ 156 := by
                by_cases e : s < o
                · rw [if_pos e] at hB
                  have := hc_le (σ := σ) (show o + 1 ≤ gn by omega)
                  omega
                · have h2 := hc_lt (show o < s by omega) hr2
                  have h3 := hc_lt hlt hr
                  rw [if_neg e] at hB
                  omega
              refine xw_aload_n dX9_crossingsOf_53 rfl ?_
              refine xw_aload_n dX9_crossingsOf_54 rfl ?_
              refine xw_iload_n dX9_crossingsOf_55 rfl ?_
              refine xw_aload_n dX9_crossingsOf_56 rfl ?_
              refine xw_getfield dX9_crossingsOf_57 fl_X9_17 e0 rfl ?_
              refine xw_iload_n dX9_crossingsOf_60 rfl ?_
              refine xw_aald dX9_crossingsOf_61 es.1 rfl (j := o) rfl (by omega) (by decide) ?_
              refine xw_topr (so o) (if_pos ho) ?_
              refine xw_callV (rc := 4 * m) (rs := 28 * m) (mc2 := 4) (ms2 := 28) (a := 0) (As := [vR (so s), vI (o : Int), vR (so o)]) (st := []) dX9_crossingsOf_62 mv_X9_376 e0 rfl rfl (by decide) (by decide) (Nat.le_of_ble_eq_true rfl) rfl (ct_listCrossings e0 hg1 ks1.2.1 ks1.2.2.1 ko1.2.1 ko1.2.2.1 ks1.1 ko1.1 ks1.2.2.2.2.2.2.2 ko1.2.2.2.2.2.2.2 e20 hl1 hw1 hok1 (by omega) hcap (fun n2 f2 l2 k1 k2 k3 k4 k5 k6 k7 k8 k9 => ?_))
              first
                | exact xw_ls [(0, vR 0), (1, vI (s : Int)), (2, vR (so s)), (3, vI (o : Int))] ⟨rfl, rfl, rfl, rfl, trivial⟩ (N n2 f2 l2 (by omega) k2 (frD_tr hf k3) k4 k6 k7 k8 (by
                    rw [h1]
                    by_cases e : s < o
                    · rw [if_pos (by omega)]; rw [if_pos e] at hB; omega
                    · rw [if_neg (by omega)]; rw [if_neg e] at hB; omega) (by rw [if_pos ⟨hne, hr2⟩]; exact k5))
                | exact xw_room (Nat.le_add_right _ _) (Nat.le_add_right _ _) (xw_ls [(0, vR 0), (1, vI (s : Int)), (2, vR (so s)), (3, vI (o : Int))] ⟨rfl, rfl, rfl, rfl, trivial⟩ (N n1 f1 l1 hn1 hw1 hf hg1 e20 hl1 hok1 (by
                    have hc0 := hc_0 (σ := σ) (s := o) (fun q => hn ⟨o, rfl, ho, q⟩)
                    have hne : o ≠ s := fun e => hn ⟨o, rfl, ho, by rw [e]; exact hr⟩
                    rw [hc0]
                    by_cases e : s < o
                    · rw [if_pos (by omega)]; rw [if_pos e] at hB; omega
                    · rw [if_neg (by omega)]; rw [if_neg e] at hB; omega) (by rw [if_neg (fun q => hn ⟨o, rfl, ho, q.2⟩)])))
                | exact xw_room (Nat.le_add_right _ _) (Nat.le_add_right _ _) (xw_ls [(0, vR 0), (1, vI (s : Int)), (2, vR (so s)), (3, vI (o : Int))] ⟨rfl, rfl, rfl, rfl, trivial⟩ (N n1 f1 l1 hn1 hw1 hf hg1 e20 hl1 hok1 (by
                    have e9 : o = s := by omega
                    subst e9
                    have h1 := hc_1 hr
                    rw [h1, if_pos (by omega)]
                    rw [if_neg (by omega)] at hB
                    omega) (by rw [if_neg (fun q => q.1 (by omega))])))
            · skip
              refine xw_ifeq (tgt := 65) dX9_crossingsOf_50 (by decide) (by unfold inI; omega) (fun _ => ?_) (fun c => absurd c (by decide))
              first
                | exact xw_ls [(0, vR 0), (1, vI (s : Int)), (2, vR (so s)), (3, vI (o : Int))] ⟨rfl, rfl, rfl, rfl, trivial⟩ (N n2 f2 l2 (by omega) k2 (frD_tr hf k3) k4 k6 k7 k8 (by
                    rw [h1]
                    by_cases e : s < o
                    · rw [if_pos (by omega)]; rw [if_pos e] at hB; omega
                    · rw [if_neg (by omega)]; rw [if_neg e] at hB; omega) (by rw [if_pos ⟨hne, hr2⟩]; exact k5))
                | exact xw_room (Nat.le_add_right _ _) (Nat.le_add_right _ _) (xw_ls [(0, vR 0), (1, vI (s : Int)), (2, vR (so s)), (3, vI (o : Int))] ⟨rfl, rfl, rfl, rfl, trivial⟩ (N n1 f1 l1 hn1 hw1 hf hg1 e20 hl1 hok1 (by
                    have hc0 := hc_0 (σ := σ) (s := o) (fun q => hn ⟨o, rfl, ho, q⟩)
                    have hne : o ≠ s := fun e => hn ⟨o, rfl, ho, by rw [e]; exact hr⟩
                    rw [hc0]
                    by_cases e : s < o
                    · rw [if_pos (by omega)]; rw [if_pos e] at hB; omega
                    · rw [if_neg (by omega)]; rw [if_neg e] at hB; omega) (by rw [if_neg (fun q => hn ⟨o, rfl, ho, q.2⟩)])))
                | exact xw_room (Nat.le_add_right _ _) (Nat.le_add_right _ _) (xw_ls [(0, vR 0), (1, vI (s : Int)), (2, vR (so s)), (3, vI (o : Int))] ⟨rfl, rfl, rfl, rfl, trivial⟩ (N n1 f1 l1 hn1 hw1 hf hg1 e20 hl1 hok1 (by
                    have e9 : o = s := by omega
                    subst e9
                    have h1 := hc_1 hr
                    rw [h1, if_pos (by omega)]
                    rw [if_neg (by omega)] at hB
                    omega) (by rw [if_neg (fun q => q.1 (by omega))])))
    have w20 := wf_ne hw h20
    refine xw_astore_n dX9_crossingsOf_5 (by decide) ?_
    refine xw_aload_n dX9_crossingsOf_6 rfl ?_
    refine xw_getfield dX9_crossingsOf_7 fl_X9_45 h0 rfl ?_
    refine xw_getfield dX9_crossingsOf_10 fl_X9_348 h20 rfl ?_
    refine xw_iload_n dX9_crossingsOf_13 rfl ?_
    refine xw_icmpne (tgt := 22) dX9_crossingsOf_14 (by decide) (by exact how2) (by unfold inI; omega) (fun c_14 => ?_) (fun c_14 => ?_)
    · skip
      refine xw_aload_n dX9_crossingsOf_22 rfl ?_
      refine xw_getfield dX9_crossingsOf_23 fl_X9_45 h0 rfl ?_
      refine xw_iconst dX9_crossingsOf_26 ?_
      refine xw_putfield dX9_crossingsOf_27 (fp_X9_243 _) h20 rfl rfl ?_
      rw [fX3_1]
      refine xw_iconst dX9_crossingsOf_30 ?_
      refine xw_istore_n dX9_crossingsOf_31 (by decide) ?_
      refine xw_room (rc' := 4 * gn) (rs' := 28 * gn) (by omega) (by omega) ?_
      exact xw_ls [(0, vR 0), (1, vI (s : Int)), (2, vR (so s)), (3, vI ((0 : Nat) : Int))] ⟨rfl, rfl, rfl, rfl, trivial⟩ (O gn 0 n _ (0, fun _ => c00) (by omega) (Nat.le_refl _) (wf_up hw w20) frD_20 (sgt_o hg (by decide)) rfl (lst_0 (lst_up hls h20 (fun c e => by cases e) (by decide)) _) (fun j hj => absurd hj (Nat.not_lt_zero j)) (by rw [if_neg (by omega)]; exact Nat.zero_le _) rfl)
    · skip
      refine xw_aload_n dX9_crossingsOf_17 rfl ?_
      refine xw_getfield dX9_crossingsOf_18 fl_X9_45 h0 rfl ?_
      exact xw_aret dX9_crossingsOf_21 rfl (by
          rcases how with rfl | ⟨s9, rfl, h1, h2, h3⟩
          · omega
          · obtain rfl : s9 = s := by omega
            exact hq s9 n f sz0 L0 ez hlt hr (Nat.le_refl _) hw (frD_rf f) hg h20 hls hz0 hok0 h3)
  refine xw_aload_n dX9_crossingsOf_0 rfl ?_
  refine xw_iload_n dX9_crossingsOf_1 rfl ?_
  refine xw_callV (rc := 400) (rs := 2800) (mc2 := 1) (ms2 := 6) (a := 0) (As := [vI z]) (st := []) dX9_crossingsOf_2 mv_X9_149 h0 rfl rfl (by decide) (by decide) (Nat.le_of_ble_eq_true rfl) rfl (ct_stickOnTable h0 hs hz (fun s e1 e2 e3 => ?_) hx)
  subst e1
  exact F s rfl e2 e3
set_option maxHeartbeats 4000000 in
theorem ct_remedyFor {bn gnI on tk rk pu : Int} {gn : Nat} {σ : Nat → xSt} {d : Nat → Int} (h0 : f 0 = some (oTb bn gnI on tk rk pu)) (ht : tgM f gn σ d rk) (hrk : rk = 0 ∨ rk = 1) (hwo : ∀ s, s < gn → okK (σ s))
    (hq : ∀ f1, fr [0, 32, 33, 34, 35, 36] f f1 → f1 0 = some (oTb bn gnI on tk 1 pu) → tgM f1 gn σ d 1 → Q (.inl (some (vR 32))) n f1) : xct g M_X9_remedyFor 0 0 [vR 0, vR 22] n f Q := by
  refine xct_of rfl rfl (Nat.le_of_ble_eq_true rfl) ?_
  rcases hrk with rfl | rfl
  · obtain ⟨sz, ls, kc, c, w, av, bv, rv, lf, ly, ks, wv, N, hH, hB, hG9, hR9, rw9, rp, h9, hp, hw, ha, sw, ⟨r32, r33, r34, r35, r36⟩, _⟩ := ht
    obtain ⟨h22, h23, h24, h25, h26, h27, h28, h29, h30, h31⟩ := id hH
    obtain ⟨hR1, hR2, ks0, hkc, hks⟩ := id hR9
    have hk := kns_ok rv sz sz 0 0 0 ks0 (by decide) (fun j hj => absurd hj (Nat.not_lt_zero j))
    obtain ⟨kn, hkn⟩ : ∃ kn : Nat, kn = (kns rv sz sz 0 0 0 ks0).1 := ⟨_, rfl⟩
    rw [← hkn, ← hks] at hk
    rw [← hkn] at hkc
    have h22' : f 22 = some (oTg sz ls (kn : Int)) := by rw [← hkc]; exact h22
    refine xw_aload_n dX9_remedyFor_0 rfl ?_
    refine xw_getfield dX9_remedyFor_1 fl_X9_345 h0 rfl ?_
    refine xw_ifne (tgt := 20) dX9_remedyFor_4 (by decide) (by unfold inI; omega) (fun c_4 => ?_) (fun c_4 => ?_)
    · skip
      exact absurd rfl c_4
    · skip
      refine xw_aload_n dX9_remedyFor_7 rfl ?_
      refine xw_getfield dX9_remedyFor_8 fl_X9_59 h0 rfl ?_
      refine xw_aload_n dX9_remedyFor_11 rfl ?_
      refine xw_callV (rc := 0) (rs := 0) (mc2 := 0) (ms2 := 0) (a := 32) (As := [vR 22]) (st := []) dX9_remedyFor_12 mv_X9_372 r32 rfl rfl (by decide) (by decide) (Nat.le_of_ble_eq_true rfl) rfl (ct_find h22' h24 h25 h30 r32 r33 r34 r35 r36 hG9.2.1 hk.1 hk.2 (fun j hj => (hB.1 j (by have := hG9.2.1; omega)).1) (fun j hj => by have q := hG9.2.2.1 j hj; rw [q.2.2.2.2]; have := (hwo (N j) q.1).2.2.1; omega) (fun f1 hp1 hw1 ha1 sw1 h1 r hr hf1 i32 i33 i34 i35 i36 => ?_))
      have i0 : f1 0 = some (oTb bn gnI on tk 0 pu) := fr_at hf1 h0 (by decide)
      refine xw_aload_n dX9_remedyFor_15 rfl ?_
      refine xw_iconst dX9_remedyFor_16 ?_
      refine xw_putfield dX9_remedyFor_17 (fp_X9_345 _) i0 rfl rfl ?_
      rw [fX9_12]
      refine xw_aload_n dX9_remedyFor_20 rfl ?_
      refine xw_getfield dX9_remedyFor_21 fl_X9_59 rfl rfl ?_
      exact xw_aret dX9_remedyFor_24 rfl (hq _ (fr_up (fr_sub hf1 (fun k9 hk9 => List.mem_cons_of_mem _ hk9)) (by decide)) rfl ⟨sz, ls, kc, c, w, av, bv, rv, lf, ly, ks, wv, N, tgH_fr hH (fun k9 a9 b9 => (xup_n _ _ (by omega)).trans (hf1 k9 (fun q => by simp only [List.mem_cons, List.not_mem_nil, or_false] at q; omega))), hB, hG9, hR9, r.1, (r.2 : Int), h1, hp1, hw1, ha1, sw1, ⟨i32, i33, i34, i35, i36⟩, Or.inr ⟨rfl, by rw [hkc, Int.toNat_natCast, hr], by rw [hkc, Int.toNat_natCast, hr]⟩⟩)
  · skip
    refine xw_aload_n dX9_remedyFor_0 rfl ?_
    refine xw_getfield dX9_remedyFor_1 fl_X9_345 h0 rfl ?_
    refine xw_ifne (tgt := 20) dX9_remedyFor_4 (by decide) (by unfold inI; omega) (fun c_4 => ?_) (fun c_4 => ?_)
    · skip
      refine xw_aload_n dX9_remedyFor_20 rfl ?_
      refine xw_getfield dX9_remedyFor_21 fl_X9_59 h0 rfl ?_
      exact xw_aret dX9_remedyFor_24 rfl (hq f (fr_rf _ f) h0 ht)
    · skip
      exact absurd c_4 (by decide)
end C64
