/-! the crossings of a stick are listed -/
abbrev xLs : Type := Nat × (Nat → xC7)
def insT (c : xC7) (l : xLs) : xLs := (l.1 + 1, insL l.2 (insP c l.2 l.1) c)
noncomputable def lcP (d : Nat → Int) (X : xSt) (num : Nat) (Y : xSt) (i j : Nat) (l : xLs) : xLs := @ite _ (seB d X i Y j) (Classical.propDecidable _) (insT (crOf (i : Int) (num : Int) (j : Int) (seV d X i Y j)) l) l
theorem lcP_y {d : Nat → Int} {X : xSt} {num : Nat} {Y : xSt} {i j : Nat} {l : xLs} (h : seB d X i Y j) : lcP d X num Y i j l = insT (crOf (i : Int) (num : Int) (j : Int) (seV d X i Y j)) l := if_pos h
theorem lcP_n {d : Nat → Int} {X : xSt} {num : Nat} {Y : xSt} {i j : Nat} {l : xLs} (h : ¬ seB d X i Y j) : lcP d X num Y i j l = l := if_neg h
noncomputable def lcJ (d : Nat → Int) (X : xSt) (num : Nat) (Y : xSt) (i : Nat) : Nat → Nat → xLs → xLs
  | 0, _, l => l
  | m + 1, j, l => lcJ d X num Y i m (j + 1) (lcP d X num Y i j l)
noncomputable def lcI (d : Nat → Int) (X : xSt) (num : Nat) (Y : xSt) : Nat → Nat → xLs → xLs
  | 0, _, l => l
  | m + 1, i, l => lcI d X num Y m (i + 1) (lcJ d X num Y i (pcS Y) 0 l)
noncomputable def lcO (d : Nat → Int) (σ : Nat → xSt) (s : Nat) : Nat → Nat → xLs → xLs
  | 0, _, l => l
  | m + 1, o, l => lcO d σ s m (o + 1) (if o ≠ s ∧ hrS (σ o) = 1 then lcI d (σ s) o (σ o) (pcS (σ s)) 0 l else l)
abbrev c00 : xC7 := (0, (0, (0, (0, (0, (0, 0))))))
noncomputable def clist (d : Nat → Int) (gn : Nat) (σ : Nat → xSt) (s : Nat) : xLs := lcO d σ s gn 0 (0, fun _ => c00)
def okW (c : xC7) : Prop := (inI c.1 ∧ inI c.2.1 ∧ inI c.2.2.1) ∧ okV (0, c.2.2.2)
theorem okW_C {c : xC7} (h : okW c) : okC c := by
  obtain ⟨h1, ⟨h2, h3⟩, ⟨h4, h5⟩, _⟩ := h
  exact ⟨h1, nb_prt (b := c.2.2.2.2.1) ⟨h2, h3⟩ h5, h5⟩
def okL (l : xLs) : Prop := ∀ j, j < l.1 → okW (l.2 j)
theorem okL_ins {c : xC7} {l : xLs} (h : okL l) (hc : okW c) : okL (insT c l) := by
  intro j hj
  show okW (insL l.2 (insP c l.2 l.1) c j)
  have hj' : j < l.1 + 1 := hj
  have hp := insP_le c l.2 l.1
  unfold insL
  by_cases e1 : j < insP c l.2 l.1
  · rw [if_pos e1]; exact h j (by omega)
  · rw [if_neg e1]
    by_cases e2 : j = insP c l.2 l.1
    · rw [if_pos e2]; exact hc
    · rw [if_neg e2]; exact h (j - 1) (by omega)
/-- what lies elsewhere is kept -/
def frD (f f1 : xH) : Prop := ∀ k e, f k = some e → k ≠ 3 → ¬ (5 ≤ k ∧ k ≤ 11) → k ≠ 20 → k ≠ 21 → (∀ c, e ≠ oCr c) → f1 k = some e
theorem frD_rf (f : xH) : frD f f := fun _ _ h _ _ _ _ _ => h
theorem frD_tr {f f1 f2 : xH} (h : frD f f1) (h2 : frD f1 f2) : frD f f2 := fun k e he a b c d e9 => h2 k e (h k e he a b c d e9) a b c d e9
theorem frD_C {f f1 : xH} (h : frC f f1) : frD f f1 := fun k e he _ _ c d e9 => h k e he c d e9
theorem frD_see {f f1 : xH} (h : ∀ k, k ≠ 3 → (k < 5 ∨ 11 < k) → f1 k = f k) : frD f f1 := fun k e he a b _ _ _ => (h k a (by omega)).trans he
theorem stk_frD {f f1 : xH} {gn : Nat} {so : Nat → Nat} {σ : Nat → xSt} (h : stk f gn so σ) (hf : frD f f1) : stk f1 gn so σ :=
  ⟨hf 2 _ h.1 (by decide) (by omega) (by decide) (by decide) (fun c e => by cases e), h.2.1, fun s hs => by
    have hk := h.2.2.1 s hs
    exact ⟨hk.1, hf _ _ hk.2.1 (by omega) (by omega) (by omega) (by omega) (fun c e => by cases e), hf _ _ hk.2.2.1 (by omega) (by omega) (by omega) (by omega) (fun c e => by cases e), hk.2.2.2⟩, h.2.2.2⟩
theorem bxs_frD {f f1 : xH} {bn : Nat} {bo : Nat → Nat} {β : Nat → xBx} (h : bxs f bn bo β) (hf : frD f f1) : bxs f1 bn bo β :=
  ⟨hf 1 _ h.1 (by decide) (by omega) (by decide) (by decide) (fun c e => by cases e), h.2.1, fun s hs => by
    have hk := h.2.2.1 s hs
    exact ⟨hk.1, hf _ _ hk.2.1 (by omega) (by omega) (by omega) (by omega) (fun c e => by cases e), hf _ _ hk.2.2.1 (by omega) (by omega) (by omega) (by omega) (fun c e => by cases e), hf _ _ hk.2.2.2.1 (by omega) (by omega) (by omega) (by omega) (fun c e => by cases e), hk.2.2.2.2⟩, h.2.2.2⟩
theorem sgt_frC {f f1 : xH} {d : Nat → Int} (h : sgt f d) (hf : frC f f1) : sgt f1 d := by
  obtain ⟨s, h3, h4, h5, h6, h7, h8⟩ := h
  refine ⟨s, hf 3 _ h3 (by decide) (by decide) (fun c e => by cases e), hf 4 _ h4 (by decide) (by decide) (fun c e => by cases e), fun j j1 j2 => ?_, h6, h7, h8⟩
  obtain ⟨v, hv⟩ := h5 j j1 j2
  exact ⟨v, hf j _ hv (by omega) (by omega) (fun c e => by cases e)⟩
theorem lst_see {n : Nat} {f f2 : xH} {sz : Nat} {L : Nat → xC7} {d : Nat → Int} (h : lst n f sz L) (hg : sgt f d) (hf : ∀ k, k ≠ 3 → (k < 5 ∨ 11 < k) → f2 k = f k) : lst n f2 sz L := by
  obtain ⟨rw0, h21, hinj, hall, hrow⟩ := h
  obtain ⟨s, h3, _, h5, _⟩ := hg
  have hk : ∀ {a : Nat} {c : xC7}, f a = some (oCr c) → f2 a = some (oCr c) := by
    intro a c ha
    refine (hf a (fun e => by rw [e, h3] at ha; cases ha) ?_).trans ha
    rcases Nat.lt_or_ge a 5 with h | h
    · exact Or.inl h
    · rcases Nat.lt_or_ge 11 a with h1 | h1
      · exact Or.inr h1
      · obtain ⟨v, hv⟩ := h5 a h h1
        rw [hv] at ha; cases ha
  exact ⟨rw0, (hf 21 (by decide) (by omega)).trans h21, hinj, fun i a hi ha => by obtain ⟨c, hc⟩ := hall i a hi ha; exact ⟨c, hk hc⟩, fun j hj => by obtain ⟨a, h1, h2⟩ := hrow j hj; exact ⟨a, h1, hk h2⟩⟩
theorem wf_see {n : Nat} {f f2 : xH} {d : Nat → Int} (h : wf n f) (hg : sgt f d) (hf : ∀ k, k ≠ 3 → (k < 5 ∨ 11 < k) → f2 k = f k) : wf n f2 := by
  obtain ⟨s, h3, _, h5, _⟩ := hg
  obtain ⟨v, hv⟩ := h5 11 (by decide) (by decide)
  have h1 := wf_ne h h3
  have h2 := wf_ne h hv
  intro k hk
  rw [hf k (by omega) (by omega)]
  exact h k hk
section C63
variable {g : xG} {y : xM} {Q : xP} {n : Nat} {f : xH}
set_option maxHeartbeats 8000000 in
theorem ct_listCrossings {bn gn on tk rk pu ow : Int} {num oa ob : Nat} {d : Nat → Int} {X Y : xSt} {l : xLs} (h0 : f 0 = some (oTb bn gn on tk rk pu)) (hg : sgt f d) (ha : f oa = some (oSk X (oa + 1))) (hap : f (oa + 1) = some (aI 9 (ptS X))) (hb : f ob = some (oSk Y (ob + 1))) (hbp : f (ob + 1) = some (aI 9 (ptS Y))) (la : 79 ≤ oa) (lb : 79 ≤ ob) (hX : ∀ j, j < 9 → nr (ptS X j)) (hY : ∀ j, j < 9 → nr (ptS Y j)) (h20 : f 20 = some (oLs l.1 ow)) (hl : lst n f l.1 l.2) (hw : wf n f) (hok : okL l) (hnum : num < 100) (hsz : l.1 + 4 ≤ 156)
    (hq : ∀ n1 f1 l1, n ≤ n1 → wf n1 f1 → frD f f1 → sgt f1 d → l1 = lcI d X num Y (pcS X) 0 l → f1 20 = some (oLs l1.1 ow) → lst n1 f1 l1.1 l1.2 → okL l1 → l1.1 ≤ l.1 + 4 → Q (.inl none) n1 f1) : xct g M_X9_listCrossings 4 28 [vR 0, vR oa, vI (num : Int), vR ob] n f Q := by
  refine xct_of rfl rfl (Nat.le_of_ble_eq_true rfl) ?_
  obtain ⟨R, hR⟩ : ∃ R, R = lcI d X num Y (pcS X) 0 l := ⟨_, rfl⟩
  have pY := pcS_2 Y
  have pX := pcS_2 X
  have J : ∀ (rc rs i : Nat), i < pcS X → ∀ (B : Nat), B + 2 ≤ 156 → (∀ n2 f2 l2, n ≤ n2 → wf n2 f2 → frD f f2 → sgt f2 d → f2 20 = some (oLs l2.1 ow) → lst n2 f2 l2.1 l2.2 → okL l2 → l2.1 ≤ B + pcS Y → lcI d X num Y (pcS X - (i + 1)) (i + 1) l2 = R → xw g M_X9_listCrossings Q rc rs 62 [(0, vR 0), (1, vR oa), (2, vI (num : Int)), (3, vR ob), (4, vI (i : Int))] [] n2 f2) →
      ∀ (m j : Nat) (n1 : Nat) (f1 : xH) (l1 : xLs), j + m = pcS Y → n ≤ n1 → wf n1 f1 → frD f f1 → sgt f1 d → f1 20 = some (oLs l1.1 ow) → lst n1 f1 l1.1 l1.2 → okL l1 → l1.1 ≤ B + j → lcI d X num Y (pcS X - (i + 1)) (i + 1) (lcJ d X num Y i m j l1) = R → xw g M_X9_listCrossings Q (rc + m) (rs + 7 * m) 15 [(0, vR 0), (1, vR oa), (2, vI (num : Int)), (3, vR ob), (4, vI (i : Int)), (5, vI (j : Int))] [] n1 f1 := by
    intro rc rs i hi B hB K m
    induction m with
    | zero =>
      intro j n1 f1 l1 hm hn1 hw1 hf hg1 e20 hl1 hok1 hB1 hR1
      have eb : f1 ob = some (oSk Y (ob + 1)) := hf _ _ hb (by omega) (by omega) (by omega) (by omega) (fun c e => by cases e)
      show xw g M_X9_listCrossings Q rc rs 15 _ [] n1 f1
      refine xw_iload dX9_listCrossings_15 rfl ?_
      refine xw_aload_n dX9_listCrossings_17 rfl ?_
      refine xw_getfield dX9_listCrossings_18 fl_X9_214 eb rfl ?_
      refine xw_icmpge (tgt := 62) dX9_listCrossings_21 (by decide) (by first | assumption | (unfold inI; omega) | (unfold inI at *; omega)) (by first | assumption | (unfold inI; omega) | (unfold inI at *; omega)) (fun c_21 => ?_) (fun c_21 => ?_)
      · skip
        exact xw_ls [(0, vR 0), (1, vR oa), (2, vI (num : Int)), (3, vR ob), (4, vI (i : Int))] ⟨rfl, rfl, rfl, rfl, rfl, trivial⟩ (K n1 f1 l1 hn1 hw1 hf hg1 e20 hl1 hok1 (by omega) hR1)
      · skip
        exfalso; omega
    | succ m ih =>
      intro j n1 f1 l1 hm hn1 hw1 hf hg1 e20 hl1 hok1 hB1 hR1
      have hj : j < pcS Y := by omega
      have e0 : f1 0 = some (oTb bn gn on tk rk pu) := hf _ _ h0 (by omega) (by omega) (by omega) (by omega) (fun c e => by cases e)
      have ea : f1 oa = some (oSk X (oa + 1)) := hf _ _ ha (by omega) (by omega) (by omega) (by omega) (fun c e => by cases e)
      have eap : f1 (oa + 1) = some (aI 9 (ptS X)) := hf _ _ hap (by omega) (by omega) (by omega) (by omega) (fun c e => by cases e)
      have eb : f1 ob = some (oSk Y (ob + 1)) := hf _ _ hb (by omega) (by omega) (by omega) (by omega) (fun c e => by cases e)
      have ebp : f1 (ob + 1) = some (aI 9 (ptS Y)) := hf _ _ hbp (by omega) (by omega) (by omega) (by omega) (fun c e => by cases e)
      obtain ⟨sg, e3, e4, e5, e6, e7, e8⟩ := id hg1
      have hR2 : lcI d X num Y (pcS X - (i + 1)) (i + 1) (lcJ d X num Y i m (j + 1) (lcP d X num Y i j l1)) = R := hR1
      have N : ∀ n2 f2 l2, n ≤ n2 → wf n2 f2 → frD f f2 → sgt f2 d → f2 20 = some (oLs l2.1 ow) → lst n2 f2 l2.1 l2.2 → okL l2 → l2.1 ≤ B + (j + 1) → l2 = lcP d X num Y i j l1 → xw g M_X9_listCrossings Q (rc + m) (rs + 7 * m) 56 [(0, vR 0), (1, vR oa), (2, vI (num : Int)), (3, vR ob), (4, vI (i : Int)), (5, vI (j : Int))] [] n2 f2 := by
        intro n2 f2 l2 k1 k2 k3 k4 k5 k6 k7 k8 k9
        refine xw_iinc dX9_listCrossings_56 rfl (by decide) ?_
        refine xw_goto (tgt := 15) dX9_listCrossings_59 (by decide) ?_
        exact xw_ls [(0, vR 0), (1, vR oa), (2, vI (num : Int)), (3, vR ob), (4, vI (i : Int)), (5, vI ((j + 1 : Nat) : Int))] ⟨rfl, rfl, rfl, rfl, rfl, rfl, trivial⟩ (ih (j + 1) n2 f2 l2 (by omega) k1 k2 k3 k4 k5 k6 k7 k8 (by rw [k9]; exact hR2))
      show xw g M_X9_listCrossings Q (rc + m + 1) (rs + 7 * m + 7) 15 _ [] n1 f1
      refine xw_iload dX9_listCrossings_15 rfl ?_
      refine xw_aload_n dX9_listCrossings_17 rfl ?_
      refine xw_getfield dX9_listCrossings_18 fl_X9_214 eb rfl ?_
      refine xw_icmpge (tgt := 62) dX9_listCrossings_21 (by decide) (by first | assumption | (unfold inI; omega) | (unfold inI at *; omega)) (by first | assumption | (unfold inI; omega) | (unfold inI at *; omega)) (fun c_21 => ?_) (fun c_21 => ?_)
      · skip
        exfalso; omega
      · skip
        refine xw_aload_n dX9_listCrossings_24 rfl ?_
        refine xw_getfield dX9_listCrossings_25 fl_X9_24 e0 rfl ?_
        refine xw_aload_n dX9_listCrossings_28 rfl ?_
        refine xw_iload dX9_listCrossings_29 rfl ?_
        refine xw_aload_n dX9_listCrossings_31 rfl ?_
        refine xw_iload dX9_listCrossings_32 rfl ?_
        refine xw_callV (rc := rc + m + 1) (rs := rs + 7 * m + 7) (mc2 := 0) (ms2 := 0) (a := 3) (As := [vR oa, vI (i : Int), vR ob, vI (j : Int)]) (st := []) dX9_listCrossings_34 mv_X9_364 e3 rfl rfl (by decide) (by decide) (Nat.le_of_ble_eq_true rfl) rfl (ct_sees e3 e4 e5 ea eap eb ebp (by omega) (by omega) (by omega) (by omega) (by omega) (by omega) hX hY (wide_ne e8).1 e6 e7 (fun s' f2 hsee hin hsc => ?_) (fun s' f2 hsee hin hsc => ?_))
        · skip
          refine xw_ifeq (tgt := 56) dX9_listCrossings_37 (by decide) (by unfold inI; omega) (fun c => absurd c (by decide)) (fun _ => ?_)
          obtain ⟨g2, g3, g4⟩ := sgt_see hg1 hin hsc
          obtain ⟨hsb, hsv⟩ := seeR_1 hsee
          have hcr : crOf (i : Int) (num : Int) (j : Int) s' = crOf (i : Int) (num : Int) (j : Int) (seV d X i Y j) := by unfold crOf; rw [hsv]; rfl
          have hov : okV (seV d X i Y j) := okV_sv e7 e8 (bd_dv hX (by omega)) (bd_dv hY (by omega)) (bd_gv hX hY (by omega) (by omega)) hsb
          have hcw : okW (crOf (i : Int) (num : Int) (j : Int) s') := by rw [hcr]; exact ⟨⟨by show inI (i : Int); unfold inI; omega, by show inI (num : Int); unfold inI; omega, by show inI (j : Int); unfold inI; omega⟩, hov⟩
          have i0 : f2 0 = some (oTb bn gn on tk rk pu) := (g4 0 (by omega) (by omega)).trans e0
          have i20 : f2 20 = some (oLs l1.1 ow) := (g4 20 (by omega) (by omega)).trans e20
          have w2 : wf n1 f2 := wf_see hw1 hg1 g4
          refine xw_aload_n dX9_listCrossings_40 rfl ?_
          refine xw_getfield dX9_listCrossings_41 fl_X9_45 i0 rfl ?_
          refine xw_iload dX9_listCrossings_44 rfl ?_
          refine xw_iload_n dX9_listCrossings_46 rfl ?_
          refine xw_iload dX9_listCrossings_47 rfl ?_
          refine xw_aload_n dX9_listCrossings_49 rfl ?_
          refine xw_getfield dX9_listCrossings_50 fl_X9_24 i0 rfl ?_
          refine xw_callV (rc := rc + m) (rs := rs + 7 * m) (mc2 := 1) (ms2 := 7) (a := 20) (As := [vI (i : Int), vI (num : Int), vI (j : Int), vR 3]) (st := []) dX9_listCrossings_53 mv_X9_380 i20 rfl rfl (by decide) (by decide) (Nat.le_of_ble_eq_true rfl) rfl (ct_insert g3 i20 (lst_see hl1 hg1 g4) w2 (by omega) (okW_C hcw) (fun j9 hj9 => okW_C (hok1 j9 hj9)) (fun n3 f3 hn3 hn4 hw3 hf3 j20 hl3 => ?_))
          first
            | exact xw_ls [(0, vR 0), (1, vR oa), (2, vI (num : Int)), (3, vR ob), (4, vI (i : Int)), (5, vI (j : Int))] ⟨rfl, rfl, rfl, rfl, rfl, rfl, trivial⟩ (N n3 f3 (insT (crOf (i : Int) (num : Int) (j : Int) s') l1) (by omega) hw3 (frD_tr hf (frD_tr (frD_see g4) (frD_C hf3))) (sgt_frC g2 hf3) j20 hl3 (okL_ins hok1 hcw) (by show l1.1 + 1 ≤ _; omega) (by rw [hcr]; exact (lcP_y hsb).symm))
            | exact xw_room (Nat.le_add_right _ _) (Nat.le_add_right _ _) (xw_ls [(0, vR 0), (1, vR oa), (2, vI (num : Int)), (3, vR ob), (4, vI (i : Int)), (5, vI (j : Int))] ⟨rfl, rfl, rfl, rfl, rfl, rfl, trivial⟩ (N n1 f2 l1 hn1 (wf_see hw1 hg1 (sgt_see hg1 hin hsc).2.2) (frD_tr hf (frD_see (sgt_see hg1 hin hsc).2.2)) (sgt_see hg1 hin hsc).1 (((sgt_see hg1 hin hsc).2.2 20 (by omega) (by omega)).trans e20) (lst_see hl1 hg1 (sgt_see hg1 hin hsc).2.2) hok1 (by omega) (lcP_n (seeR_0 hsee)).symm))
        · skip
          refine xw_ifeq (tgt := 56) dX9_listCrossings_37 (by decide) (by unfold inI; omega) (fun _ => ?_) (fun c => absurd c (by decide))
          first
            | exact xw_ls [(0, vR 0), (1, vR oa), (2, vI (num : Int)), (3, vR ob), (4, vI (i : Int)), (5, vI (j : Int))] ⟨rfl, rfl, rfl, rfl, rfl, rfl, trivial⟩ (N n3 f3 (insT (crOf (i : Int) (num : Int) (j : Int) s') l1) (by omega) hw3 (frD_tr hf (frD_tr (frD_see g4) (frD_C hf3))) (sgt_frC g2 hf3) j20 hl3 (okL_ins hok1 hcw) (by show l1.1 + 1 ≤ _; omega) (by rw [hcr]; exact (lcP_y hsb).symm))
            | exact xw_room (Nat.le_add_right _ _) (Nat.le_add_right _ _) (xw_ls [(0, vR 0), (1, vR oa), (2, vI (num : Int)), (3, vR ob), (4, vI (i : Int)), (5, vI (j : Int))] ⟨rfl, rfl, rfl, rfl, rfl, rfl, trivial⟩ (N n1 f2 l1 hn1 (wf_see hw1 hg1 (sgt_see hg1 hin hsc).2.2) (frD_tr hf (frD_see (sgt_see hg1 hin hsc).2.2)) (sgt_see hg1 hin hsc).1 (((sgt_see hg1 hin hsc).2.2 20 (by omega) (by omega)).trans e20) (lst_see hl1 hg1 (sgt_see hg1 hin hsc).2.2) hok1 (by omega) (lcP_n (seeR_0 hsee)).symm))
  have I : ∀ (m i : Nat) (n1 : Nat) (f1 : xH) (l1 : xLs), i + m = pcS X → n ≤ n1 → wf n1 f1 → frD f f1 → sgt f1 d → f1 20 = some (oLs l1.1 ow) → lst n1 f1 l1.1 l1.2 → okL l1 → l1.1 ≤ l.1 + 2 * i → lcI d X num Y m i l1 = R → xw g M_X9_listCrossings Q (2 * m) (14 * m) 3 [(0, vR 0), (1, vR oa), (2, vI (num : Int)), (3, vR ob), (4, vI (i : Int))] [] n1 f1 := by
    intro m
    induction m with
    | zero =>
      intro i n1 f1 l1 hm hn1 hw1 hf hg1 e20 hl1 hok1 hB1 hR1
      have ea : f1 oa = some (oSk X (oa + 1)) := hf _ _ ha (by omega) (by omega) (by omega) (by omega) (fun c e => by cases e)
      show xw g M_X9_listCrossings Q 0 0 3 _ [] n1 f1
      refine xw_iload dX9_listCrossings_3 rfl ?_
      refine xw_aload_n dX9_listCrossings_5 rfl ?_
      refine xw_getfield dX9_listCrossings_6 fl_X9_214 ea rfl ?_
      refine xw_icmpge (tgt := 68) dX9_listCrossings_9 (by decide) (by first | assumption | (unfold inI; omega) | (unfold inI at *; omega)) (by first | assumption | (unfold inI; omega) | (unfold inI at *; omega)) (fun c_9 => ?_) (fun c_9 => ?_)
      · skip
        exact xw_vret dX9_listCrossings_68 rfl (hq n1 f1 l1 hn1 hw1 hf hg1 (by rw [← hR]; exact hR1) e20 hl1 hok1 (by omega))
      · skip
        exfalso; omega
    | succ m ih =>
      intro i n1 f1 l1 hm hn1 hw1 hf hg1 e20 hl1 hok1 hB1 hR1
      have ea : f1 oa = some (oSk X (oa + 1)) := hf _ _ ha (by omega) (by omega) (by omega) (by omega) (fun c e => by cases e)
      have hR2 : lcI d X num Y m (i + 1) (lcJ d X num Y i (pcS Y) 0 l1) = R := hR1
      have hm1 : pcS X - (i + 1) = m := by omega
      have E : ∀ n2 f2 l2, n ≤ n2 → wf n2 f2 → frD f f2 → sgt f2 d → f2 20 = some (oLs l2.1 ow) → lst n2 f2 l2.1 l2.2 → okL l2 → l2.1 ≤ l.1 + 2 * i + pcS Y → lcI d X num Y (pcS X - (i + 1)) (i + 1) l2 = R → xw g M_X9_listCrossings Q (2 * m) (14 * m) 62 [(0, vR 0), (1, vR oa), (2, vI (num : Int)), (3, vR ob), (4, vI (i : Int))] [] n2 f2 := by
        intro n2 f2 l2 k1 k2 k3 k4 k5 k6 k7 k8 k9
        refine xw_iinc dX9_listCrossings_62 rfl (by decide) ?_
        refine xw_goto (tgt := 3) dX9_listCrossings_65 (by decide) ?_
        exact xw_ls [(0, vR 0), (1, vR oa), (2, vI (num : Int)), (3, vR ob), (4, vI ((i + 1 : Nat) : Int))] ⟨rfl, rfl, rfl, rfl, rfl, trivial⟩ (ih (i + 1) n2 f2 l2 (by omega) k1 k2 k3 k4 k5 k6 k7 (by omega) (by rw [← hm1]; exact k9))
      refine xw_room (rc' := 2 * m + pcS Y) (rs' := 14 * m + 7 * pcS Y) (by omega) (by omega) ?_
      refine xw_iload dX9_listCrossings_3 rfl ?_
      refine xw_aload_n dX9_listCrossings_5 rfl ?_
      refine xw_getfield dX9_listCrossings_6 fl_X9_214 ea rfl ?_
      refine xw_icmpge (tgt := 68) dX9_listCrossings_9 (by decide) (by first | assumption | (unfold inI; omega) | (unfold inI at *; omega)) (by first | assumption | (unfold inI; omega) | (unfold inI at *; omega)) (fun c_9 => ?_) (fun c_9 => ?_)
      · skip
        exfalso; omega
      · skip
        refine xw_iconst dX9_listCrossings_12 ?_
        refine xw_istore dX9_listCrossings_13 (by decide) ?_
        exact xw_ls [(0, vR 0), (1, vR oa), (2, vI (num : Int)), (3, vR ob), (4, vI (i : Int)), (5, vI ((0 : Nat) : Int))] ⟨rfl, rfl, rfl, rfl, rfl, rfl, trivial⟩ (J (2 * m) (14 * m) i (by omega) (l.1 + 2 * i) (by omega) E (pcS Y) 0 n1 f1 l1 (by omega) hn1 hw1 hf hg1 e20 hl1 hok1 (by omega) (by rw [hm1]; exact hR2))
  refine xw_room (rc' := 2 * pcS X) (rs' := 14 * pcS X) (by omega) (by omega) ?_
  refine xw_iconst dX9_listCrossings_0 ?_
  refine xw_istore dX9_listCrossings_1 (by decide) ?_
  exact xw_ls [(0, vR 0), (1, vR oa), (2, vI (num : Int)), (3, vR ob), (4, vI ((0 : Nat) : Int))] ⟨rfl, rfl, rfl, rfl, rfl, trivial⟩ (I (pcS X) 0 n f l (by omega) (Nat.le_refl _) hw (frD_rf f) hg h20 hl hok (by omega) hR.symm)
end C63
