/-! crossings and their list -/
abbrev xC7 : Type := Int × (Int × (Int × (Int × (Int × (Int × Int)))))
def fCr (c : xC7) : Nat → xV := fun k => match k with
  | 0 => vI c.1
  | 1 => vI c.2.1
  | 2 => vI c.2.2.1
  | 3 => vL c.2.2.2.1
  | 4 => vL c.2.2.2.2.1
  | 5 => vL c.2.2.2.2.2.1
  | _ => vL c.2.2.2.2.2.2
abbrev oCr (c : xC7) : xE := Sum.inr (2, fCr c)
abbrev aR (t N : Nat) (c : Nat → Option Nat) : xE := Sum.inl (t, N, Sum.inr (Sum.inr c))
abbrev oLs (sz : Nat) (ow : Int) : xE := Sum.inr (3, fX3 (sz : Int) ow)
def crOf (pi ot op : Int) (s : ofS) : xC7 := (pi, (ot, (op, (s.2.1, (s.2.2.1, (s.2.2.2.1, s.2.2.2.2))))))
def prec (c d : xC7) : Bool := if c.1 ≠ d.1 then decide (c.1 < d.1) else if c.2.2.2.1 * d.2.2.2.2.1 ≠ d.2.2.2.1 * c.2.2.2.2.1 then decide (c.2.2.2.1 * d.2.2.2.2.1 < d.2.2.2.1 * c.2.2.2.2.1) else if c.2.1 ≠ d.2.1 then decide (c.2.1 < d.2.1) else decide (c.2.2.1 < d.2.2.1)
def okC (c : xC7) : Prop := (inI c.1 ∧ inI c.2.1 ∧ inI c.2.2.1) ∧ nb c.2.2.2.1 2400000000 ∧ nb c.2.2.2.2.1 2400000000
theorem nb_M {a b : Int} (ha : nb a 2400000000) (hb : nb b 2400000000) : inL (a * b) := by
  have h := nb_mul ha hb
  unfold nb at h
  unfold inL
  omega
def insP (c : xC7) (L : Nat → xC7) : Nat → Nat
  | 0 => 0
  | k + 1 => if prec c (L k) = true then insP c L k else k + 1
def insL (L : Nat → xC7) (q : Nat) (c : xC7) (j : Nat) : xC7 := if j < q then L j else if j = q then c else L (j - 1)
theorem insP_le (c : xC7) (L : Nat → xC7) : ∀ k, insP c L k ≤ k
  | 0 => Nat.le_refl 0
  | k + 1 => by have := insP_le c L k; unfold insP; split <;> omega
def shR (rw : Nat → Option Nat) (k sz : Nat) (j : Nat) : Option Nat := if k < j ∧ j ≤ sz then rw (j - 1) else rw j
def lst (n : Nat) (f : xH) (sz : Nat) (L : Nat → xC7) : Prop := ∃ rw : Nat → Option Nat, f 21 = some (aR 6 156 rw) ∧ (∀ i j a, i < 156 → j < 156 → rw i = some a → rw j = some a → i = j) ∧ (∀ i a, i < 156 → rw i = some a → ∃ c, f a = some (oCr c)) ∧ ∀ j, j < sz → ∃ a, rw j = some a ∧ f a = some (oCr (L j))
/-- all but the list's own cells is kept -/
def frC (f f1 : xH) : Prop := ∀ k e, f k = some e → k ≠ 20 → k ≠ 21 → (∀ c, e ≠ oCr c) → f1 k = some e
theorem frC_rf (f : xH) : frC f f := fun _ _ h _ _ _ => h
theorem frC_tr {f f1 f2 : xH} (h : frC f f1) (h2 : frC f1 f2) : frC f f2 := fun k e he a b c => h2 k e (h k e he a b c) a b c
section C53
variable {g : xG} {y : xM} {Q : xP} {n : Nat} {f : xH}
theorem xw_topr {rc rs pc : Nat} {ls : xS} {st : List xV} {o : Option Nat} (a : Nat) (h : o = some a) (k : xw g y Q rc rs pc ls (vR a :: st) n f) : xw g y Q rc rs pc ls (vQ o :: st) n f := by rw [h]; exact k
theorem xw_topn {rc rs pc : Nat} {ls : xS} {st : List xV} {o : Option Nat} (h : o = none) (k : xw g y Q rc rs pc ls (vN :: st) n f) : xw g y Q rc rs pc ls (vQ o :: st) n f := by rw [h]; exact k
theorem fCr_0 (c : xC7) (x : Int) : xui (fCr c) 0 (vI x) = fCr (x, c.2) := by
  funext j; unfold xui; match j with
  | 0 => rfl | 1 => rfl | 2 => rfl | 3 => rfl | 4 => rfl | 5 => rfl | 6 => rfl | (m + 7) => rfl
theorem fCr_1 (c : xC7) (x : Int) : xui (fCr c) 1 (vI x) = fCr (c.1, (x, c.2.2)) := by
  funext j; unfold xui; match j with
  | 0 => rfl | 1 => rfl | 2 => rfl | 3 => rfl | 4 => rfl | 5 => rfl | 6 => rfl | (m + 7) => rfl
theorem fCr_2 (c : xC7) (x : Int) : xui (fCr c) 2 (vI x) = fCr (c.1, (c.2.1, (x, c.2.2.2))) := by
  funext j; unfold xui; match j with
  | 0 => rfl | 1 => rfl | 2 => rfl | 3 => rfl | 4 => rfl | 5 => rfl | 6 => rfl | (m + 7) => rfl
theorem fCr_3 (c : xC7) (x : Int) : xui (fCr c) 3 (vL x) = fCr (c.1, (c.2.1, (c.2.2.1, (x, c.2.2.2.2)))) := by
  funext j; unfold xui; match j with
  | 0 => rfl | 1 => rfl | 2 => rfl | 3 => rfl | 4 => rfl | 5 => rfl | 6 => rfl | (m + 7) => rfl
theorem fCr_4 (c : xC7) (x : Int) : xui (fCr c) 4 (vL x) = fCr (c.1, (c.2.1, (c.2.2.1, (c.2.2.2.1, (x, c.2.2.2.2.2))))) := by
  funext j; unfold xui; match j with
  | 0 => rfl | 1 => rfl | 2 => rfl | 3 => rfl | 4 => rfl | 5 => rfl | 6 => rfl | (m + 7) => rfl
theorem fCr_5 (c : xC7) (x : Int) : xui (fCr c) 5 (vL x) = fCr (c.1, (c.2.1, (c.2.2.1, (c.2.2.2.1, (c.2.2.2.2.1, (x, c.2.2.2.2.2.2)))))) := by
  funext j; unfold xui; match j with
  | 0 => rfl | 1 => rfl | 2 => rfl | 3 => rfl | 4 => rfl | 5 => rfl | 6 => rfl | (m + 7) => rfl
set_option maxHeartbeats 4000000 in
theorem ct_set {a : Nat} {c : xC7} {k pi ot op : Int} {s : ofS} (ha : f a = some (oCr c)) (h3 : f 3 = some (oSs k s)) (hq : Q (.inl none) n (xup f a (oCr (crOf pi ot op s)))) : xct g M_X2_set 0 0 [vR a, vI pi, vI ot, vI op, vR 3] n f Q := by
  refine xct_of rfl rfl (Nat.le_of_ble_eq_true rfl) ?_
  have ha3 : (3 : Nat) ≠ a := fun e => by rw [← e, h3] at ha; cases ha
  have e3 : ∀ e, xup f a e 3 = some (oSs k s) := fun e => (xup_n _ _ ha3).trans h3
  refine xw_aload_n dX2_set_0 rfl ?_
  refine xw_iload_n dX2_set_1 rfl ?_
  refine xw_putfield dX2_set_2 (fp_X2_7 _) ha rfl rfl ?_
  rw [fCr_0]
  refine xw_aload_n dX2_set_5 rfl ?_
  refine xw_iload_n dX2_set_6 rfl ?_
  refine xw_putfield dX2_set_7 (fp_X2_13 _) (xup_s _ _ _) rfl rfl ?_
  rw [fCr_1, xup_up]
  refine xw_aload_n dX2_set_10 rfl ?_
  refine xw_iload_n dX2_set_11 rfl ?_
  refine xw_putfield dX2_set_12 (fp_X2_16 _) (xup_s _ _ _) rfl rfl ?_
  rw [fCr_2, xup_up]
  refine xw_aload_n dX2_set_15 rfl ?_
  refine xw_aload dX2_set_16 rfl ?_
  refine xw_getfield dX2_set_18 fl_X2_19 (e3 _) (show fX6 k s.1 s.2.1 s.2.2.1 s.2.2.2.1 s.2.2.2.2 10 = vL s.2.1 from rfl) ?_
  refine xw_putfield dX2_set_21 (fp_X2_25 _) (xup_s _ _ _) rfl rfl ?_
  rw [fCr_3, xup_up]
  refine xw_aload_n dX2_set_24 rfl ?_
  refine xw_aload dX2_set_25 rfl ?_
  refine xw_getfield dX2_set_27 fl_X2_26 (e3 _) (show fX6 k s.1 s.2.1 s.2.2.1 s.2.2.2.1 s.2.2.2.2 11 = vL s.2.2.1 from rfl) ?_
  refine xw_putfield dX2_set_30 (fp_X2_29 _) (xup_s _ _ _) rfl rfl ?_
  rw [fCr_4, xup_up]
  refine xw_aload_n dX2_set_33 rfl ?_
  refine xw_aload dX2_set_34 rfl ?_
  refine xw_getfield dX2_set_36 fl_X2_30 (e3 _) (show fX6 k s.1 s.2.1 s.2.2.1 s.2.2.2.1 s.2.2.2.2 12 = vL s.2.2.2.1 from rfl) ?_
  refine xw_putfield dX2_set_39 (fp_X2_33 _) (xup_s _ _ _) rfl rfl ?_
  rw [fCr_5, xup_up]
  refine xw_aload_n dX2_set_42 rfl ?_
  refine xw_aload dX2_set_43 rfl ?_
  refine xw_getfield dX2_set_45 fl_X2_34 (e3 _) (show fX6 k s.1 s.2.1 s.2.2.1 s.2.2.2.1 s.2.2.2.2 13 = vL s.2.2.2.2 from rfl) ?_
  refine xw_putfield dX2_set_48 (fp_X2_37 _) (xup_s _ _ _) rfl rfl ?_
  rw [xup_up]
  refine xw_cgO (fs1 := fCr (crOf pi ot op s)) (D := RX2) (T := TX2) (N := 7) rfl (fun j hj => ?_) ?_
  · match j with
    | 0 => rfl | 1 => rfl | 2 => rfl | 3 => rfl | 4 => rfl | 5 => rfl | 6 => rfl | (m + 7) => omega
  exact xw_vret dX2_set_51 rfl hq
set_option maxHeartbeats 4000000 in
theorem ct_precedes {a b : Nat} {c d : xC7} (ha : f a = some (oCr c)) (hb : f b = some (oCr d)) (hc : okC c) (hd : okC d) (h1 : prec c d = true → Q (.inl (some (vI 1))) n f) (h0 : prec c d = false → Q (.inl (some (vI 0))) n f) : xct g M_X2_precedes 0 0 [vR a, vR b] n f Q := by
  refine xct_of rfl rfl (Nat.le_of_ble_eq_true rfl) ?_
  obtain ⟨⟨c1, c2, c3⟩, c4, c5⟩ := hc
  obtain ⟨⟨d1, d2, d3⟩, d4, d5⟩ := hd
  have p1 := nb_M c4 d5
  have p2 := nb_M d4 c5
  unfold prec at h1 h0
  refine xw_aload_n dX2_precedes_0 rfl ?_
  refine xw_getfield dX2_precedes_1 fl_X2_7 ha rfl ?_
  refine xw_aload_n dX2_precedes_4 rfl ?_
  refine xw_getfield dX2_precedes_5 fl_X2_7 hb rfl ?_
  refine xw_icmpeq (tgt := 28) dX2_precedes_8 (by decide) c1 d1 (fun c_8 => ?_) (fun c_8 => ?_)
  · skip
    refine xw_aload_n dX2_precedes_28 rfl ?_
    refine xw_getfield dX2_precedes_29 fl_X2_25 ha rfl ?_
    refine xw_aload_n dX2_precedes_32 rfl ?_
    refine xw_getfield dX2_precedes_33 fl_X2_29 hb rfl ?_
    refine xw_lmul dX2_precedes_36 ?_
    refine xw_lstore_n dX2_precedes_37 (by decide) ?_
    refine xw_aload_n dX2_precedes_38 rfl ?_
    refine xw_getfield dX2_precedes_39 fl_X2_25 hb rfl ?_
    refine xw_aload_n dX2_precedes_42 rfl ?_
    refine xw_getfield dX2_precedes_43 fl_X2_29 ha rfl ?_
    refine xw_lmul dX2_precedes_46 ?_
    refine xw_lstore dX2_precedes_47 (by decide) ?_
    refine xw_lload_n dX2_precedes_49 rfl ?_
    refine xw_lload dX2_precedes_50 rfl ?_
    refine xw_lcmpeq (tgt := 69) dX2_precedes_52 dX2_precedes_53 (by decide) p1 p2 (fun c_52 => ?_) (fun c_52 => ?_)
    · skip
      refine xw_aload_n dX2_precedes_69 rfl ?_
      refine xw_getfield dX2_precedes_70 fl_X2_13 ha rfl ?_
      refine xw_aload_n dX2_precedes_73 rfl ?_
      refine xw_getfield dX2_precedes_74 fl_X2_13 hb rfl ?_
      refine xw_icmpeq (tgt := 99) dX2_precedes_77 (by decide) c2 d2 (fun c_77 => ?_) (fun c_77 => ?_)
      · skip
        refine xw_aload_n dX2_precedes_99 rfl ?_
        refine xw_getfield dX2_precedes_100 fl_X2_16 ha rfl ?_
        refine xw_aload_n dX2_precedes_103 rfl ?_
        refine xw_getfield dX2_precedes_104 fl_X2_16 hb rfl ?_
        refine xw_icmpge (tgt := 114) dX2_precedes_107 (by decide) c3 d3 (fun c_107 => ?_) (fun c_107 => ?_)
        · skip
          refine xw_iconst dX2_precedes_114 ?_
          exact xw_zret dX2_precedes_115 rfl rfl (by first | exact h0 (by rw [if_neg (fun h => h c_8), if_neg (fun h => h c_52), if_pos c_77]; exact decide_eq_false (by omega)) | exact h1 (by rw [if_neg (fun h => h c_8), if_neg (fun h => h c_52), if_pos c_77]; exact decide_eq_true (by omega)) | exact h0 (by rw [if_neg (fun h => h c_8), if_neg (fun h => h c_52), if_neg (fun h => h c_77)]; exact decide_eq_false (by omega)) | exact h1 (by rw [if_neg (fun h => h c_8), if_neg (fun h => h c_52), if_neg (fun h => h c_77)]; exact decide_eq_true (by omega)))
        · skip
          refine xw_iconst dX2_precedes_110 ?_
          refine xw_goto (tgt := 115) dX2_precedes_111 (by decide) ?_
          exact xw_zret dX2_precedes_115 rfl rfl (by first | exact h0 (by rw [if_neg (fun h => h c_8), if_neg (fun h => h c_52), if_pos c_77]; exact decide_eq_false (by omega)) | exact h1 (by rw [if_neg (fun h => h c_8), if_neg (fun h => h c_52), if_pos c_77]; exact decide_eq_true (by omega)) | exact h0 (by rw [if_neg (fun h => h c_8), if_neg (fun h => h c_52), if_neg (fun h => h c_77)]; exact decide_eq_false (by omega)) | exact h1 (by rw [if_neg (fun h => h c_8), if_neg (fun h => h c_52), if_neg (fun h => h c_77)]; exact decide_eq_true (by omega)))
      · skip
        refine xw_aload_n dX2_precedes_80 rfl ?_
        refine xw_getfield dX2_precedes_81 fl_X2_13 ha rfl ?_
        refine xw_aload_n dX2_precedes_84 rfl ?_
        refine xw_getfield dX2_precedes_85 fl_X2_13 hb rfl ?_
        refine xw_icmpge (tgt := 95) dX2_precedes_88 (by decide) c2 d2 (fun c_88 => ?_) (fun c_88 => ?_)
        · skip
          refine xw_iconst dX2_precedes_95 ?_
          refine xw_goto (tgt := 115) dX2_precedes_96 (by decide) ?_
          exact xw_zret dX2_precedes_115 rfl rfl (by first | exact h0 (by rw [if_neg (fun h => h c_8), if_neg (fun h => h c_52), if_pos c_77]; exact decide_eq_false (by omega)) | exact h1 (by rw [if_neg (fun h => h c_8), if_neg (fun h => h c_52), if_pos c_77]; exact decide_eq_true (by omega)) | exact h0 (by rw [if_neg (fun h => h c_8), if_neg (fun h => h c_52), if_neg (fun h => h c_77)]; exact decide_eq_false (by omega)) | exact h1 (by rw [if_neg (fun h => h c_8), if_neg (fun h => h c_52), if_neg (fun h => h c_77)]; exact decide_eq_true (by omega)))
        · skip
          refine xw_iconst dX2_precedes_91 ?_
          refine xw_goto (tgt := 115) dX2_precedes_92 (by decide) ?_
          exact xw_zret dX2_precedes_115 rfl rfl (by first | exact h0 (by rw [if_neg (fun h => h c_8), if_neg (fun h => h c_52), if_pos c_77]; exact decide_eq_false (by omega)) | exact h1 (by rw [if_neg (fun h => h c_8), if_neg (fun h => h c_52), if_pos c_77]; exact decide_eq_true (by omega)) | exact h0 (by rw [if_neg (fun h => h c_8), if_neg (fun h => h c_52), if_neg (fun h => h c_77)]; exact decide_eq_false (by omega)) | exact h1 (by rw [if_neg (fun h => h c_8), if_neg (fun h => h c_52), if_neg (fun h => h c_77)]; exact decide_eq_true (by omega)))
    · skip
      refine xw_lload_n dX2_precedes_56 rfl ?_
      refine xw_lload dX2_precedes_57 rfl ?_
      refine xw_lcmpge (tgt := 67) dX2_precedes_59 dX2_precedes_60 (by decide) p1 p2 (fun c_59 => ?_) (fun c_59 => ?_)
      · skip
        refine xw_iconst dX2_precedes_67 ?_
        exact xw_zret dX2_precedes_68 rfl rfl (by first | exact h0 (by rw [if_neg (fun h => h c_8), if_pos c_52]; exact decide_eq_false (by omega)) | exact h1 (by rw [if_neg (fun h => h c_8), if_pos c_52]; exact decide_eq_true (by omega)))
      · skip
        refine xw_iconst dX2_precedes_63 ?_
        refine xw_goto (tgt := 68) dX2_precedes_64 (by decide) ?_
        exact xw_zret dX2_precedes_68 rfl rfl (by first | exact h0 (by rw [if_neg (fun h => h c_8), if_pos c_52]; exact decide_eq_false (by omega)) | exact h1 (by rw [if_neg (fun h => h c_8), if_pos c_52]; exact decide_eq_true (by omega)))
  · skip
    refine xw_aload_n dX2_precedes_11 rfl ?_
    refine xw_getfield dX2_precedes_12 fl_X2_7 ha rfl ?_
    refine xw_aload_n dX2_precedes_15 rfl ?_
    refine xw_getfield dX2_precedes_16 fl_X2_7 hb rfl ?_
    refine xw_icmpge (tgt := 26) dX2_precedes_19 (by decide) c1 d1 (fun c_19 => ?_) (fun c_19 => ?_)
    · skip
      refine xw_iconst dX2_precedes_26 ?_
      exact xw_zret dX2_precedes_27 rfl rfl (by first | exact h0 (by rw [if_pos c_8]; exact decide_eq_false (by omega)) | exact h1 (by rw [if_pos c_8]; exact decide_eq_true (by omega)))
    · skip
      refine xw_iconst dX2_precedes_22 ?_
      refine xw_goto (tgt := 27) dX2_precedes_23 (by decide) ?_
      exact xw_zret dX2_precedes_27 rfl rfl (by first | exact h0 (by rw [if_pos c_8]; exact decide_eq_false (by omega)) | exact h1 (by rw [if_pos c_8]; exact decide_eq_true (by omega)))
theorem ct_CrInit {a : Nat} (hq : Q (.inl none) n f) : xct g M_X2_init 0 0 [vR a] n f Q := by
  refine xct_of rfl rfl (Nat.le_of_ble_eq_true rfl) ?_
  refine xw_aload_n dX2_init_0 rfl ?_
  refine xw_objInit dX2_init_1 oi_X2 oi_2 oi_3 (by decide) (by decide) (Nat.le_of_ble_eq_true rfl) ?_
  exact xw_vret dX2_init_4 rfl hq
set_option maxHeartbeats 4000000 in
theorem ct_lat {sz : Nat} {ow k : Int} {L : Nat → xC7} (h20 : f 20 = some (oLs sz ow)) (hl : lst n f sz L) (hsz : sz ≤ 156) (hk : inI k) (h1 : ∀ j a : Nat, k = (j : Int) → j < sz → f a = some (oCr (L j)) → Q (.inl (some (vR a))) n f) (h0 : ¬ (0 ≤ k ∧ k < (sz : Int)) → Q (.inl (some vN)) n f) : xct g M_X3_at 0 0 [vR 20, vI k] n f Q := by
  refine xct_of rfl rfl (Nat.le_of_ble_eq_true rfl) ?_
  obtain ⟨rw0, h21, hinj, hall, hrow⟩ := hl
  refine xw_iload_n dX3_at_0 rfl ?_
  refine xw_iflt (tgt := 12) dX3_at_1 (by decide) hk (fun c_1 => ?_) (fun c_1 => ?_)
  · skip
    refine xw_null dX3_at_12 ?_
    refine xw_goto (tgt := 22) dX3_at_13 (by decide) ?_
    exact xw_aret dX3_at_22 rfl (o := none) (h0 (by omega))
  · skip
    refine xw_iload_n dX3_at_4 rfl ?_
    refine xw_aload_n dX3_at_5 rfl ?_
    refine xw_getfield dX3_at_6 fl_X3_21 h20 rfl ?_
    refine xw_icmplt (tgt := 16) dX3_at_9 (by decide) hk (by unfold inI; omega) (fun c_9 => ?_) (fun c_9 => ?_)
    · skip
      obtain ⟨a, ha1, ha2⟩ := hrow k.toNat (by omega)
      refine xw_aload_n dX3_at_16 rfl ?_
      refine xw_getfield dX3_at_17 fl_X3_11 h20 rfl ?_
      refine xw_iload_n dX3_at_20 rfl ?_
      refine xw_aald dX3_at_21 h21 rfl (j := k.toNat) (xtn (by omega)) (by omega) (by decide) ?_
      refine xw_topr a ha1 ?_
      exact xw_aret dX3_at_22 rfl (h1 k.toNat a (xtn (by omega)) (by omega) ha2)
    · skip
      refine xw_null dX3_at_12 ?_
      refine xw_goto (tgt := 22) dX3_at_13 (by decide) ?_
      exact xw_aret dX3_at_22 rfl (o := none) (h0 (by omega))
end C53
