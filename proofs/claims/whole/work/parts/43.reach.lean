/-! reach, knots, walks -/
def WP (av : Nat → Nat) : Nat → Nat → Nat → Prop
  | 0, q, j => (av j).testBit q = true
  | m + 1, q, j => WP av m q j ∨ (WP av m m j ∧ WP av m q m)
theorem WP_m (av : Nat → Nat) (m q : Nat) : WP av (m + 1) q m ↔ WP av m q m := ⟨fun h => h.elim id (fun k => k.2), Or.inl⟩
def hld (rv : Nat → Nat) (p : Nat) : Nat → Nat
  | 0 => 0
  | k + 1 => if (rv p).testBit k = true ∧ (rv k).testBit p = true then hld rv p k ||| 2 ^ k else hld rv p k
theorem hld_bit (rv : Nat → Nat) (p o : Nat) : ∀ k, (hld rv p k).testBit o = true ↔ (o < k ∧ (rv p).testBit o = true ∧ (rv o).testBit p = true) := by
  intro k
  induction k with
  | zero => unfold hld; simp
  | succ k ih =>
    unfold hld
    split
    · next h =>
      rw [Nat.testBit_or, Bool.or_eq_true, ih, Nat.testBit_two_pow]
      by_cases e : k = o
      · subst e; simp [h]
      · simp [e]; omega
    · next h =>
      rw [ih]
      by_cases e : k = o
      · subst e; exact ⟨fun q => absurd q.1 (by omega), fun q => absurd q.2 h⟩
      · constructor
        · exact fun q => ⟨by omega, q.2⟩
        · exact fun q => ⟨by omega, q.2⟩
theorem hld_lt (rv : Nat → Nat) (p k : Nat) : hld rv p k < 2 ^ k := xb_lt (fun i hi => by
  cases hb : (hld rv p k).testBit i with
  | false => rfl
  | true => have := (hld_bit rv p i k).mp hb; omega)
def kns (rv : Nat → Nat) (sz : Nat) : Nat → Nat → Nat → Nat → (Nat → Nat) → Nat × (Nat → Nat)
  | 0, _, _, kc, ks => (kc, ks)
  | m + 1, p, dn, kc, ks => if dn.testBit p = false ∧ (rv p).testBit p = true ∧ kc < 20 then kns rv sz m (p + 1) (dn ||| hld rv p sz) (kc + 1) (xui ks kc (hld rv p sz)) else kns rv sz m (p + 1) dn kc ks
def bba (bv : Nat → Nat) (s : Nat) : Nat → Nat
  | 0 => 0
  | k + 1 => if s.testBit k = true then bba bv s k ||| bv k else bba bv s k
theorem bba_lt {bv : Nat → Nat} {s sz : Nat} (hb : ∀ j, j < sz → bv j < 2 ^ 40) : ∀ k, k ≤ sz → bba bv s k < 2 ^ 40 := by
  intro k
  induction k with
  | zero => intro _; unfold bba; decide
  | succ k ih =>
    intro hk
    unfold bba
    split
    · exact Nat.or_lt_two_pow (ih (by omega)) (hb k (by omega))
    · exact ih (by omega)
def wlk (bv : Nat → Nat) (sz p : Nat) : Nat → Nat
  | 0 => 2 ^ p
  | k + 1 => bba bv (wlk bv sz p k) sz
theorem wlk_lt {bv : Nat → Nat} {sz p : Nat} (hb : ∀ j, j < sz → bv j < 2 ^ 40) (hp : p < 40) : ∀ k, wlk bv sz p k < 2 ^ 40
  | 0 => Nat.pow_lt_pow_right (by decide) hp
  | k + 1 => bba_lt hb sz (Nat.le_refl _)
def rngf (bv : Nat → Nat) (sz p : Nat) : Nat → Nat → Nat
  | 0, _ => 0
  | k + 1, t => if (wlk bv sz p t).testBit p = true then t else rngf bv sz p k (t + 1)
section C43
variable {g : xG} {Q : xP} {n : Nat} {f : xH}
set_option maxHeartbeats 4000000 in
theorem ct_findReach {sz : Nat} {ls kc : Int} {av rv : Nat → Nat} (h22 : f 22 = some (oTg sz ls kc)) (h25 : f 25 = some (aS 40 av)) (h27 : f 27 = some (aS 40 rv)) (hsz : sz ≤ 40) (hav : ∀ j, j < sz → av j < 2 ^ 40)
    (hq : ∀ f1 rv1, fr [27] f f1 → f1 27 = some (aS 40 rv1) → (∀ j, j < sz → rv1 j < 2 ^ 40 ∧ ∀ q, (rv1 j).testBit q = true ↔ WP av sz q j) → Q (.inl none) n f1) : xct g M_X8_findReach 0 0 [vR 22] n f Q := by
  refine xct_of rfl rfl (Nat.le_of_ble_eq_true rfl) ?_
  have B62 : ∀ {x : Nat}, x < 2 ^ 40 → x < 2 ^ 62 := fun h => Nat.lt_of_lt_of_le h (xp2 (by decide))
  have I : ∀ (t : Nat), t < sz → (∀ f2 rv2, fr [27] f f2 → f2 27 = some (aS 40 rv2) → (∀ j, j < sz → rv2 j < 2 ^ 40 ∧ ∀ q, (rv2 j).testBit q = true ↔ WP av (t + 1) q j) → xw g M_X8_findReach Q 0 0 82 [(0, vR 22), (1, vI (t : Int))] [] n f2) →
      ∀ (m i : Nat) (f1 : xH) (rv1 : Nat → Nat), i + m = sz → fr [27] f f1 → f1 27 = some (aS 40 rv1) → (∀ j, j < sz → rv1 j < 2 ^ 40 ∧ ∀ q, (rv1 j).testBit q = true ↔ WP av (if j < i then t + 1 else t) q j) → xw g M_X8_findReach Q 0 0 40 [(0, vR 22), (1, vI (t : Int)), (2, vI (i : Int))] [] n f1 := by
    intro t ht K m
    induction m with
    | zero =>
      intro i f1 rv1 hi hf e27 hI
      have e22 : f1 22 = some (oTg sz ls kc) := fr_at hf h22 (by decide)
      refine xw_iload_n dX8_findReach_40 rfl ?_
      refine xw_aload_n dX8_findReach_41 rfl ?_
      refine xw_getfield dX8_findReach_42 fl_X8_40 e22 rfl ?_
      refine xw_icmpge (tgt := 82) dX8_findReach_45 (by decide) (by unfold inI; omega) (by unfold inI; omega) (fun c_45 => ?_) (fun c_45 => ?_)
      · skip
        exact xw_ls [(0, vR 22), (1, vI (t : Int))] ⟨rfl, rfl, trivial⟩ (K f1 rv1 hf e27 (fun j hj => by have h := hI j hj; rw [if_pos (by omega)] at h; exact h))
      · skip
        exfalso; omega
    | succ m ih =>
      intro i f1 rv1 hi hf e27 hI
      have e22 : f1 22 = some (oTg sz ls kc) := fr_at hf h22 (by decide)
      have hi1 := hI i (by omega)
      rw [if_neg (by omega)] at hi1
      have ht1 := hI t ht
      have ht2 : ∀ q, (rv1 t).testBit q = true ↔ WP av t q t := by
        intro q
        rw [ht1.2 q]
        split
        · exact WP_m av t q
        · rfl
      refine xw_iload_n dX8_findReach_40 rfl ?_
      refine xw_aload_n dX8_findReach_41 rfl ?_
      refine xw_getfield dX8_findReach_42 fl_X8_40 e22 rfl ?_
      refine xw_icmpge (tgt := 82) dX8_findReach_45 (by decide) (by unfold inI; omega) (by unfold inI; omega) (fun c_45 => ?_) (fun c_45 => ?_)
      · skip
        exfalso; omega
      · skip
        refine xw_aload_n dX8_findReach_48 rfl ?_
        refine xw_getfield dX8_findReach_49 fl_X8_25 e22 rfl ?_
        refine xw_iload_n dX8_findReach_52 rfl ?_
        refine xw_lald dX8_findReach_53 e27 (j := i) rfl (by omega) (by decide) ?_
        refine xw_iload_n dX8_findReach_54 rfl ?_
        refine xw_callSN (rc := 0) (rs := 0) (mc2 := 0) (ms2 := 0) (As := [vL ((rv1 i : Nat) : Int), vI (t : Int)]) (st := []) dX8_findReach_55 sn_X8_48 (by decide) (by decide) (Nat.le_of_ble_eq_true rfl) rfl (ct_isIn (B62 hi1.1) (by omega) (fun h_55 => ?_) (fun h_55 => ?_))
        · skip
          refine xw_ifeq (tgt := 76) dX8_findReach_58 (by decide) (by unfold inI; omega) (fun c => absurd c (by decide)) (fun _ => ?_)
          refine xw_aload_n dX8_findReach_61 rfl ?_
          refine xw_getfield dX8_findReach_62 fl_X8_25 e22 rfl ?_
          refine xw_iload_n dX8_findReach_65 rfl ?_
          refine xw_dup2 dX8_findReach_66 rfl rfl ?_
          refine xw_lald dX8_findReach_67 e27 (j := i) rfl (by omega) (by decide) ?_
          refine xw_aload_n dX8_findReach_68 rfl ?_
          refine xw_getfield dX8_findReach_69 fl_X8_25 e22 rfl ?_
          refine xw_iload_n dX8_findReach_72 rfl ?_
          refine xw_lald dX8_findReach_73 e27 (j := t) rfl (by omega) (by decide) ?_
          refine xw_lor dX8_findReach_74 (xb_or (B62 hi1.1) (B62 ht1.1)) ?_
          refine xw_last dX8_findReach_75 e27 (j := i) rfl (by omega) (by decide) ?_
          rw [xui_cast]
          refine xw_iinc dX8_findReach_76 rfl (by decide) ?_
          refine xw_goto (tgt := 40) dX8_findReach_79 (by decide) ?_
          first
            | exact xw_ls [(0, vR 22), (1, vI (t : Int)), (2, vI ((i + 1 : Nat) : Int))] ⟨rfl, rfl, rfl, trivial⟩ (ih (i + 1) _ (xui rv1 i (rv1 i ||| rv1 t)) (by omega) (fr_up hf (by decide)) (xup_s _ _ _) (fun j hj => by
                by_cases e : j = i
                · subst e
                  rw [xui_s, if_pos (by omega)]
                  refine ⟨Nat.or_lt_two_pow hi1.1 ht1.1, fun q => ?_⟩
                  rw [Nat.testBit_or, Bool.or_eq_true, hi1.2 q, ht2 q]
                  exact ⟨fun h => h.elim Or.inl (fun h => Or.inr ⟨(hi1.2 t).mp h_55, h⟩), fun h => h.elim Or.inl (fun h => Or.inr h.2)⟩
                · rw [xui_n _ _ e]
                  have h := hI j hj
                  by_cases e2 : j < i
                  · rw [if_pos e2] at h; rw [if_pos (by omega)]; exact h
                  · rw [if_neg e2] at h; rw [if_neg (by omega)]; exact h))
            | exact xw_ls [(0, vR 22), (1, vI (t : Int)), (2, vI ((i + 1 : Nat) : Int))] ⟨rfl, rfl, rfl, trivial⟩ (ih (i + 1) f1 rv1 (by omega) hf e27 (fun j hj => by
                by_cases e : j = i
                · subst e
                  rw [if_pos (by omega)]
                  refine ⟨hi1.1, fun q => ?_⟩
                  rw [hi1.2 q]
                  exact ⟨Or.inl, fun h => h.elim id (fun h => Bool.noConfusion (h_55.symm.trans ((hi1.2 t).mpr h.1)))⟩
                · have h := hI j hj
                  by_cases e2 : j < i
                  · rw [if_pos e2] at h; rw [if_pos (by omega)]; exact h
                  · rw [if_neg e2] at h; rw [if_neg (by omega)]; exact h))
        · skip
          refine xw_ifeq (tgt := 76) dX8_findReach_58 (by decide) (by unfold inI; omega) (fun _ => ?_) (fun c => absurd c (by decide))
          refine xw_iinc dX8_findReach_76 rfl (by decide) ?_
          refine xw_goto (tgt := 40) dX8_findReach_79 (by decide) ?_
          first
            | exact xw_ls [(0, vR 22), (1, vI (t : Int)), (2, vI ((i + 1 : Nat) : Int))] ⟨rfl, rfl, rfl, trivial⟩ (ih (i + 1) _ (xui rv1 i (rv1 i ||| rv1 t)) (by omega) (fr_up hf (by decide)) (xup_s _ _ _) (fun j hj => by
                by_cases e : j = i
                · subst e
                  rw [xui_s, if_pos (by omega)]
                  refine ⟨Nat.or_lt_two_pow hi1.1 ht1.1, fun q => ?_⟩
                  rw [Nat.testBit_or, Bool.or_eq_true, hi1.2 q, ht2 q]
                  exact ⟨fun h => h.elim Or.inl (fun h => Or.inr ⟨(hi1.2 t).mp h_55, h⟩), fun h => h.elim Or.inl (fun h => Or.inr h.2)⟩
                · rw [xui_n _ _ e]
                  have h := hI j hj
                  by_cases e2 : j < i
                  · rw [if_pos e2] at h; rw [if_pos (by omega)]; exact h
                  · rw [if_neg e2] at h; rw [if_neg (by omega)]; exact h))
            | exact xw_ls [(0, vR 22), (1, vI (t : Int)), (2, vI ((i + 1 : Nat) : Int))] ⟨rfl, rfl, rfl, trivial⟩ (ih (i + 1) f1 rv1 (by omega) hf e27 (fun j hj => by
                by_cases e : j = i
                · subst e
                  rw [if_pos (by omega)]
                  refine ⟨hi1.1, fun q => ?_⟩
                  rw [hi1.2 q]
                  exact ⟨Or.inl, fun h => h.elim id (fun h => Bool.noConfusion (h_55.symm.trans ((hi1.2 t).mpr h.1)))⟩
                · have h := hI j hj
                  by_cases e2 : j < i
                  · rw [if_pos e2] at h; rw [if_pos (by omega)]; exact h
                  · rw [if_neg e2] at h; rw [if_neg (by omega)]; exact h))
  have O : ∀ (m t : Nat) (f1 : xH) (rv1 : Nat → Nat), t + m = sz → fr [27] f f1 → f1 27 = some (aS 40 rv1) → (∀ j, j < sz → rv1 j < 2 ^ 40 ∧ ∀ q, (rv1 j).testBit q = true ↔ WP av t q j) → xw g M_X8_findReach Q 0 0 30 [(0, vR 22), (1, vI (t : Int))] [] n f1 := by
    intro m
    induction m with
    | zero =>
      intro t f1 rv1 ht hf e27 hI
      have e22 : f1 22 = some (oTg sz ls kc) := fr_at hf h22 (by decide)
      refine xw_iload_n dX8_findReach_30 rfl ?_
      refine xw_aload_n dX8_findReach_31 rfl ?_
      refine xw_getfield dX8_findReach_32 fl_X8_40 e22 rfl ?_
      refine xw_icmpge (tgt := 88) dX8_findReach_35 (by decide) (by unfold inI; omega) (by unfold inI; omega) (fun c_35 => ?_) (fun c_35 => ?_)
      · skip
        exact xw_vret dX8_findReach_88 rfl (hq f1 rv1 hf e27 (by rw [show t = sz by omega] at hI; exact hI))
      · skip
        exfalso; omega
    | succ m ih =>
      intro t f1 rv1 ht hf e27 hI
      have e22 : f1 22 = some (oTg sz ls kc) := fr_at hf h22 (by decide)
      have K : ∀ f2 rv2, fr [27] f f2 → f2 27 = some (aS 40 rv2) → (∀ j, j < sz → rv2 j < 2 ^ 40 ∧ ∀ q, (rv2 j).testBit q = true ↔ WP av (t + 1) q j) → xw g M_X8_findReach Q 0 0 82 [(0, vR 22), (1, vI (t : Int))] [] n f2 := by
        intro f2 rv2 hf2 e272 hI2
        refine xw_iinc dX8_findReach_82 rfl (by decide) ?_
        refine xw_goto (tgt := 30) dX8_findReach_85 (by decide) ?_
        exact xw_ls [(0, vR 22), (1, vI ((t + 1 : Nat) : Int))] ⟨rfl, rfl, trivial⟩ (ih (t + 1) f2 rv2 (by omega) hf2 e272 hI2)
      refine xw_iload_n dX8_findReach_30 rfl ?_
      refine xw_aload_n dX8_findReach_31 rfl ?_
      refine xw_getfield dX8_findReach_32 fl_X8_40 e22 rfl ?_
      refine xw_icmpge (tgt := 88) dX8_findReach_35 (by decide) (by unfold inI; omega) (by unfold inI; omega) (fun c_35 => ?_) (fun c_35 => ?_)
      · skip
        exfalso; omega
      · skip
        refine xw_iconst dX8_findReach_38 ?_
        refine xw_istore_n dX8_findReach_39 (by decide) ?_
        exact xw_ls [(0, vR 22), (1, vI (t : Int)), (2, vI ((0 : Nat) : Int))] ⟨rfl, rfl, rfl, trivial⟩ (I t (by omega) K sz 0 f1 rv1 (by omega) hf e27 (fun j hj => by rw [if_neg (by omega)]; exact hI j hj))
  have C : ∀ (m i : Nat) (f1 : xH) (rv1 : Nat → Nat), i + m = sz → fr [27] f f1 → f1 27 = some (aS 40 rv1) → (∀ j, j < i → rv1 j = av j) → xw g M_X8_findReach Q 0 0 2 [(0, vR 22), (1, vI (i : Int))] [] n f1 := by
    intro m
    induction m with
    | zero =>
      intro i f1 rv1 hi hf e27 hI
      have e22 : f1 22 = some (oTg sz ls kc) := fr_at hf h22 (by decide)
      refine xw_iload_n dX8_findReach_2 rfl ?_
      refine xw_aload_n dX8_findReach_3 rfl ?_
      refine xw_getfield dX8_findReach_4 fl_X8_40 e22 rfl ?_
      refine xw_icmpge (tgt := 28) dX8_findReach_7 (by decide) (by unfold inI; omega) (by unfold inI; omega) (fun c_7 => ?_) (fun c_7 => ?_)
      · skip
        refine xw_iconst dX8_findReach_28 ?_
        refine xw_istore_n dX8_findReach_29 (by decide) ?_
        exact xw_ls [(0, vR 22), (1, vI ((0 : Nat) : Int))] ⟨rfl, rfl, trivial⟩ (O sz 0 f1 rv1 (by omega) hf e27 (fun j hj => by rw [hI j (by omega)]; exact ⟨hav j hj, fun q => Iff.rfl⟩))
      · skip
        exfalso; omega
    | succ m ih =>
      intro i f1 rv1 hi hf e27 hI
      have e22 : f1 22 = some (oTg sz ls kc) := fr_at hf h22 (by decide)
      have e25 : f1 25 = some (aS 40 av) := fr_at hf h25 (by decide)
      refine xw_iload_n dX8_findReach_2 rfl ?_
      refine xw_aload_n dX8_findReach_3 rfl ?_
      refine xw_getfield dX8_findReach_4 fl_X8_40 e22 rfl ?_
      refine xw_icmpge (tgt := 28) dX8_findReach_7 (by decide) (by unfold inI; omega) (by unfold inI; omega) (fun c_7 => ?_) (fun c_7 => ?_)
      · skip
        exfalso; omega
      · skip
        refine xw_aload_n dX8_findReach_10 rfl ?_
        refine xw_getfield dX8_findReach_11 fl_X8_25 e22 rfl ?_
        refine xw_iload_n dX8_findReach_14 rfl ?_
        refine xw_aload_n dX8_findReach_15 rfl ?_
        refine xw_getfield dX8_findReach_16 fl_X8_18 e22 rfl ?_
        refine xw_iload_n dX8_findReach_19 rfl ?_
        refine xw_lald dX8_findReach_20 e25 (j := i) rfl (by omega) (by decide) ?_
        refine xw_last dX8_findReach_21 e27 (j := i) rfl (by omega) (by decide) ?_
        rw [xui_cast]
        refine xw_iinc dX8_findReach_22 rfl (by decide) ?_
        refine xw_goto (tgt := 2) dX8_findReach_25 (by decide) ?_
        exact xw_ls [(0, vR 22), (1, vI ((i + 1 : Nat) : Int))] ⟨rfl, rfl, trivial⟩ (ih (i + 1) _ (xui rv1 i (av i)) (by omega) (fr_up hf (by decide)) (xup_s _ _ _) (fun j hj => by by_cases e : j = i; (subst e; exact xui_s _ _ _); (rw [xui_n _ _ e]; exact hI j (by omega))))
  refine xw_iconst dX8_findReach_0 ?_
  refine xw_istore_n dX8_findReach_1 (by decide) ?_
  exact xw_ls [(0, vR 22), (1, vI ((0 : Nat) : Int))] ⟨rfl, rfl, trivial⟩ (C sz 0 f rv (by omega) (fr_rf _ _) h27 (fun j hj => by omega))
set_option maxHeartbeats 4000000 in
theorem ct_held {sz p : Nat} {ls kc : Int} {rv : Nat → Nat} (h22 : f 22 = some (oTg sz ls kc)) (h27 : f 27 = some (aS 40 rv)) (hsz : sz ≤ 40) (hp : p < sz) (hrv : ∀ j, j < sz → rv j < 2 ^ 40) (hq : Q (.inl (some (vL ((hld rv p sz : Nat) : Int)))) n f) : xct g M_X8_heldTogetherWith 0 0 [vR 22, vI (p : Int)] n f Q := by
  refine xct_of rfl rfl (Nat.le_of_ble_eq_true rfl) ?_
  have B62 : ∀ {x : Nat}, x < 2 ^ 40 → x < 2 ^ 62 := fun h => Nat.lt_of_lt_of_le h (xp2 (by decide))
  have K : ∀ (m i : Nat), i + m = sz → xw g M_X8_heldTogetherWith Q 0 0 5 [(0, vR 22), (1, vI (p : Int)), (2, vL ((hld rv p i : Nat) : Int)), (4, vI (i : Int))] [] n f := by
    intro m
    induction m with
    | zero =>
      intro i hi
      refine xw_iload dX8_heldTogetherWith_5 rfl ?_
      refine xw_aload_n dX8_heldTogetherWith_7 rfl ?_
      refine xw_getfield dX8_heldTogetherWith_8 fl_X8_40 h22 rfl ?_
      refine xw_icmpge (tgt := 55) dX8_heldTogetherWith_11 (by decide) (by unfold inI; omega) (by unfold inI; omega) (fun c_11 => ?_) (fun c_11 => ?_)
      · skip
        refine xw_lload_n dX8_heldTogetherWith_55 rfl ?_
        exact xw_lret dX8_heldTogetherWith_56 rfl (by rw [show i = sz by omega]; exact hq)
      · skip
        exfalso; omega
    | succ m ih =>
      intro i hi
      have hih := ih (i + 1) (by omega)
      unfold hld at hih
      have hh : hld rv p i < 2 ^ 62 := Nat.lt_of_lt_of_le (hld_lt rv p i) (xp2 (by omega))
      have h2 : (2 : Nat) ^ i < 2 ^ 62 := Nat.pow_lt_pow_right (by decide) (by omega)
      refine xw_iload dX8_heldTogetherWith_5 rfl ?_
      refine xw_aload_n dX8_heldTogetherWith_7 rfl ?_
      refine xw_getfield dX8_heldTogetherWith_8 fl_X8_40 h22 rfl ?_
      refine xw_icmpge (tgt := 55) dX8_heldTogetherWith_11 (by decide) (by unfold inI; omega) (by unfold inI; omega) (fun c_11 => ?_) (fun c_11 => ?_)
      · skip
        exfalso; omega
      · skip
        refine xw_aload_n dX8_heldTogetherWith_14 rfl ?_
        refine xw_getfield dX8_heldTogetherWith_15 fl_X8_25 h22 rfl ?_
        refine xw_iload_n dX8_heldTogetherWith_18 rfl ?_
        refine xw_lald dX8_heldTogetherWith_19 h27 (j := p) rfl (by omega) (by decide) ?_
        refine xw_iload dX8_heldTogetherWith_20 rfl ?_
        refine xw_callSN (rc := 0) (rs := 0) (mc2 := 0) (ms2 := 0) (As := [vL ((rv p : Nat) : Int), vI (i : Int)]) (st := []) dX8_heldTogetherWith_22 sn_X8_48 (by decide) (by decide) (Nat.le_of_ble_eq_true rfl) rfl (ct_isIn (B62 (hrv p hp)) (by omega) (fun h_22 => ?_) (fun h_22 => ?_))
        · skip
          refine xw_ifeq (tgt := 49) dX8_heldTogetherWith_25 (by decide) (by unfold inI; omega) (fun c => absurd c (by decide)) (fun _ => ?_)
          refine xw_aload_n dX8_heldTogetherWith_28 rfl ?_
          refine xw_getfield dX8_heldTogetherWith_29 fl_X8_25 h22 rfl ?_
          refine xw_iload dX8_heldTogetherWith_32 rfl ?_
          refine xw_lald dX8_heldTogetherWith_34 h27 (j := i) rfl (by omega) (by decide) ?_
          refine xw_iload_n dX8_heldTogetherWith_35 rfl ?_
          refine xw_callSN (rc := 0) (rs := 0) (mc2 := 0) (ms2 := 0) (As := [vL ((rv i : Nat) : Int), vI (p : Int)]) (st := []) dX8_heldTogetherWith_36 sn_X8_48 (by decide) (by decide) (Nat.le_of_ble_eq_true rfl) rfl (ct_isIn (B62 (hrv i (by omega))) (by omega) (fun h_36 => ?_) (fun h_36 => ?_))
          · skip
            refine xw_ifeq (tgt := 49) dX8_heldTogetherWith_39 (by decide) (by unfold inI; omega) (fun c => absurd c (by decide)) (fun _ => ?_)
            refine xw_lload_n dX8_heldTogetherWith_42 rfl ?_
            refine xw_lconst (z := 1) dX8_heldTogetherWith_43 (by decide) ?_
            refine xw_iload dX8_heldTogetherWith_44 rfl ?_
            refine xw_lshl dX8_heldTogetherWith_46 (xb_shl (b := i) (by omega)) ?_
            refine xw_lor dX8_heldTogetherWith_47 (xb_or hh h2) ?_
            refine xw_lstore_n dX8_heldTogetherWith_48 (by decide) ?_
            refine xw_iinc dX8_heldTogetherWith_49 rfl (by decide) ?_
            refine xw_goto (tgt := 5) dX8_heldTogetherWith_52 (by decide) ?_
            first
              | (rw [if_pos ⟨h_22, h_36⟩] at hih; exact xw_ls [(0, vR 22), (1, vI (p : Int)), (2, vL ((hld rv p i ||| 2 ^ i : Nat) : Int)), (4, vI ((i + 1 : Nat) : Int))] ⟨rfl, rfl, rfl, rfl, trivial⟩ hih)
              | (rw [if_neg (fun h => Bool.noConfusion (h_36.symm.trans h.2))] at hih; exact xw_ls [(0, vR 22), (1, vI (p : Int)), (2, vL ((hld rv p i : Nat) : Int)), (4, vI ((i + 1 : Nat) : Int))] ⟨rfl, rfl, rfl, rfl, trivial⟩ hih)
              | (rw [if_neg (fun h => Bool.noConfusion (h_22.symm.trans h.1))] at hih; exact xw_ls [(0, vR 22), (1, vI (p : Int)), (2, vL ((hld rv p i : Nat) : Int)), (4, vI ((i + 1 : Nat) : Int))] ⟨rfl, rfl, rfl, rfl, trivial⟩ hih)
          · skip
            refine xw_ifeq (tgt := 49) dX8_heldTogetherWith_39 (by decide) (by unfold inI; omega) (fun _ => ?_) (fun c => absurd c (by decide))
            refine xw_iinc dX8_heldTogetherWith_49 rfl (by decide) ?_
            refine xw_goto (tgt := 5) dX8_heldTogetherWith_52 (by decide) ?_
            first
              | (rw [if_pos ⟨h_22, h_36⟩] at hih; exact xw_ls [(0, vR 22), (1, vI (p : Int)), (2, vL ((hld rv p i ||| 2 ^ i : Nat) : Int)), (4, vI ((i + 1 : Nat) : Int))] ⟨rfl, rfl, rfl, rfl, trivial⟩ hih)
              | (rw [if_neg (fun h => Bool.noConfusion (h_36.symm.trans h.2))] at hih; exact xw_ls [(0, vR 22), (1, vI (p : Int)), (2, vL ((hld rv p i : Nat) : Int)), (4, vI ((i + 1 : Nat) : Int))] ⟨rfl, rfl, rfl, rfl, trivial⟩ hih)
              | (rw [if_neg (fun h => Bool.noConfusion (h_22.symm.trans h.1))] at hih; exact xw_ls [(0, vR 22), (1, vI (p : Int)), (2, vL ((hld rv p i : Nat) : Int)), (4, vI ((i + 1 : Nat) : Int))] ⟨rfl, rfl, rfl, rfl, trivial⟩ hih)
        · skip
          refine xw_ifeq (tgt := 49) dX8_heldTogetherWith_25 (by decide) (by unfold inI; omega) (fun _ => ?_) (fun c => absurd c (by decide))
          refine xw_iinc dX8_heldTogetherWith_49 rfl (by decide) ?_
          refine xw_goto (tgt := 5) dX8_heldTogetherWith_52 (by decide) ?_
          first
            | (rw [if_pos ⟨h_22, h_36⟩] at hih; exact xw_ls [(0, vR 22), (1, vI (p : Int)), (2, vL ((hld rv p i ||| 2 ^ i : Nat) : Int)), (4, vI ((i + 1 : Nat) : Int))] ⟨rfl, rfl, rfl, rfl, trivial⟩ hih)
            | (rw [if_neg (fun h => Bool.noConfusion (h_36.symm.trans h.2))] at hih; exact xw_ls [(0, vR 22), (1, vI (p : Int)), (2, vL ((hld rv p i : Nat) : Int)), (4, vI ((i + 1 : Nat) : Int))] ⟨rfl, rfl, rfl, rfl, trivial⟩ hih)
            | (rw [if_neg (fun h => Bool.noConfusion (h_22.symm.trans h.1))] at hih; exact xw_ls [(0, vR 22), (1, vI (p : Int)), (2, vL ((hld rv p i : Nat) : Int)), (4, vI ((i + 1 : Nat) : Int))] ⟨rfl, rfl, rfl, rfl, trivial⟩ hih)
  refine xw_lconst (z := 0) dX8_heldTogetherWith_0 (by decide) ?_
  refine xw_lstore_n dX8_heldTogetherWith_1 (by decide) ?_
  refine xw_iconst dX8_heldTogetherWith_2 ?_
  refine xw_istore dX8_heldTogetherWith_3 (by decide) ?_
  exact xw_ls [(0, vR 22), (1, vI (p : Int)), (2, vL ((hld rv p 0 : Nat) : Int)), (4, vI ((0 : Nat) : Int))] ⟨rfl, rfl, rfl, rfl, trivial⟩ (K sz 0 (by omega))
set_option maxHeartbeats 4000000 in
theorem ct_findKnots {sz : Nat} {ls kc : Int} {rv ks : Nat → Nat} (h22 : f 22 = some (oTg sz ls kc)) (h27 : f 27 = some (aS 40 rv)) (h30 : f 30 = some (aS 20 ks)) (hsz : sz ≤ 40) (hrv : ∀ j, j < sz → rv j < 2 ^ 40)
    (hq : ∀ f1 (r : Nat × (Nat → Nat)), r = kns rv sz sz 0 0 0 ks → fr [22, 30] f f1 → f1 22 = some (oTg sz ls r.1) → f1 30 = some (aS 20 r.2) → Q (.inl none) n f1) : xct g M_X8_findKnots 0 0 [vR 22] n f Q := by
  refine xct_of rfl rfl (Nat.le_of_ble_eq_true rfl) ?_
  have B62 : ∀ {x : Nat}, x < 2 ^ 40 → x < 2 ^ 62 := fun h => Nat.lt_of_lt_of_le h (xp2 (by decide))
  obtain ⟨R, hR⟩ : ∃ R, R = kns rv sz sz 0 0 0 ks := ⟨_, rfl⟩
  have K : ∀ (m i dn c : Nat) (ks1 : Nat → Nat) (f1 : xH), i + m = sz → dn < 2 ^ 40 → c ≤ i → kns rv sz m i dn c ks1 = R → fr [22, 30] f f1 → f1 22 = some (oTg sz ls (c : Int)) → f1 30 = some (aS 20 ks1) → xw g M_X8_findKnots Q 0 0 9 [(0, vR 22), (1, vL (dn : Int)), (3, vI (i : Int))] [] n f1 := by
    intro m
    induction m with
    | zero =>
      intro i dn c ks1 f1 hi hdn hc he hf e22 e30
      refine xw_iload_n dX8_findKnots_9 rfl ?_
      refine xw_aload_n dX8_findKnots_10 rfl ?_
      refine xw_getfield dX8_findKnots_11 fl_X8_40 e22 rfl ?_
      refine xw_icmpge (tgt := 89) dX8_findKnots_14 (by decide) (by unfold inI; omega) (by unfold inI; omega) (fun c_14 => ?_) (fun c_14 => ?_)
      · skip
        exact xw_vret dX8_findKnots_89 rfl (hq f1 (c, ks1) (he.trans hR) hf e22 e30)
      · skip
        exfalso; omega
    | succ m ih =>
      intro i dn c ks1 f1 hi hdn hc he hf e22 e30
      have e27 : f1 27 = some (aS 40 rv) := fr_at hf h27 (by decide)
      unfold kns at he
      have hh : hld rv i sz < 2 ^ 40 := Nat.lt_of_lt_of_le (hld_lt rv i sz) (xp2 hsz)
      refine xw_iload_n dX8_findKnots_9 rfl ?_
      refine xw_aload_n dX8_findKnots_10 rfl ?_
      refine xw_getfield dX8_findKnots_11 fl_X8_40 e22 rfl ?_
      refine xw_icmpge (tgt := 89) dX8_findKnots_14 (by decide) (by unfold inI; omega) (by unfold inI; omega) (fun c_14 => ?_) (fun c_14 => ?_)
      · skip
        exfalso; omega
      · skip
        refine xw_lload_n dX8_findKnots_17 rfl ?_
        refine xw_iload_n dX8_findKnots_18 rfl ?_
        refine xw_callSN (rc := 0) (rs := 0) (mc2 := 0) (ms2 := 0) (As := [vL (dn : Int), vI (i : Int)]) (st := []) dX8_findKnots_19 sn_X8_48 (by decide) (by decide) (Nat.le_of_ble_eq_true rfl) rfl (ct_isIn (B62 hdn) (by omega) (fun h_19 => ?_) (fun h_19 => ?_))
        · skip
          refine xw_ifne (tgt := 83) dX8_findKnots_22 (by decide) (by unfold inI; omega) (fun _ => ?_) (fun c => absurd c (by decide))
          refine xw_iinc dX8_findKnots_83 rfl (by decide) ?_
          refine xw_goto (tgt := 9) dX8_findKnots_86 (by decide) ?_
          first
            | (rw [if_pos ⟨h_19, h_32, by omega⟩] at he; exact xw_ls [(0, vR 22), (1, vL ((dn ||| hld rv i sz : Nat) : Int)), (3, vI ((i + 1 : Nat) : Int))] ⟨rfl, rfl, rfl, trivial⟩ (ih (i + 1) (dn ||| hld rv i sz) (c + 1) _ _ (by omega) (Nat.or_lt_two_pow hdn hh) (by omega) he (fr_up (fr_up hf (by decide)) (by decide)) (xup_s _ _ _) rfl))
            | (rw [if_neg (fun h => by omega)] at he; exact xw_ls [(0, vR 22), (1, vL (dn : Int)), (3, vI ((i + 1 : Nat) : Int))] ⟨rfl, rfl, rfl, trivial⟩ (ih (i + 1) dn c ks1 f1 (by omega) hdn (by omega) he hf e22 e30))
            | (rw [if_neg (fun h => Bool.noConfusion (h_32.symm.trans h.2.1))] at he; exact xw_ls [(0, vR 22), (1, vL (dn : Int)), (3, vI ((i + 1 : Nat) : Int))] ⟨rfl, rfl, rfl, trivial⟩ (ih (i + 1) dn c ks1 f1 (by omega) hdn (by omega) he hf e22 e30))
            | (rw [if_neg (fun h => Bool.noConfusion (h.1.symm.trans h_19))] at he; exact xw_ls [(0, vR 22), (1, vL (dn : Int)), (3, vI ((i + 1 : Nat) : Int))] ⟨rfl, rfl, rfl, trivial⟩ (ih (i + 1) dn c ks1 f1 (by omega) hdn (by omega) he hf e22 e30))
        · skip
          refine xw_ifne (tgt := 83) dX8_findKnots_22 (by decide) (by unfold inI; omega) (fun c => absurd c (by decide)) (fun _ => ?_)
          refine xw_aload_n dX8_findKnots_25 rfl ?_
          refine xw_getfield dX8_findKnots_26 fl_X8_25 e22 rfl ?_
          refine xw_iload_n dX8_findKnots_29 rfl ?_
          refine xw_lald dX8_findKnots_30 e27 (j := i) rfl (by omega) (by decide) ?_
          refine xw_iload_n dX8_findKnots_31 rfl ?_
          refine xw_callSN (rc := 0) (rs := 0) (mc2 := 0) (ms2 := 0) (As := [vL ((rv i : Nat) : Int), vI (i : Int)]) (st := []) dX8_findKnots_32 sn_X8_48 (by decide) (by decide) (Nat.le_of_ble_eq_true rfl) rfl (ct_isIn (B62 (hrv i (by omega))) (by omega) (fun h_32 => ?_) (fun h_32 => ?_))
          · skip
            refine xw_ifeq (tgt := 83) dX8_findKnots_35 (by decide) (by unfold inI; omega) (fun c => absurd c (by decide)) (fun _ => ?_)
            refine xw_aload_n dX8_findKnots_38 rfl ?_
            refine xw_getfield dX8_findKnots_39 fl_X8_92 e22 rfl ?_
            refine xw_aload_n dX8_findKnots_42 rfl ?_
            refine xw_getfield dX8_findKnots_43 fl_X8_34 e22 rfl ?_
            refine xw_alen (N := 20) dX8_findKnots_46 e30 rfl ?_
            refine xw_icmpge (tgt := 83) dX8_findKnots_47 (by decide) (by unfold inI; omega) (by unfold inI; omega) (fun c_47 => ?_) (fun c_47 => ?_)
            · skip
              refine xw_iinc dX8_findKnots_83 rfl (by decide) ?_
              refine xw_goto (tgt := 9) dX8_findKnots_86 (by decide) ?_
              first
                | (rw [if_pos ⟨h_19, h_32, by omega⟩] at he; exact xw_ls [(0, vR 22), (1, vL ((dn ||| hld rv i sz : Nat) : Int)), (3, vI ((i + 1 : Nat) : Int))] ⟨rfl, rfl, rfl, trivial⟩ (ih (i + 1) (dn ||| hld rv i sz) (c + 1) _ _ (by omega) (Nat.or_lt_two_pow hdn hh) (by omega) he (fr_up (fr_up hf (by decide)) (by decide)) (xup_s _ _ _) rfl))
                | (rw [if_neg (fun h => by omega)] at he; exact xw_ls [(0, vR 22), (1, vL (dn : Int)), (3, vI ((i + 1 : Nat) : Int))] ⟨rfl, rfl, rfl, trivial⟩ (ih (i + 1) dn c ks1 f1 (by omega) hdn (by omega) he hf e22 e30))
                | (rw [if_neg (fun h => Bool.noConfusion (h_32.symm.trans h.2.1))] at he; exact xw_ls [(0, vR 22), (1, vL (dn : Int)), (3, vI ((i + 1 : Nat) : Int))] ⟨rfl, rfl, rfl, trivial⟩ (ih (i + 1) dn c ks1 f1 (by omega) hdn (by omega) he hf e22 e30))
                | (rw [if_neg (fun h => Bool.noConfusion (h.1.symm.trans h_19))] at he; exact xw_ls [(0, vR 22), (1, vL (dn : Int)), (3, vI ((i + 1 : Nat) : Int))] ⟨rfl, rfl, rfl, trivial⟩ (ih (i + 1) dn c ks1 f1 (by omega) hdn (by omega) he hf e22 e30))
            · skip
              refine xw_aload_n dX8_findKnots_50 rfl ?_
              refine xw_iload_n dX8_findKnots_51 rfl ?_
              refine xw_callV (rc := 0) (rs := 0) (mc2 := 0) (ms2 := 0) (a := 22) (As := [vI (i : Int)]) (st := []) dX8_findKnots_52 mv_X8_95 e22 rfl rfl (by decide) (by decide) (Nat.le_of_ble_eq_true rfl) rfl (ct_held e22 e27 hsz (by omega) hrv ?_)
              refine xw_lstore dX8_findKnots_55 (by decide) ?_
              refine xw_aload_n dX8_findKnots_57 rfl ?_
              refine xw_getfield dX8_findKnots_58 fl_X8_34 e22 rfl ?_
              refine xw_aload_n dX8_findKnots_61 rfl ?_
              refine xw_getfield dX8_findKnots_62 fl_X8_92 e22 rfl ?_
              refine xw_lload dX8_findKnots_65 rfl ?_
              refine xw_last dX8_findKnots_67 e30 (j := c) rfl (by omega) (by decide) ?_
              rw [xui_cast]
              refine xw_aload_n dX8_findKnots_68 rfl ?_
              refine xw_dup dX8_findKnots_69 rfl ?_
              refine xw_getfield dX8_findKnots_70 fl_X8_92 e22 rfl ?_
              refine xw_iconst dX8_findKnots_73 ?_
              refine xw_iadd dX8_findKnots_74 ?_
              refine xw_putfield dX8_findKnots_75 (fp_X8_92 _) e22 rfl rfl ?_
              rw [fX8_9]
              refine xw_lload_n dX8_findKnots_78 rfl ?_
              refine xw_lload dX8_findKnots_79 rfl ?_
              refine xw_lor dX8_findKnots_81 (xb_or (B62 hdn) (B62 hh)) ?_
              refine xw_lstore_n dX8_findKnots_82 (by decide) ?_
              refine xw_iinc dX8_findKnots_83 rfl (by decide) ?_
              refine xw_goto (tgt := 9) dX8_findKnots_86 (by decide) ?_
              first
                | (rw [if_pos ⟨h_19, h_32, by omega⟩] at he; exact xw_ls [(0, vR 22), (1, vL ((dn ||| hld rv i sz : Nat) : Int)), (3, vI ((i + 1 : Nat) : Int))] ⟨rfl, rfl, rfl, trivial⟩ (ih (i + 1) (dn ||| hld rv i sz) (c + 1) _ _ (by omega) (Nat.or_lt_two_pow hdn hh) (by omega) he (fr_up (fr_up hf (by decide)) (by decide)) (xup_s _ _ _) rfl))
                | (rw [if_neg (fun h => by omega)] at he; exact xw_ls [(0, vR 22), (1, vL (dn : Int)), (3, vI ((i + 1 : Nat) : Int))] ⟨rfl, rfl, rfl, trivial⟩ (ih (i + 1) dn c ks1 f1 (by omega) hdn (by omega) he hf e22 e30))
                | (rw [if_neg (fun h => Bool.noConfusion (h_32.symm.trans h.2.1))] at he; exact xw_ls [(0, vR 22), (1, vL (dn : Int)), (3, vI ((i + 1 : Nat) : Int))] ⟨rfl, rfl, rfl, trivial⟩ (ih (i + 1) dn c ks1 f1 (by omega) hdn (by omega) he hf e22 e30))
                | (rw [if_neg (fun h => Bool.noConfusion (h.1.symm.trans h_19))] at he; exact xw_ls [(0, vR 22), (1, vL (dn : Int)), (3, vI ((i + 1 : Nat) : Int))] ⟨rfl, rfl, rfl, trivial⟩ (ih (i + 1) dn c ks1 f1 (by omega) hdn (by omega) he hf e22 e30))
          · skip
            refine xw_ifeq (tgt := 83) dX8_findKnots_35 (by decide) (by unfold inI; omega) (fun _ => ?_) (fun c => absurd c (by decide))
            refine xw_iinc dX8_findKnots_83 rfl (by decide) ?_
            refine xw_goto (tgt := 9) dX8_findKnots_86 (by decide) ?_
            first
              | (rw [if_pos ⟨h_19, h_32, by omega⟩] at he; exact xw_ls [(0, vR 22), (1, vL ((dn ||| hld rv i sz : Nat) : Int)), (3, vI ((i + 1 : Nat) : Int))] ⟨rfl, rfl, rfl, trivial⟩ (ih (i + 1) (dn ||| hld rv i sz) (c + 1) _ _ (by omega) (Nat.or_lt_two_pow hdn hh) (by omega) he (fr_up (fr_up hf (by decide)) (by decide)) (xup_s _ _ _) rfl))
              | (rw [if_neg (fun h => by omega)] at he; exact xw_ls [(0, vR 22), (1, vL (dn : Int)), (3, vI ((i + 1 : Nat) : Int))] ⟨rfl, rfl, rfl, trivial⟩ (ih (i + 1) dn c ks1 f1 (by omega) hdn (by omega) he hf e22 e30))
              | (rw [if_neg (fun h => Bool.noConfusion (h_32.symm.trans h.2.1))] at he; exact xw_ls [(0, vR 22), (1, vL (dn : Int)), (3, vI ((i + 1 : Nat) : Int))] ⟨rfl, rfl, rfl, trivial⟩ (ih (i + 1) dn c ks1 f1 (by omega) hdn (by omega) he hf e22 e30))
              | (rw [if_neg (fun h => Bool.noConfusion (h.1.symm.trans h_19))] at he; exact xw_ls [(0, vR 22), (1, vL (dn : Int)), (3, vI ((i + 1 : Nat) : Int))] ⟨rfl, rfl, rfl, trivial⟩ (ih (i + 1) dn c ks1 f1 (by omega) hdn (by omega) he hf e22 e30))
  refine xw_aload_n dX8_findKnots_0 rfl ?_
  refine xw_iconst dX8_findKnots_1 ?_
  refine xw_putfield dX8_findKnots_2 (fp_X8_92 _) h22 rfl rfl ?_
  rw [fX8_9]
  refine xw_lconst (z := 0) dX8_findKnots_5 (by decide) ?_
  refine xw_lstore_n dX8_findKnots_6 (by decide) ?_
  refine xw_iconst dX8_findKnots_7 ?_
  refine xw_istore_n dX8_findKnots_8 (by decide) ?_
  exact xw_ls [(0, vR 22), (1, vL ((0 : Nat) : Int)), (3, vI ((0 : Nat) : Int))] ⟨rfl, rfl, rfl, trivial⟩ (K sz 0 0 0 ks _ (by omega) (by decide) (by omega) hR.symm (fr_up (fr_rf _ _) (by decide)) (xup_s _ _ _) h30)
end C43
