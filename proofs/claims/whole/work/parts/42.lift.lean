/-! the order in which all can be lifted -/
/-- only these cells have changed -/
def fr (S : List Nat) (f f1 : xH) : Prop := ∀ k, k ∉ S → f1 k = f k
theorem fr_rf (S : List Nat) (f : xH) : fr S f f := fun _ _ => rfl
theorem fr_up {S : List Nat} {f f1 : xH} {a : Nat} {e : xE} (h : fr S f f1) (ha : a ∈ S) : fr S f (xup f1 a e) := fun k hk => (xup_n _ _ (fun q => hk (by rw [q]; exact ha))).trans (h k hk)
theorem fr_tr {S : List Nat} {f f1 f2 : xH} (h : fr S f f1) (h2 : fr S f1 f2) : fr S f f2 := fun k hk => (h2 k hk).trans (h k hk)
theorem fr_sub {S T : List Nat} {f f1 : xH} (h : fr S f f1) (hs : ∀ k ∈ S, k ∈ T) : fr T f f1 := fun k hk => h k (fun q => hk (hs k q))
theorem fr_at {S : List Nat} {f f1 : xH} (h : fr S f f1) {k : Nat} {e : xE} (he : f k = some e) (hk : k ∉ S) : f1 k = some e := (h k hk).trans he
def lfree (av : Nat → Nat) (L : Nat) : Nat → Nat → Int
  | _, 0 => -1
  | a, k + 1 => if L.testBit a = true ∧ av a &&& L = 0 then (a : Int) else lfree av L (a + 1) k
theorem lfree_in (av : Nat → Nat) (L : Nat) : ∀ (k a : Nat), (lfree av L a k = -1 ∧ ∀ p, a ≤ p → p < a + k → ¬ (L.testBit p = true ∧ av p &&& L = 0)) ∨ ∃ p : Nat, a ≤ p ∧ p < a + k ∧ lfree av L a k = (p : Int) ∧ (L.testBit p = true ∧ av p &&& L = 0) ∧ ∀ q, a ≤ q → q < p → ¬ (L.testBit q = true ∧ av q &&& L = 0) := by
  intro k
  induction k with
  | zero => intro a; exact Or.inl ⟨rfl, fun p h1 h2 => by omega⟩
  | succ k ih =>
    intro a
    unfold lfree
    by_cases h : L.testBit a = true ∧ av a &&& L = 0
    · rw [if_pos h]; exact Or.inr ⟨a, by omega, by omega, rfl, h, fun q h1 h2 => by omega⟩
    · rw [if_neg h]
      rcases ih (a + 1) with ⟨h1, h2⟩ | ⟨p, h1, h2, h3, h4, h5⟩
      · refine Or.inl ⟨h1, fun p q1 q2 => ?_⟩
        by_cases e : p = a
        · rw [e]; exact h
        · exact h2 p (by omega) (by omega)
      · refine Or.inr ⟨p, by omega, by omega, h3, h4, fun q q1 q2 => ?_⟩
        by_cases e : q = a
        · rw [e]; exact h
        · exact h5 q (by omega) q2
def lund (ly : Nat → Int) (b : Nat) : Nat → Int
  | 0 => 0
  | k + 1 => if b.testBit k = true then (if lund ly b k < ly k + 1 then ly k + 1 else lund ly b k) else lund ly b k
theorem lund_le {ly : Nat → Int} {b : Nat} {t : Int} (ht : 0 ≤ t) : ∀ (k : Nat), (∀ j, j < k → b.testBit j = true → 0 ≤ ly j ∧ ly j < t) → 0 ≤ lund ly b k ∧ lund ly b k ≤ t := by
  intro k
  induction k with
  | zero => intro _; exact ⟨Int.le_refl 0, ht⟩
  | succ k ih =>
    intro h
    have h1 := ih (fun j hj => h j (by omega))
    unfold lund
    split
    · next hb =>
      have h2 := h k (by omega) hb
      split <;> omega
    · exact h1
def lio (av : Nat → Nat) (sz : Nat) : Nat → Nat → Nat → (Nat → Int) → (Nat → Int) → Nat × ((Nat → Int) × (Nat → Int))
  | 0, t, _, lf, ly => (t, (lf, ly))
  | m + 1, t, L, lf, ly => if lfree av L 0 sz = -1 then (t, (lf, ly)) else lio av sz m (t + 1) (xclr L (lfree av L 0 sz).toNat) (xui lf t (lfree av L 0 sz)) (xui ly (lfree av L 0 sz).toNat (lund ly (av (lfree av L 0 sz).toNat) sz))
def lioI (sz t L : Nat) (ly : Nat → Int) : Prop := L < 2 ^ 40 ∧ (∀ j, j < sz → 0 ≤ ly j ∧ ly j ≤ 40) ∧ ∀ j, j < sz → L.testBit j = false → ly j < (t : Int)
theorem and0 {a b j : Nat} (h : a &&& b = 0) (ha : a.testBit j = true) : b.testBit j = false := by
  have h1 : (a &&& b).testBit j = false := by rw [h]; exact Nat.zero_testBit j
  rw [Nat.testBit_and, ha, Bool.true_and] at h1
  exact h1
theorem lioI_und {av : Nat → Nat} {sz t L p : Nat} {ly : Nat → Int} (h : lioI sz t L ly) (hp : av p &&& L = 0) : 0 ≤ lund ly (av p) sz ∧ lund ly (av p) sz ≤ (t : Int) :=
  lund_le (by omega) sz (fun j hj hb => ⟨(h.2.1 j hj).1, h.2.2 j hj (and0 hp hb)⟩)
theorem lioI_step {av : Nat → Nat} {sz t L p : Nat} {ly : Nat → Int} (h : lioI sz t L ly) (ht : t < 40) (hp : av p &&& L = 0) : lioI sz (t + 1) (xclr L p) (xui ly p (lund ly (av p) sz)) := by
  have h1 := lioI_und h hp
  refine ⟨Nat.lt_of_le_of_lt (xclr_le L p) h.1, fun j hj => ?_, fun j hj hb => ?_⟩
  · by_cases e : j = p
    · subst e; rw [xui_s]; omega
    · rw [xui_n _ _ e]; exact h.2.1 j hj
  · by_cases e : j = p
    · subst e; rw [xui_s]; omega
    · rw [xui_n _ _ e]
      rw [xclr_bit] at hb
      have h2 := h.2.2 j hj (by simpa [e] using hb)
      omega
theorem lio_ok (av : Nat → Nat) (sz : Nat) (hsz : sz ≤ 40) : ∀ (m t L : Nat) (lf ly : Nat → Int), t + m = sz → lioI sz t L ly → (lio av sz m t L lf ly).1 ≤ sz ∧ ∀ j, j < sz → 0 ≤ (lio av sz m t L lf ly).2.2 j ∧ (lio av sz m t L lf ly).2.2 j ≤ 40 := by
  intro m
  induction m with
  | zero => intro t L lf ly ht h; exact ⟨by show t ≤ sz; omega, h.2.1⟩
  | succ m ih =>
    intro t L lf ly ht h
    unfold lio
    by_cases e : lfree av L 0 sz = -1
    · rw [if_pos e]; exact ⟨by show t ≤ sz; omega, h.2.1⟩
    · rw [if_neg e]
      rcases lfree_in av L sz 0 with ⟨h1, -⟩ | ⟨p, h1, h2, h3, h4, -⟩
      · exact absurd h1 e
      · rw [h3]
        exact ih (t + 1) _ _ _ (by omega) (lioI_step h (by omega) h4.2)
section C42
variable {g : xG} {Q : xP} {n : Nat} {f : xH}
set_option maxHeartbeats 4000000 in
theorem ct_leastFree {sz L : Nat} {ls kc : Int} {av : Nat → Nat} (h22 : f 22 = some (oTg sz ls kc)) (h25 : f 25 = some (aS 40 av)) (hsz : sz ≤ 40) (hav : ∀ j, j < sz → av j < 2 ^ 40) (hL : L < 2 ^ 40) (hq : Q (.inl (some (vI (lfree av L 0 sz)))) n f) : xct g M_X8_leastFree 0 0 [vR 22, vL (L : Int)] n f Q := by
  refine xct_of rfl rfl (Nat.le_of_ble_eq_true rfl) ?_
  have hL2 : L < 2 ^ 62 := Nat.lt_of_lt_of_le hL (xp2 (by decide))
  have K : ∀ (m i : Nat), i + m = sz → Q (.inl (some (vI (lfree av L i m)))) n f → xw g M_X8_leastFree Q 0 0 2 [(0, vR 22), (1, vL (L : Int)), (3, vI (i : Int))] [] n f := by
    intro m
    induction m with
    | zero =>
      intro i hi hq
      refine xw_iload_n dX8_leastFree_2 rfl ?_
      refine xw_aload_n dX8_leastFree_3 rfl ?_
      refine xw_getfield dX8_leastFree_4 fl_X8_40 h22 rfl ?_
      refine xw_icmpge (tgt := 39) dX8_leastFree_7 (by decide) (by unfold inI; omega) (by unfold inI; omega) (fun c_7 => ?_) (fun c_7 => ?_)
      · skip
        refine xw_iconst dX8_leastFree_39 ?_
        exact xw_iret dX8_leastFree_40 rfl hq
      · skip
        exfalso; omega
    | succ m ih =>
      intro i hi hq
      unfold lfree at hq
      have ha2 : av i < 2 ^ 62 := Nat.lt_of_lt_of_le (hav i (by omega)) (xp2 (by decide))
      have hal : av i &&& L < 2 ^ 62 := Nat.and_lt_two_pow _ hL2
      rw [p62] at hal
      refine xw_iload_n dX8_leastFree_2 rfl ?_
      refine xw_aload_n dX8_leastFree_3 rfl ?_
      refine xw_getfield dX8_leastFree_4 fl_X8_40 h22 rfl ?_
      refine xw_icmpge (tgt := 39) dX8_leastFree_7 (by decide) (by unfold inI; omega) (by unfold inI; omega) (fun c_7 => ?_) (fun c_7 => ?_)
      · skip
        exfalso; omega
      · skip
        refine xw_lload_n dX8_leastFree_10 rfl ?_
        refine xw_iload_n dX8_leastFree_11 rfl ?_
        refine xw_callSN (rc := 0) (rs := 0) (mc2 := 0) (ms2 := 0) (As := [vL (L : Int), vI (i : Int)]) (st := []) dX8_leastFree_12 sn_X8_48 (by decide) (by decide) (Nat.le_of_ble_eq_true rfl) rfl (ct_isIn hL2 (by omega) (fun h_12 => ?_) (fun h_12 => ?_))
        · skip
          refine xw_ifeq (tgt := 33) dX8_leastFree_15 (by decide) (by unfold inI; omega) (fun c => absurd c (by decide)) (fun _ => ?_)
          refine xw_aload_n dX8_leastFree_18 rfl ?_
          refine xw_getfield dX8_leastFree_19 fl_X8_18 h22 rfl ?_
          refine xw_iload_n dX8_leastFree_22 rfl ?_
          refine xw_lald dX8_leastFree_23 h25 (j := i) rfl (by omega) (by decide) ?_
          refine xw_lload_n dX8_leastFree_24 rfl ?_
          refine xw_land dX8_leastFree_25 (xb_and ha2 hL2) ?_
          refine xw_lconst (z := 0) dX8_leastFree_26 (by decide) ?_
          refine xw_lcmpne (tgt := 33) dX8_leastFree_27 dX8_leastFree_28 (by decide) (by unfold inL; omega) (by unfold inL; omega) (fun c_27 => ?_) (fun c_27 => ?_)
          · skip
            refine xw_iinc dX8_leastFree_33 rfl (by decide) ?_
            refine xw_goto (tgt := 2) dX8_leastFree_36 (by decide) ?_
            exact xw_ls [(0, vR 22), (1, vL (L : Int)), (3, vI ((i + 1 : Nat) : Int))] ⟨rfl, rfl, rfl, trivial⟩ (ih (i + 1) (by omega) (by first | (rw [if_neg (fun h => Bool.noConfusion (h_12.symm.trans h.1))] at hq; exact hq) | (rw [if_neg (fun h => by omega)] at hq; exact hq)))
          · skip
            refine xw_iload_n dX8_leastFree_31 rfl ?_
            exact xw_iret dX8_leastFree_32 rfl (by rw [if_pos ⟨h_12, by omega⟩] at hq; exact hq)
        · skip
          refine xw_ifeq (tgt := 33) dX8_leastFree_15 (by decide) (by unfold inI; omega) (fun _ => ?_) (fun c => absurd c (by decide))
          refine xw_iinc dX8_leastFree_33 rfl (by decide) ?_
          refine xw_goto (tgt := 2) dX8_leastFree_36 (by decide) ?_
          exact xw_ls [(0, vR 22), (1, vL (L : Int)), (3, vI ((i + 1 : Nat) : Int))] ⟨rfl, rfl, rfl, trivial⟩ (ih (i + 1) (by omega) (by first | (rw [if_neg (fun h => Bool.noConfusion (h_12.symm.trans h.1))] at hq; exact hq) | (rw [if_neg (fun h => by omega)] at hq; exact hq)))
  refine xw_iconst dX8_leastFree_0 ?_
  refine xw_istore_n dX8_leastFree_1 (by decide) ?_
  exact xw_ls [(0, vR 22), (1, vL (L : Int)), (3, vI ((0 : Nat) : Int))] ⟨rfl, rfl, rfl, trivial⟩ (K sz 0 (by omega) hq)
set_option maxHeartbeats 4000000 in
theorem ct_layerUnder {sz b : Nat} {ls kc : Int} {ly : Nat → Int} (h22 : f 22 = some (oTg sz ls kc)) (h29 : f 29 = some (aI 40 ly)) (hsz : sz ≤ 40) (hb : b < 2 ^ 40) (hly : ∀ j, j < sz → b.testBit j = true → 0 ≤ ly j ∧ ly j < 1000) (hq : Q (.inl (some (vI (lund ly b sz)))) n f) : xct g M_X8_layerUnder 0 0 [vR 22, vL (b : Int)] n f Q := by
  refine xct_of rfl rfl (Nat.le_of_ble_eq_true rfl) ?_
  have hb2 : b < 2 ^ 62 := Nat.lt_of_lt_of_le hb (xp2 (by decide))
  have K : ∀ (m i : Nat), i + m = sz → xw g M_X8_layerUnder Q 0 0 5 [(0, vR 22), (1, vL (b : Int)), (3, vI (lund ly b i)), (4, vI (i : Int))] [] n f := by
    intro m
    induction m with
    | zero =>
      intro i hi
      refine xw_iload dX8_layerUnder_5 rfl ?_
      refine xw_aload_n dX8_layerUnder_7 rfl ?_
      refine xw_getfield dX8_layerUnder_8 fl_X8_40 h22 rfl ?_
      refine xw_icmpge (tgt := 43) dX8_layerUnder_11 (by decide) (by unfold inI; omega) (by unfold inI; omega) (fun c_11 => ?_) (fun c_11 => ?_)
      · skip
        refine xw_iload_n dX8_layerUnder_43 rfl ?_
        exact xw_iret dX8_layerUnder_44 rfl (by rw [show i = sz by omega]; exact hq)
      · skip
        exfalso; omega
    | succ m ih =>
      intro i hi
      have hbd := lund_le (ly := ly) (b := b) (t := 1000) (by decide) i (fun j hj => hly j (by omega))
      have hih := ih (i + 1) (by omega)
      unfold lund at hih
      refine xw_iload dX8_layerUnder_5 rfl ?_
      refine xw_aload_n dX8_layerUnder_7 rfl ?_
      refine xw_getfield dX8_layerUnder_8 fl_X8_40 h22 rfl ?_
      refine xw_icmpge (tgt := 43) dX8_layerUnder_11 (by decide) (by unfold inI; omega) (by unfold inI; omega) (fun c_11 => ?_) (fun c_11 => ?_)
      · skip
        exfalso; omega
      · skip
        refine xw_lload_n dX8_layerUnder_14 rfl ?_
        refine xw_iload dX8_layerUnder_15 rfl ?_
        refine xw_callSN (rc := 0) (rs := 0) (mc2 := 0) (ms2 := 0) (As := [vL (b : Int), vI (i : Int)]) (st := []) dX8_layerUnder_17 sn_X8_48 (by decide) (by decide) (Nat.le_of_ble_eq_true rfl) rfl (ct_isIn hb2 (by omega) (fun h_17 => ?_) (fun h_17 => ?_))
        · skip
          refine xw_ifeq (tgt := 37) dX8_layerUnder_20 (by decide) (by unfold inI; omega) (fun c => absurd c (by decide)) (fun _ => ?_)
          refine xw_iload_n dX8_layerUnder_23 rfl ?_
          refine xw_aload_n dX8_layerUnder_24 rfl ?_
          refine xw_getfield dX8_layerUnder_25 fl_X8_31 h22 rfl ?_
          refine xw_iload dX8_layerUnder_28 rfl ?_
          refine xw_iald dX8_layerUnder_30 h29 (j := i) rfl (by omega) (by decide) ?_
          refine xw_iconst dX8_layerUnder_31 ?_
          refine xw_iadd dX8_layerUnder_32 ?_
          refine xw_maxI dX8_layerUnder_33 mm_X8_86 mm_maxI_s mm_ini mm_maxI_c (by decide) (by decide) (Nat.le_of_ble_eq_true rfl) (by unfold inI; omega) (by have := hly i (by omega) h_17; unfold inI; omega) ?_
          refine xw_istore_n dX8_layerUnder_36 (by decide) ?_
          refine xw_iinc dX8_layerUnder_37 rfl (by decide) ?_
          refine xw_goto (tgt := 5) dX8_layerUnder_40 (by decide) ?_
          first
            | (rw [if_pos h_17] at hih; exact xw_ls [(0, vR 22), (1, vL (b : Int)), (3, vI (if lund ly b i < ly i + 1 then ly i + 1 else lund ly b i)), (4, vI ((i + 1 : Nat) : Int))] ⟨rfl, rfl, rfl, rfl, trivial⟩ hih)
            | (rw [if_neg (fun h => by rw [h] at h_17; cases h_17)] at hih; exact xw_ls [(0, vR 22), (1, vL (b : Int)), (3, vI (lund ly b i)), (4, vI ((i + 1 : Nat) : Int))] ⟨rfl, rfl, rfl, rfl, trivial⟩ hih)
        · skip
          refine xw_ifeq (tgt := 37) dX8_layerUnder_20 (by decide) (by unfold inI; omega) (fun _ => ?_) (fun c => absurd c (by decide))
          refine xw_iinc dX8_layerUnder_37 rfl (by decide) ?_
          refine xw_goto (tgt := 5) dX8_layerUnder_40 (by decide) ?_
          first
            | (rw [if_pos h_17] at hih; exact xw_ls [(0, vR 22), (1, vL (b : Int)), (3, vI (if lund ly b i < ly i + 1 then ly i + 1 else lund ly b i)), (4, vI ((i + 1 : Nat) : Int))] ⟨rfl, rfl, rfl, rfl, trivial⟩ hih)
            | (rw [if_neg (fun h => by rw [h] at h_17; cases h_17)] at hih; exact xw_ls [(0, vR 22), (1, vL (b : Int)), (3, vI (lund ly b i)), (4, vI ((i + 1 : Nat) : Int))] ⟨rfl, rfl, rfl, rfl, trivial⟩ hih)
  refine xw_iconst dX8_layerUnder_0 ?_
  refine xw_istore_n dX8_layerUnder_1 (by decide) ?_
  refine xw_iconst dX8_layerUnder_2 ?_
  refine xw_istore dX8_layerUnder_3 (by decide) ?_
  exact xw_ls [(0, vR 22), (1, vL (b : Int)), (3, vI (lund ly b 0)), (4, vI ((0 : Nat) : Int))] ⟨rfl, rfl, rfl, rfl, trivial⟩ (K sz 0 (by omega))
set_option maxHeartbeats 4000000 in
theorem ct_liftInOrder {sz : Nat} {ls kc : Int} {av : Nat → Nat} {lf ly : Nat → Int} (h22 : f 22 = some (oTg sz ls kc)) (h25 : f 25 = some (aS 40 av)) (h28 : f 28 = some (aI 40 lf)) (h29 : f 29 = some (aI 40 ly)) (hsz : sz ≤ 40) (hav : ∀ j, j < sz → av j < 2 ^ 40) (hly : ∀ j, j < sz → 0 ≤ ly j ∧ ly j ≤ 40)
    (hq : ∀ f1 (r : Nat × ((Nat → Int) × (Nat → Int))), r = lio av sz sz 0 (2 ^ sz - 1) lf ly → fr [22, 28, 29] f f1 → f1 22 = some (oTg sz r.1 kc) → f1 28 = some (aI 40 r.2.1) → f1 29 = some (aI 40 r.2.2) → Q (.inl none) n f1) : xct g M_X8_liftInOrder 0 0 [vR 22] n f Q := by
  refine xct_of rfl rfl (Nat.le_of_ble_eq_true rfl) ?_
  have hz40 : 2 ^ sz - 1 < 2 ^ 40 := by have := xp2 hsz; have := Nat.one_le_two_pow (n := sz); omega
  obtain ⟨R, hR⟩ : ∃ R, R = lio av sz sz 0 (2 ^ sz - 1) lf ly := ⟨_, rfl⟩
  have K34 : ∀ (m t L : Nat) (lf1 ly1 : Nat → Int) (f1 : xH) (p : Nat), (∀ (t L : Nat) (lf1 ly1 : Nat → Int) (f1 : xH), t + m = sz → lioI sz t L ly1 → lio av sz m t L lf1 ly1 = R → fr [22, 28, 29] f f1 → f1 22 = some (oTg sz (t : Int) kc) → f1 28 = some (aI 40 lf1) → f1 29 = some (aI 40 ly1) → xw g M_X8_liftInOrder Q 0 0 12 [(0, vR 22), (1, vL (L : Int)), (3, vI (t : Int))] [] n f1) → t + (m + 1) = sz → p < sz → lioI sz t L ly1 → av p &&& L = 0 → lio av sz m (t + 1) (xclr L p) (xui lf1 t (p : Int)) (xui ly1 p (lund ly1 (av p) sz)) = R → fr [22, 28, 29] f f1 → f1 22 = some (oTg sz (t : Int) kc) → f1 28 = some (aI 40 lf1) → f1 29 = some (aI 40 ly1) → xw g M_X8_liftInOrder Q 0 0 34 [(0, vR 22), (1, vL (L : Int)), (3, vI (t : Int)), (4, vI (p : Int))] [] n f1 := by
    intro m t L lf1 ly1 f1 p ih ht hp hI hp4 he hf e22 e28 e29
    have e25 : f1 25 = some (aS 40 av) := fr_at hf h25 (by decide)
    have hst := lioI_step hI (by omega) hp4
    have hL62 : L < 2 ^ 62 := Nat.lt_of_lt_of_le hI.1 (xp2 (by decide))
    refine xw_aload_n dX8_liftInOrder_34 rfl ?_
    refine xw_getfield dX8_liftInOrder_35 fl_X8_31 e22 rfl ?_
    refine xw_iload dX8_liftInOrder_38 rfl ?_
    refine xw_aload_n dX8_liftInOrder_40 rfl ?_
    refine xw_aload_n dX8_liftInOrder_41 rfl ?_
    refine xw_getfield dX8_liftInOrder_42 fl_X8_18 e22 rfl ?_
    refine xw_iload dX8_liftInOrder_45 rfl ?_
    refine xw_lald dX8_liftInOrder_47 e25 (j := p) rfl (by omega) (by decide) ?_
    refine xw_callV (rc := 0) (rs := 0) (mc2 := 0) (ms2 := 0) (a := 22) (As := [vL ((av p : Nat) : Int)]) (st := [vI (p : Int), vR 29]) dX8_liftInOrder_48 mv_X8_81 e22 rfl rfl (by decide) (by decide) (Nat.le_of_ble_eq_true rfl) rfl (ct_layerUnder e22 e29 hsz (hav p hp) (fun j hj hb => by have h1 := hI.2.1 j hj; omega) ?_)
    refine xw_iast dX8_liftInOrder_51 e29 (j := p) rfl (by omega) (by decide) ?_
    refine xw_aload_n dX8_liftInOrder_52 rfl ?_
    refine xw_getfield dX8_liftInOrder_53 fl_X8_28 e22 rfl ?_
    refine xw_aload_n dX8_liftInOrder_56 rfl ?_
    refine xw_getfield dX8_liftInOrder_57 fl_X8_75 e22 rfl ?_
    refine xw_iload dX8_liftInOrder_60 rfl ?_
    refine xw_iast dX8_liftInOrder_62 e28 (j := t) rfl (by omega) (by decide) ?_
    refine xw_aload_n dX8_liftInOrder_63 rfl ?_
    refine xw_dup dX8_liftInOrder_64 rfl ?_
    refine xw_getfield dX8_liftInOrder_65 fl_X8_75 e22 rfl ?_
    refine xw_iconst dX8_liftInOrder_68 ?_
    refine xw_iadd dX8_liftInOrder_69 ?_
    refine xw_putfield dX8_liftInOrder_70 (fp_X8_75 _) e22 rfl rfl ?_
    rw [fX8_6]
    refine xw_lload_n dX8_liftInOrder_73 rfl ?_
    refine xw_lconst (z := 1) dX8_liftInOrder_74 (by decide) ?_
    refine xw_iload dX8_liftInOrder_75 rfl ?_
    refine xw_lshl dX8_liftInOrder_77 (xb_shl (b := p) (by omega)) ?_
    refine xw_ldc2 (z := -1) dX8_liftInOrder_78 kl_X8_84 (by decide) ?_
    refine xw_lxor dX8_liftInOrder_81 (xb_not (2 ^ p)) ?_
    refine xw_land dX8_liftInOrder_82 (xb_clr hL62 (by omega)) ?_
    refine xw_lstore_n dX8_liftInOrder_83 (by decide) ?_
    refine xw_iinc dX8_liftInOrder_84 rfl (by decide) ?_
    refine xw_goto (tgt := 12) dX8_liftInOrder_87 (by decide) ?_
    exact xw_ls [(0, vR 22), (1, vL ((xclr L p : Nat) : Int)), (3, vI ((t + 1 : Nat) : Int))] ⟨rfl, rfl, rfl, trivial⟩ (ih (t + 1) (xclr L p) _ _ _ (by omega) hst he (fr_up (fr_up (fr_up hf (by decide)) (by decide)) (by decide)) (xup_s _ _ _) rfl rfl)
  have K : ∀ (m t L : Nat) (lf1 ly1 : Nat → Int) (f1 : xH), t + m = sz → lioI sz t L ly1 → lio av sz m t L lf1 ly1 = R → fr [22, 28, 29] f f1 → f1 22 = some (oTg sz (t : Int) kc) → f1 28 = some (aI 40 lf1) → f1 29 = some (aI 40 ly1) → xw g M_X8_liftInOrder Q 0 0 12 [(0, vR 22), (1, vL (L : Int)), (3, vI (t : Int))] [] n f1 := by
    intro m
    induction m with
    | zero =>
      intro t L lf1 ly1 f1 ht hI he hf e22 e28 e29
      refine xw_iload_n dX8_liftInOrder_12 rfl ?_
      refine xw_aload_n dX8_liftInOrder_13 rfl ?_
      refine xw_getfield dX8_liftInOrder_14 fl_X8_40 e22 rfl ?_
      refine xw_icmpge (tgt := 90) dX8_liftInOrder_17 (by decide) (by unfold inI; omega) (by unfold inI; omega) (fun c_17 => ?_) (fun c_17 => ?_)
      · skip
        exact xw_vret dX8_liftInOrder_90 rfl (hq f1 (t, (lf1, ly1)) (he.trans hR) hf e22 e28 e29)
      · skip
        exfalso; omega
    | succ m ih =>
      intro t L lf1 ly1 f1 ht hI he hf e22 e28 e29
      have e25 : f1 25 = some (aS 40 av) := fr_at hf h25 (by decide)
      unfold lio at he
      have hLf := lfree_in av L sz 0
      generalize ew : lfree av L 0 sz = w at *
      refine xw_iload_n dX8_liftInOrder_12 rfl ?_
      refine xw_aload_n dX8_liftInOrder_13 rfl ?_
      refine xw_getfield dX8_liftInOrder_14 fl_X8_40 e22 rfl ?_
      refine xw_icmpge (tgt := 90) dX8_liftInOrder_17 (by decide) (by unfold inI; omega) (by unfold inI; omega) (fun c_17 => ?_) (fun c_17 => ?_)
      · skip
        exfalso; omega
      · skip
        refine xw_aload_n dX8_liftInOrder_20 rfl ?_
        refine xw_lload_n dX8_liftInOrder_21 rfl ?_
        refine xw_callV (rc := 0) (rs := 0) (mc2 := 0) (ms2 := 0) (a := 22) (As := [vL (L : Int)]) (st := []) dX8_liftInOrder_22 mv_X8_78 e22 rfl rfl (by decide) (by decide) (Nat.le_of_ble_eq_true rfl) rfl (ct_leastFree e22 e25 hsz hav hI.1 ?_)
        refine xw_topi w ew ?_
        refine xw_istore dX8_liftInOrder_25 (by decide) ?_
        refine xw_iload dX8_liftInOrder_27 rfl ?_
        refine xw_iconst dX8_liftInOrder_29 ?_
        refine xw_icmpne (tgt := 34) dX8_liftInOrder_30 (by decide) (by unfold inI; rcases hLf with h | ⟨p, h1, h2, h3, h4⟩ <;> omega) (by unfold inI; omega) (fun c_30 => ?_) (fun c_30 => ?_)
        · skip
          obtain ⟨p, -, hp2, hp3, hp4, -⟩ := hLf.resolve_left (fun h => c_30 h.1)
          rw [if_neg c_30] at he
          subst hp3
          have hun := lioI_und hI hp4.2
          have hst := lioI_step hI (by omega) hp4.2
          rw [Int.toNat_natCast] at he
          have hav62 : av p < 2 ^ 40 := hav p (by omega)
          have hL62 : L < 2 ^ 62 := Nat.lt_of_lt_of_le hI.1 (xp2 (by decide))
          refine xw_ls [(0, vR 22), (1, vL (L : Int)), (3, vI (t : Int)), (4, vI (p : Int))] ⟨rfl, rfl, rfl, rfl, trivial⟩ ?_
          exact K34 m t L lf1 ly1 f1 p ih ht (by omega) hI hp4.2 he hf e22 e28 e29
        · skip
          exact xw_vret dX8_liftInOrder_33 rfl (by rw [if_pos c_30] at he; exact hq f1 (t, (lf1, ly1)) (he.trans hR) hf e22 e28 e29)
  refine xw_aload_n dX8_liftInOrder_0 rfl ?_
  refine xw_callV (rc := 0) (rs := 0) (mc2 := 0) (ms2 := 0) (a := 22) (As := []) (st := []) dX8_liftInOrder_1 mv_X8_71 h22 rfl rfl (by decide) (by decide) (Nat.le_of_ble_eq_true rfl) rfl (ct_every h22 hsz ?_)
  refine xw_lstore_n dX8_liftInOrder_4 (by decide) ?_
  refine xw_aload_n dX8_liftInOrder_5 rfl ?_
  refine xw_iconst dX8_liftInOrder_6 ?_
  refine xw_putfield dX8_liftInOrder_7 (fp_X8_75 _) h22 rfl rfl ?_
  rw [fX8_6]
  refine xw_iconst dX8_liftInOrder_10 ?_
  refine xw_istore_n dX8_liftInOrder_11 (by decide) ?_
  exact xw_ls [(0, vR 22), (1, vL ((2 ^ sz - 1 : Nat) : Int)), (3, vI ((0 : Nat) : Int))] ⟨rfl, rfl, rfl, trivial⟩ (K sz 0 (2 ^ sz - 1) lf ly _ (by omega) ⟨hz40, hly, fun j hj hb => by rw [Nat.testBit_two_pow_sub_one] at hb; simp at hb; omega⟩ hR.symm (fr_up (fr_rf _ _) (by decide)) (xup_s _ _ _) h28 h29)
end C42
