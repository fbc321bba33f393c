/-! the model: fewest and few -/
theorem xnth_no (set : Nat) (i : Int) : ∀ (k a : Nat) (c : Int), (i < c ∨ c + ((cnt set (a + k) : Int) - (cnt set a : Int)) ≤ i) → xnth (fun q => set.testBit q) i c a k = -1 := by
  intro k
  induction k with
  | zero => intro a c _; rfl
  | succ k ih =>
    intro a c h
    have e1 : cnt set (a + 1) = cnt set a + (if set.testBit a = true then 1 else 0) := rfl
    have e2 : a + (k + 1) = a + 1 + k := by omega
    have mo := cnt_mono (x := set) (show a + 1 ≤ a + 1 + k by omega)
    rw [e2] at h
    rw [xnth]
    by_cases hb : set.testBit a = true
    · rw [if_pos hb] at e1
      rw [if_pos hb, if_neg (by omega)]
      exact ih (a + 1) (c + 1) (by omega)
    · rw [if_neg hb] at e1
      rw [if_neg hb]
      exact ih (a + 1) c (by omega)
theorem xnth_y {set p sz : Nat} (hp : set.testBit p = true) (hz : p < sz) : xnth (fun q => set.testBit q) (cnt set p : Int) 0 0 sz = (p : Int) := xnth_at set p hp sz 0 0 _ (Nat.zero_le _) (by omega) (by show (cnt set p : Int) = 0 + ((cnt set p : Int) - ((0 : Nat) : Int)); omega)
theorem cnt_L {P c0 sz : Nat} {L : Nat → Nat} (hL : incL L c0 sz) (hP : ∀ q, P.testBit q = true ↔ ∃ c, c < c0 ∧ L c = q) : ∀ q, cnt P q ≤ c0 ∧ (∀ c, c < cnt P q → L c < q) ∧ ∀ c, cnt P q ≤ c → c < c0 → q ≤ L c := by
  intro q
  induction q with
  | zero => exact ⟨Nat.zero_le _, fun c h => absurd h (Nat.not_lt_zero _), fun c _ _ => Nat.zero_le _⟩
  | succ q ih =>
    obtain ⟨a, b, c9⟩ := ih
    have e1 : cnt P (q + 1) = cnt P q + (if P.testBit q = true then 1 else 0) := rfl
    by_cases hb : P.testBit q = true
    · rw [if_pos hb] at e1
      obtain ⟨c1, h1, h2⟩ := (hP q).1 hb
      have g1 : ¬ c1 < cnt P q := fun h => by have := b c1 h; omega
      have g2 : ¬ cnt P q < c1 := fun h => by
        have x1 := c9 (cnt P q) (Nat.le_refl _) (by omega)
        have x2 := hL.1 _ _ h h1
        omega
      have e : c1 = cnt P q := by omega
      rw [e1]
      refine ⟨by omega, fun c h => ?_, fun c h h' => ?_⟩
      · by_cases e2 : c = c1
        · subst e2; omega
        · have := b c (by omega); omega
      · have := hL.1 c1 c (by omega) h'
        omega
    · rw [if_neg hb] at e1
      rw [e1]
      refine ⟨a, fun c h => ?_, fun c h h' => ?_⟩
      · have := b c h; omega
      · have x1 := c9 c h h'
        have x2 : L c ≠ q := fun e => hb ((hP q).2 ⟨c, h', e⟩)
        omega
/-- the i-th of what was found -/
theorem few_at {P c0 sz : Nat} {L : Nat → Nat} (hL : incL L c0 sz) (h40 : sz ≤ 40) (hP : ∀ q, P.testBit q = true ↔ ∃ c, c < c0 ∧ L c = q) (i : Int) : (∀ j : Nat, i = (j : Int) → j < c0 → xnth (fun q => P.testBit q) i 0 0 40 = (L j : Int)) ∧ (¬ (0 ≤ i ∧ i < (c0 : Int)) → xnth (fun q => P.testBit q) i 0 0 40 = -1) := by
  refine ⟨fun j e hj => ?_, fun h => ?_⟩
  · have a := cnt_L hL hP (L j)
    have g1 : ¬ j < cnt P (L j) := fun h => by have := a.2.1 j h; omega
    have g2 : ¬ cnt P (L j) < j := fun h => by
      have x1 := a.2.2 (cnt P (L j)) (Nat.le_refl _) (by omega)
      have x2 := hL.1 _ _ h hj
      omega
    have lj := hL.2 j hj
    have := xnth_y (set := P) (p := L j) (sz := 40) ((hP _).2 ⟨j, hj, rfl⟩) (by omega)
    rw [show cnt P (L j) = j by omega, ← e] at this
    exact this
  · have a := cnt_L hL hP 40
    have e : cnt P 40 = c0 := by
      refine Nat.le_antisymm a.1 (Nat.le_of_not_lt (fun h => ?_))
      have x1 := a.2.2 (cnt P 40) (Nat.le_refl _) h
      have x2 := hL.2 _ h
      omega
    refine xnth_no P i 40 0 0 ?_
    rw [Nat.zero_add, e]
    show i < 0 ∨ 0 + ((c0 : Int) - ((0 : Nat) : Int)) ≤ i
    omega
def fewA (N : Nat → Nat) (P : Nat) (i : Int) : Int := if xnth (fun q => P.testBit q) i 0 0 40 = -1 then -1 else (N (xnth (fun q => P.testBit q) i 0 0 40).toNat : Int)
section C9j
variable {g : xG} {y : xM} {Q : xP} {n : Nat} {f : xH} {th : Int} {bn : Nat} {β : Nat → xBx} {gn : Nat} {σ : Nat → xSt} {d : Nat → Int} {as : List xAc} {ps : Nat} {pb : Nat → Int} {pu : Nat} {pr : Nat → Int} {sz : Nat} {N : Nat → Nat} {av : Nat → Nat} {kn : Nat → Int} {kc : Nat} {ks : Nat → Nat} {wo : Nat → Int}
set_option maxHeartbeats 8000000 in
theorem mct_fewest (h : MS f th bn β gn σ d as ps pb pu pr) (hN : onO gn σ sz N) (hav : avR sz av (fun i j => mBar d σ (N i) (N j))) (ekn : kn = (mkA (fun i j => WP av sz i j) sz).1) (ekc : kc = (mkA (fun i j => WP av sz i j) sz).2) (hok : knOK sz (fun i j => mBar d σ (N i) (N j)) kn kc) (hks : ∀ k, k < kc → ∀ p, (ks k).testBit p = true ↔ (p < sz ∧ kn p = (k : Int))) (hwo : ∀ p, p < sz → wo p = woS (σ (N p)))
    (hq : ∀ f1, MS f1 0 bn β gn σ d as ps pb pu pr → kC f f1 → Q (.inl (some (vI (rmd av wo sz ks kc 0 0 0).1))) n f1) : xct g M_X10_fewest 0 0 [vR 38] n f Q := by
  refine xct_of rfl rfl (Nat.le_of_ble_eq_true rfl) ?_
  have S : ∀ F, MS F 0 bn β gn σ d as ps pb pu pr → kC f F → xw g M_X10_fewest Q 0 0 5 [(0, vR 38)] [] n F := by
    intro F0 hF0 kF0
    obtain ⟨m0, hm0, hE0⟩ := MS_E hF0
    have g38 := hE0.1
    have hsh : msh F0 := hF0.choose_spec.2.2.2.2.2.2.2.1
    have h40 : sz ≤ 40 := by rw [hN.1]; exact hF0.choose_spec.2.2.2.2.2.2.2.2.1
    refine xw_aload_n dX10_fewest_5 rfl ?_
    refine xw_callV (rc := 0) (rs := 0) (mc2 := 0) (ms2 := 0) (a := 38) (As := []) (st := []) dX10_fewest_6 mv_X10_337 g38 rfl rfl (by decide) (by decide) (Nat.le_of_ble_eq_true rfl) rfl (ct_findFew hE0 hsh hN h40 hav ekn ekc hok hks hwo (fun F1 m1 w P L c0 hG hr hw0 m58 m57 hL hfw hP => ?_) (fun F1 m1 hG hr => ?_))
    · skip
      refine xw_ifeq (tgt := 19) dX10_fewest_9 (by decide) (by unfold inI; omega) (fun c => absurd c (by decide)) (fun _ => ?_)
      refine xw_aload_n dX10_fewest_12 rfl ?_
      refine xw_getfield dX10_fewest_13 fl_X10_319 hG.2.1 rfl ?_
      refine xw_topi w m58 ?_
      refine xw_goto (tgt := 20) dX10_fewest_16 (by decide) ?_
      exact xw_iret dX10_fewest_20 rfl (by first | (have z9 := m58; have hM := MS_gr hF0 hm0 hG; have RT := hq F1 hM.1 (kC_tr kF0 hM.2.1); rw [hr] at RT; exact RT) | (have hM := MS_gr hF0 hm0 hG; have RT := hq F1 hM.1 (kC_tr kF0 hM.2.1); rw [hr] at RT; exact RT))
    · skip
      refine xw_ifeq (tgt := 19) dX10_fewest_9 (by decide) (by unfold inI; omega) (fun _ => ?_) (fun c => absurd c (by decide))
      refine xw_iconst dX10_fewest_19 ?_
      exact xw_iret dX10_fewest_20 rfl (by first | (have z9 := m58; have hM := MS_gr hF0 hm0 hG; have RT := hq F1 hM.1 (kC_tr kF0 hM.2.1); rw [hr] at RT; exact RT) | (have hM := MS_gr hF0 hm0 hG; have RT := hq F1 hM.1 (kC_tr kF0 hM.2.1); rw [hr] at RT; exact RT))
  obtain ⟨m, h38, hm, _⟩ := id h
  refine xw_aload_n dX10_fewest_0 rfl ?_
  refine xw_iconst dX10_fewest_1 ?_
  refine xw_putfield dX10_fewest_2 (fp_X10_1 _) h38 rfl rfl ?_
  rw [xmd_0]
  exact S _ (MS_th 0 h h38 hm).1 (MS_th 0 h h38 hm).2
set_option maxHeartbeats 8000000 in
theorem mct_few {i : Int} (h : MS f th bn β gn σ d as ps pb pu pr) (hi : inI i) (hN : onO gn σ sz N) (hav : avR sz av (fun i j => mBar d σ (N i) (N j))) (ekn : kn = (mkA (fun i j => WP av sz i j) sz).1) (ekc : kc = (mkA (fun i j => WP av sz i j) sz).2) (hok : knOK sz (fun i j => mBar d σ (N i) (N j)) kn kc) (hks : ∀ k, k < kc → ∀ p, (ks k).testBit p = true ↔ (p < sz ∧ kn p = (k : Int))) (hwo : ∀ p, p < sz → wo p = woS (σ (N p)))
    (hq : ∀ f1, MS f1 0 bn β gn σ d as ps pb pu pr → kC f f1 → Q (.inl (some (vI (fewA N (rmd av wo sz ks kc 0 0 0).2 i)))) n f1) : xct g M_X10_few 0 0 [vR 38, vI i] n f Q := by
  refine xct_of rfl rfl (Nat.le_of_ble_eq_true rfl) ?_
  have S : ∀ F, MS F 0 bn β gn σ d as ps pb pu pr → kC f F → xw g M_X10_few Q 0 0 5 [(0, vR 38), (1, vI i)] [] n F := by
    intro F0 hF0 kF0
    obtain ⟨m0, hm0, hE0⟩ := MS_E hF0
    have g38 := hE0.1
    have hsh : msh F0 := hF0.choose_spec.2.2.2.2.2.2.2.1
    have h40 : sz ≤ 40 := by rw [hN.1]; exact hF0.choose_spec.2.2.2.2.2.2.2.2.1
    have Y : ∀ F1 m1 (w : Int) (P : Nat) (L : Nat → Nat) (c0 : Nat), gR F0 F1 m0 m1 → rmd av wo sz ks kc 0 0 0 = (w, P) → m1 57 = (c0 : Int) → incL L c0 sz → fwF F1 c0 N L → (∀ q, P.testBit q = true ↔ ∃ c, c < c0 ∧ L c = q) → xw g M_X10_few Q 0 0 12 [(0, vR 38), (1, vI i)] [] n F1 := by
      intro F1 m1 w P L c0 hG hr m57 hL hfw hP
      have hM := MS_gr hF0 hm0 hG
      have RT := hq F1 hM.1 (kC_tr kF0 hM.2.1)
      have fa9 := few_at hL h40 hP i
      have hc40 : c0 ≤ 40 := Nat.le_of_not_lt (fun z => by have a := incL_ge hL 40 z; have b := hL.2 40 z; omega)
      rw [hr] at RT
      unfold fewA at RT
      obtain ⟨fa, h76, hfa⟩ := hfw
      by_cases hc9 : 0 ≤ i ∧ i < (c0 : Int)
      · obtain ⟨j, rfl⟩ : ∃ j : Nat, i = (j : Int) := ⟨i.toNat, by omega⟩
        have ex := fa9.1 j rfl (by omega)
        rw [show xnth (fun q => (w, P).2.testBit q) (j : Int) 0 0 40 = (L j : Int) from ex, if_neg (by omega), Int.toNat_natCast] at RT
        refine xw_iload_n dX10_few_12 rfl ?_
        refine xw_iflt (tgt := 33) dX10_few_13 (by decide) (by first | assumption | (unfold inI; omega) | (unfold inI at *; omega)) (fun c_13 => ?_) (fun c_13 => ?_)
        · skip
          exfalso; omega
        · skip
          refine xw_iload_n dX10_few_16 rfl ?_
          refine xw_aload_n dX10_few_17 rfl ?_
          refine xw_getfield dX10_few_18 fl_X10_316 hG.2.1 rfl ?_
          refine xw_topi (c0 : Int) m57 ?_
          refine xw_icmpge (tgt := 33) dX10_few_21 (by decide) (by first | assumption | (unfold inI; omega) | (unfold inI at *; omega)) (by first | assumption | (unfold inI; omega) | (unfold inI at *; omega)) (fun c_21 => ?_) (fun c_21 => ?_)
          · skip
            exfalso; omega
          · skip
            refine xw_aload_n dX10_few_24 rfl ?_
            refine xw_getfield dX10_few_25 fl_X10_130 hG.2.1 rfl ?_
            refine xw_iload_n dX10_few_28 rfl ?_
            refine xw_iald dX10_few_29 h76 (j := j) rfl (by omega) (by decide) ?_
            refine xw_topi (N (L j) : Int) (hfa j (by omega)) ?_
            refine xw_goto (tgt := 34) dX10_few_30 (by decide) ?_
            exact xw_iret dX10_few_34 rfl RT
      · have ex := fa9.2 hc9
        rw [show xnth (fun q => (w, P).2.testBit q) i 0 0 40 = -1 from ex, if_pos rfl] at RT
        refine xw_iload_n dX10_few_12 rfl ?_
        refine xw_iflt (tgt := 33) dX10_few_13 (by decide) (by first | assumption | (unfold inI; omega) | (unfold inI at *; omega)) (fun c_13 => ?_) (fun c_13 => ?_)
        · skip
          refine xw_iconst dX10_few_33 ?_
          exact xw_iret dX10_few_34 rfl RT
        · skip
          refine xw_iload_n dX10_few_16 rfl ?_
          refine xw_aload_n dX10_few_17 rfl ?_
          refine xw_getfield dX10_few_18 fl_X10_316 hG.2.1 rfl ?_
          refine xw_topi (c0 : Int) m57 ?_
          refine xw_icmpge (tgt := 33) dX10_few_21 (by decide) (by first | assumption | (unfold inI; omega) | (unfold inI at *; omega)) (by first | assumption | (unfold inI; omega) | (unfold inI at *; omega)) (fun c_21 => ?_) (fun c_21 => ?_)
          · skip
            refine xw_iconst dX10_few_33 ?_
            exact xw_iret dX10_few_34 rfl RT
          · skip
            exfalso; omega
    refine xw_aload_n dX10_few_5 rfl ?_
    refine xw_callV (rc := 0) (rs := 0) (mc2 := 0) (ms2 := 0) (a := 38) (As := []) (st := []) dX10_few_6 mv_X10_337 g38 rfl rfl (by decide) (by decide) (Nat.le_of_ble_eq_true rfl) rfl (ct_findFew hE0 hsh hN h40 hav ekn ekc hok hks hwo (fun F1 m1 w P L c0 hG hr hw0 m58 m57 hL hfw hP => ?_) (fun F1 m1 hG hr => ?_))
    · skip
      refine xw_ifeq (tgt := 33) dX10_few_9 (by decide) (by unfold inI; omega) (fun c => absurd c (by decide)) (fun _ => ?_)
      exact xw_ls [(0, vR 38), (1, vI i)] ⟨rfl, rfl, trivial⟩ (Y F1 m1 w P L c0 hG hr m57 hL hfw hP)
    · skip
      refine xw_ifeq (tgt := 33) dX10_few_9 (by decide) (by unfold inI; omega) (fun _ => ?_) (fun c => absurd c (by decide))
      refine xw_iconst dX10_few_33 ?_
      exact xw_iret dX10_few_34 rfl (by
        have hM := MS_gr hF0 hm0 hG
        have RT := hq F1 hM.1 (kC_tr kF0 hM.2.1)
        rw [hr] at RT
        unfold fewA at RT
        have e : xnth (fun q => ((-1, 0) : Int × Nat).2.testBit q) i 0 0 40 = -1 := xnth_no 0 i 40 0 0 (by rw [cnt_z, cnt_z]; omega)
        rw [e, if_pos rfl] at RT
        exact RT)
  obtain ⟨m, h38, hm, _⟩ := id h
  refine xw_aload_n dX10_few_0 rfl ?_
  refine xw_iconst dX10_few_1 ?_
  refine xw_putfield dX10_few_2 (fp_X10_1 _) h38 rfl rfl ?_
  rw [xmd_0]
  exact S _ (MS_th 0 h h38 hm).1 (MS_th 0 h h38 hm).2
end C9j
