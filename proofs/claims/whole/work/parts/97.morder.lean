/-! the model: order, count -/
def avR (sz : Nat) (av : Nat → Nat) (R : Nat → Nat → Prop) : Prop := ∀ i j, i < sz → ((av i).testBit j = true ↔ (j < sz ∧ R j i))
def lfF (F : xH) (sz : Nat) (N : Nat → Nat) (L : Nat) : Prop := ∃ lf, F 69 = some (aZ 101 lf) ∧ ∀ i, i < sz → (lf (N i) = 0 ∧ L.testBit i = false) ∨ (lf (N i) = 1 ∧ L.testBit i = true)
theorem lfF_fr {F F1 : xH} {sz : Nat} {N : Nat → Nat} {L : Nat} (h : lfF F sz N L) (hf : F1 69 = F 69) : lfF F1 sz N L := by obtain ⟨on, a, b⟩ := h; exact ⟨on, hf.trans a, b⟩
theorem and_z {a b : Nat} (h : ∀ j, ¬ (a.testBit j = true ∧ b.testBit j = true)) : a &&& b = 0 := by
  apply Nat.eq_of_testBit_eq
  intro i
  rw [Nat.testBit_and, Nat.zero_testBit]
  have := h i
  cases e1 : a.testBit i <;> cases e2 : b.testBit i <;> simp_all
theorem and_z0 {a b j : Nat} (h : a &&& b = 0) : ¬ (a.testBit j = true ∧ b.testBit j = true) := fun k => by
  have := and0 h k.1
  rw [k.2] at this
  cases this
def mor (av : Nat → Nat) (sz : Nat) (N : Nat → Nat) (k : Int) : Nat → Nat → Nat → Int
  | 0, _, _ => -1
  | u + 1, t, L => if lfree av L 0 sz = -1 then -1 else if (t : Int) = k then (N (lfree av L 0 sz).toNat : Int) else mor av sz N k u (t + 1) (xclr L (lfree av L 0 sz).toNat)
noncomputable def rsum (R : Nat → Nat → Prop) (i : Nat) : Nat → Nat
  | 0 => 0
  | j + 1 => rsum R i j + cite (R i j) 1 0
noncomputable def msum (R : Nat → Nat → Prop) (sz : Nat) : Nat → Nat
  | 0 => 0
  | i + 1 => msum R sz i + rsum R i sz
theorem rsum_le (R : Nat → Nat → Prop) (i : Nat) : ∀ j, rsum R i j ≤ j := by
  intro j
  induction j with
  | zero => exact Nat.le_refl _
  | succ j ih =>
    unfold rsum
    by_cases h : R i j
    · rw [cite_t h]; omega
    · rw [cite_f h]; omega
theorem msum_le (R : Nat → Nat → Prop) (sz : Nat) : ∀ i, msum R sz i ≤ i * sz := by
  intro i
  induction i with
  | zero => exact Nat.zero_le _
  | succ i ih => unfold msum; have := rsum_le R i sz; rw [Nat.succ_mul]; omega
section C97
variable {g : xG} {y : xM} {Q : xP} {n : Nat} {f : xH} {gn : Nat} {σ : Nat → xSt} {d m : Nat → Int} {sz : Nat} {N : Nat → Nat} {av : Nat → Nat} {R : Nat → Nat → Prop}
set_option maxHeartbeats 4000000 in
theorem ct_freeOfLeft {i L : Nat} (h38 : f 38 = some (oMd m)) (m49 : m 49 = (sz : Int)) (hN : onO gn σ sz N) (hgn : gn ≤ 100) (h40 : sz ≤ 40) (hon : onF f sz N) (hb : bmF f 67 sz N R) (hl : lfF f sz N L) (hav : avR sz av R) (hi : i < sz) (h1 : av i &&& L = 0 → Q (.inl (some (vI 1))) n f) (h0 : av i &&& L ≠ 0 → Q (.inl (some (vI 0))) n f) : xct g M_X10_isFreeOfLeft 0 0 [vR 38, vI (N i : Int)] n f Q := by
  refine xct_of rfl rfl (Nat.le_of_ble_eq_true rfl) ?_
  obtain ⟨on, h70, hon⟩ := hon
  obtain ⟨br, h67, hb⟩ := hb
  obtain ⟨lf, h69, hl⟩ := hl
  have ni := hN.2 i hi
  have A : ∀ (t j : Nat), j + t = sz → (∀ j', j' < j → ¬ (L.testBit j' = true ∧ R j' i)) → xw g M_X10_isFreeOfLeft Q 0 0 2 [(0, vR 38), (1, vI (N i : Int)), (2, vI (j : Int))] [] n f := by
    intro t
    induction t with
    | zero =>
      intro j hj hn
      refine xw_iload_n dX10_isFreeOfLeft_2 rfl ?_
      refine xw_aload_n dX10_isFreeOfLeft_3 rfl ?_
      refine xw_getfield dX10_isFreeOfLeft_4 fl_X10_285 h38 rfl ?_
      refine xw_topi (sz : Int) m49 ?_
      refine xw_icmpge (tgt := 51) dX10_isFreeOfLeft_7 (by decide) (by first | assumption | (unfold inI; omega) | (unfold inI at *; omega)) (by first | assumption | (unfold inI; omega) | (unfold inI at *; omega)) (fun c_7 => ?_) (fun c_7 => ?_)
      · skip
        refine xw_iconst dX10_isFreeOfLeft_51 ?_
        exact xw_zret dX10_isFreeOfLeft_52 rfl rfl (h1 (and_z (fun j' k => by
          obtain ⟨a, b⟩ := (hav i j' hi).1 k.1
          exact hn j' (by omega) ⟨k.2, b⟩)))
      · skip
        exfalso; omega
    | succ t ih =>
      intro j hj hn
      have nj := hN.2 j (by omega)
      have q1 := hl j (by omega)
      have q2 := hb j i (by omega) hi
      have nx : ¬ (L.testBit j = true ∧ R j i) → xw g M_X10_isFreeOfLeft Q 0 0 45 [(0, vR 38), (1, vI (N i : Int)), (2, vI (j : Int))] [] n f := by
        intro hn2
        refine xw_iinc dX10_isFreeOfLeft_45 rfl (by decide) ?_
        refine xw_goto (tgt := 2) dX10_isFreeOfLeft_48 (by decide) ?_
        exact xw_ls [(0, vR 38), (1, vI (N i : Int)), (2, vI ((j + 1 : Nat) : Int))] ⟨rfl, rfl, rfl, trivial⟩ (ih (j + 1) (by omega) (fun j' hj' => by
            by_cases e : j' = j
            · subst e; exact hn2
            · exact hn j' (by omega)))
      refine xw_iload_n dX10_isFreeOfLeft_2 rfl ?_
      refine xw_aload_n dX10_isFreeOfLeft_3 rfl ?_
      refine xw_getfield dX10_isFreeOfLeft_4 fl_X10_285 h38 rfl ?_
      refine xw_topi (sz : Int) m49 ?_
      refine xw_icmpge (tgt := 51) dX10_isFreeOfLeft_7 (by decide) (by first | assumption | (unfold inI; omega) | (unfold inI at *; omega)) (by first | assumption | (unfold inI; omega) | (unfold inI at *; omega)) (fun c_7 => ?_) (fun c_7 => ?_)
      · skip
        exfalso; omega
      · skip
        refine xw_aload_n dX10_isFreeOfLeft_10 rfl ?_
        refine xw_getfield dX10_isFreeOfLeft_11 fl_X10_109 h38 rfl ?_
        refine xw_aload_n dX10_isFreeOfLeft_14 rfl ?_
        refine xw_getfield dX10_isFreeOfLeft_15 fl_X10_112 h38 rfl ?_
        refine xw_iload_n dX10_isFreeOfLeft_18 rfl ?_
        refine xw_iald dX10_isFreeOfLeft_19 h70 (j := j) rfl (by omega) (by decide) ?_
        refine xw_topi (N j : Int) (hon j (by omega)) ?_
        refine xw_zald dX10_isFreeOfLeft_20 h69 (j := N j) rfl (by omega) (by decide) ?_
        refine xw_ifeq (tgt := 45) dX10_isFreeOfLeft_21 (by decide) (by first | assumption | (unfold inI; omega) | (unfold inI at *; omega)) (fun c_21 => ?_) (fun c_21 => ?_)
        · skip
          exact xw_ls [(0, vR 38), (1, vI (N i : Int)), (2, vI (j : Int))] ⟨rfl, rfl, rfl, trivial⟩ (nx (fun k => by
            rcases q1 with ⟨a, b⟩ | ⟨a, b⟩
            · rw [b] at k; cases k.1
            · rcases q2 with ⟨a2, b2⟩ | ⟨a2, b2⟩
              · exact b2 k.2
              · omega))
        · skip
          refine xw_aload_n dX10_isFreeOfLeft_24 rfl ?_
          refine xw_getfield dX10_isFreeOfLeft_25 fl_X10_103 h38 rfl ?_
          refine xw_bipush (z := 100) dX10_isFreeOfLeft_28 (by decide) ?_
          refine xw_aload_n dX10_isFreeOfLeft_30 rfl ?_
          refine xw_getfield dX10_isFreeOfLeft_31 fl_X10_112 h38 rfl ?_
          refine xw_iload_n dX10_isFreeOfLeft_34 rfl ?_
          refine xw_iald dX10_isFreeOfLeft_35 h70 (j := j) rfl (by omega) (by decide) ?_
          refine xw_topi (N j : Int) (hon j (by omega)) ?_
          refine xw_imul dX10_isFreeOfLeft_36 ?_
          refine xw_iload_n dX10_isFreeOfLeft_37 rfl ?_
          refine xw_iadd dX10_isFreeOfLeft_38 ?_
          refine xw_zald dX10_isFreeOfLeft_39 h67 (j := 100 * N j + N i) (by omega) (by omega) (by decide) ?_
          refine xw_ifeq (tgt := 45) dX10_isFreeOfLeft_40 (by decide) (by first | assumption | (unfold inI; omega) | (unfold inI at *; omega)) (fun c_40 => ?_) (fun c_40 => ?_)
          · skip
            exact xw_ls [(0, vR 38), (1, vI (N i : Int)), (2, vI (j : Int))] ⟨rfl, rfl, rfl, trivial⟩ (nx (fun k => by
              rcases q1 with ⟨a, b⟩ | ⟨a, b⟩
              · rw [b] at k; cases k.1
              · rcases q2 with ⟨a2, b2⟩ | ⟨a2, b2⟩
                · exact b2 k.2
                · omega))
          · skip
            refine xw_iconst dX10_isFreeOfLeft_43 ?_
            exact xw_zret dX10_isFreeOfLeft_44 rfl rfl (h0 (fun k => by
              have a1 : L.testBit j = true := by rcases q1 with ⟨a, _⟩ | ⟨_, b⟩; omega; exact b
              have a2 : R j i := by rcases q2 with ⟨a, _⟩ | ⟨_, b⟩; omega; exact b
              exact and_z0 k ⟨(hav i j hi).2 ⟨by omega, a2⟩, a1⟩))
  refine xw_iconst dX10_isFreeOfLeft_0 ?_
  refine xw_istore_n dX10_isFreeOfLeft_1 (by decide) ?_
  exact xw_ls [(0, vR 38), (1, vI (N i : Int)), (2, vI ((0 : Nat) : Int))] ⟨rfl, rfl, rfl, trivial⟩ (A sz 0 (by omega) (fun j' hj' => absurd hj' (Nat.not_lt_zero _)))
end C97
section C97b
variable {g : xG} {y : xM} {Q : xP} {n : Nat} {f : xH} {th : Int} {bn : Nat} {β : Nat → xBx} {gn : Nat} {σ : Nat → xSt} {d : Nat → Int} {as : List xAc} {ps : Nat} {pb : Nat → Int} {pu : Nat} {pr : Nat → Int} {sz : Nat} {N : Nat → Nat} {av : Nat → Nat}
theorem lfF_clr {F F1 : xH} {L q : Nat} {lf : Nat → Int} (hN : onO gn σ sz N) (hq : q < sz) (hl : ∀ i, i < sz → (lf (N i) = 0 ∧ L.testBit i = false) ∨ (lf (N i) = 1 ∧ L.testBit i = true)) (h69 : F1 69 = some (aZ 101 (xui lf (N q) 0))) : lfF F1 sz N (xclr L q) := by
  refine ⟨_, h69, fun i hi => ?_⟩
  by_cases e : i = q
  · subst e
    left
    rw [xui_s, xclr_bit]
    exact ⟨rfl, by simp⟩
  · have e2 : N i ≠ N q := fun k => e (onO_inj hN hi hq k)
    rw [xui_n _ _ e2, xclr_bit]
    have e3 : (L.testBit i && decide (i ≠ q)) = L.testBit i := by simp [e]
    rw [e3]
    exact hl i hi
set_option maxHeartbeats 8000000 in
theorem mct_order {k : Int} (h : MS f th bn β gn σ d as ps pb pu pr) (hk : inI k) (hN : onO gn σ sz N) (hav : avR sz av (fun i j => mBar d σ (N i) (N j))) (hq : ∀ f1, MS f1 0 bn β gn σ d as ps pb pu pr → kC f f1 → Q (.inl (some (vI (mor av sz N k sz 0 (2 ^ sz - 1))))) n f1) : xct g M_X10_order 0 0 [vR 38, vI k] n f Q := by
  refine xct_of rfl rfl (Nat.le_of_ble_eq_true rfl) ?_
  have S : ∀ F, MS F 0 bn β gn σ d as ps pb pu pr → kC f F → xw g M_X10_order Q 0 0 5 [(0, vR 38), (1, vI k)] [] n F := by
    intro F0 hF0 kF0
    obtain ⟨m0, hm0, hE0⟩ := MS_E hF0
    have h38 := hE0.1
    have hsh : msh F0 := hF0.choose_spec.2.2.2.2.2.2.2.1
    have h40 : sz ≤ 40 := by rw [hN.1]; exact hF0.choose_spec.2.2.2.2.2.2.2.2.1
    have hgn : gn ≤ 100 := hE0.2.2.2.1.choose_spec.choose_spec.choose_spec.choose_spec.choose_spec.2.2.2.2.2.1
    have Fin : ∀ F m1, gR F0 F m0 m1 → ∀ r, r = mor av sz N k sz 0 (2 ^ sz - 1) → Q (.inl (some (vI r))) n F := fun F m1 hG r hr => by
      rw [hr]
      exact hq F (MS_gr hF0 hm0 hG).1 (kC_tr kF0 (MS_gr hF0 hm0 hG).2.1)
    -- the search for the lowest free one
    have LI : ∀ (i1 t L : Nat) (F : xH) (m1 : Nat → Int) (s3 : Int), i1 ≤ sz → gR F0 F m0 m1 → m1 49 = (sz : Int) → onF F sz N → bmF F 67 sz N (fun i j => mBar d σ (N i) (N j)) → lfF F sz N L →
        ((s3 = -1 ∧ ∀ q, i1 ≤ q → q < sz → ¬ (L.testBit q = true ∧ av q &&& L = 0)) ∨ ∃ q, i1 ≤ q ∧ q < sz ∧ s3 = (N q : Int) ∧ (L.testBit q = true ∧ av q &&& L = 0) ∧ ∀ q', i1 ≤ q' → q' < q → ¬ (L.testBit q' = true ∧ av q' &&& L = 0)) →
        (∀ s4, ((s4 = -1 ∧ lfree av L 0 sz = -1) ∨ ∃ q, q < sz ∧ s4 = (N q : Int) ∧ lfree av L 0 sz = (q : Int)) → xw g M_X10_order Q 0 0 105 [(0, vR 38), (1, vI k), (2, vI (t : Int)), (3, vI s4)] [] n F) →
        xw g M_X10_order Q 0 0 57 [(0, vR 38), (1, vI k), (2, vI (t : Int)), (3, vI s3), (4, vI ((i1 : Int) - 1))] [] n F := by
      intro i1
      induction i1 with
      | zero =>
        intro t L F m1 s3 hi hG m49 hon hb hl hs K
        refine xw_iload dX10_order_57 rfl ?_
        refine xw_iflt (tgt := 105) dX10_order_59 (by decide) (by first | assumption | (unfold inI; omega) | (unfold inI at *; omega)) (fun c_59 => ?_) (fun c_59 => ?_)
        · skip
          exact xw_ls [(0, vR 38), (1, vI k), (2, vI (t : Int)), (3, vI s3)] ⟨rfl, rfl, rfl, rfl, trivial⟩ (K s3 (by
            rcases hs with ⟨a, b⟩ | ⟨q, _, a, b, c, e⟩
            · refine Or.inl ⟨a, ?_⟩
              rcases lfree_in av L sz 0 with ⟨x1, _⟩ | ⟨p, _, x2, x3, x4, _⟩
              · exact x1
              · exact absurd x4 (b p (by omega) (by omega))
            · refine Or.inr ⟨q, a, b, ?_⟩
              rcases lfree_in av L sz 0 with ⟨_, x1⟩ | ⟨p, _, x2, x3, x4, x5⟩
              · exact absurd c (x1 q (by omega) (by omega))
              · rw [x3]
                have y1 : ¬ p < q := fun z => e p (by omega) z x4
                have y2 : ¬ q < p := fun z => x5 q (by omega) z c
                omega))
        · skip
          exfalso; omega
      | succ i ih =>
        intro t L F m1 s3 hi hG m49 hon hb hl hs K
        have h38 := hG.2.1
        obtain ⟨on, h70, hon9⟩ := id hon
        obtain ⟨lf, h69, hl9⟩ := id hl
        have q1 := hl9 i (by omega)
        have ni := hN.2 i (by omega)
        have e9 : (((i + 1 : Nat) : Int) - 1) = (i : Int) := by omega
        have s39 : inI s3 := by
          rcases hs with ⟨a, _⟩ | ⟨q, _, a, b, _⟩
          · rw [a]; unfold inI; omega
          · have := hN.2 q a; rw [b]; unfold inI; omega
        rw [e9]
        have nx : ∀ s4, ((s4 = -1 ∧ ∀ q, i ≤ q → q < sz → ¬ (L.testBit q = true ∧ av q &&& L = 0)) ∨ ∃ q, i ≤ q ∧ q < sz ∧ s4 = (N q : Int) ∧ (L.testBit q = true ∧ av q &&& L = 0) ∧ ∀ q', i ≤ q' → q' < q → ¬ (L.testBit q' = true ∧ av q' &&& L = 0)) → xw g M_X10_order Q 0 0 99 [(0, vR 38), (1, vI k), (2, vI (t : Int)), (3, vI s4), (4, vI (i : Int))] [] n F := by
          intro s4 hs4
          refine xw_iinc dX10_order_99 rfl (by decide) ?_
          refine xw_goto (tgt := 57) dX10_order_102 (by decide) ?_
          exact xw_ls [(0, vR 38), (1, vI k), (2, vI (t : Int)), (3, vI s4), (4, vI ((i : Int) - 1))] ⟨rfl, rfl, rfl, rfl, congrArg (fun z => some (vI z)) (by omega : (i : Int) + -1 = (i : Int) - 1), trivial⟩ (ih t L F m1 s4 (by omega) hG m49 hon hb hl hs4 K)
        have old : ¬ (L.testBit i = true ∧ av i &&& L = 0) → xw g M_X10_order Q 0 0 99 [(0, vR 38), (1, vI k), (2, vI (t : Int)), (3, vI s3), (4, vI (i : Int))] [] n F := by
          intro hn
          refine nx s3 ?_
          rcases hs with ⟨a, b⟩ | ⟨q, a1, a, b, c, e⟩
          · refine Or.inl ⟨a, fun q' x1 x2 => ?_⟩
            by_cases e1 : q' = i
            · subst e1; exact hn
            · exact b q' (by omega) x2
          · refine Or.inr ⟨q, by omega, a, b, c, fun q' x1 x2 => ?_⟩
            by_cases e1 : q' = i
            · subst e1; exact hn
            · exact e q' (by omega) x2
        refine xw_iload dX10_order_57 rfl ?_
        refine xw_iflt (tgt := 105) dX10_order_59 (by decide) (by first | assumption | (unfold inI; omega) | (unfold inI at *; omega)) (fun c_59 => ?_) (fun c_59 => ?_)
        · skip
          exfalso; omega
        · skip
          refine xw_aload_n dX10_order_62 rfl ?_
          refine xw_getfield dX10_order_63 fl_X10_109 h38 rfl ?_
          refine xw_aload_n dX10_order_66 rfl ?_
          refine xw_getfield dX10_order_67 fl_X10_112 h38 rfl ?_
          refine xw_iload dX10_order_70 rfl ?_
          refine xw_iald dX10_order_72 h70 (j := i) rfl (by omega) (by decide) ?_
          refine xw_topi (N i : Int) (hon9 i (by omega)) ?_
          refine xw_zald dX10_order_73 h69 (j := N i) rfl (by omega) (by decide) ?_
          refine xw_ifeq (tgt := 99) dX10_order_74 (by decide) (by first | assumption | (unfold inI; omega) | (unfold inI at *; omega)) (fun c_74 => ?_) (fun c_74 => ?_)
          · skip
            first
              | exact xw_ls [(0, vR 38), (1, vI k), (2, vI (t : Int)), (3, vI s3), (4, vI (i : Int))] ⟨rfl, rfl, rfl, rfl, rfl, trivial⟩ (old (fun k9 => c1 k9.2))
              | exact xw_ls [(0, vR 38), (1, vI k), (2, vI (t : Int)), (3, vI (N i : Int)), (4, vI (i : Int))] ⟨rfl, rfl, rfl, rfl, rfl, trivial⟩ (nx _ (Or.inr ⟨i, Nat.le_refl i, by omega, rfl, ⟨by rcases q1 with ⟨a, _⟩ | ⟨_, b⟩; omega; exact b, c1⟩, fun q' x1 x2 => by omega⟩))
              | exact xw_ls [(0, vR 38), (1, vI k), (2, vI (t : Int)), (3, vI s3), (4, vI (i : Int))] ⟨rfl, rfl, rfl, rfl, rfl, trivial⟩ (old (fun k9 => by rcases q1 with ⟨_, b⟩ | ⟨a, _⟩; rw [b] at k9; cases k9.1; omega))
          · skip
            refine xw_aload_n dX10_order_77 rfl ?_
            refine xw_aload_n dX10_order_78 rfl ?_
            refine xw_getfield dX10_order_79 fl_X10_112 h38 rfl ?_
            refine xw_iload dX10_order_82 rfl ?_
            refine xw_iald dX10_order_84 h70 (j := i) rfl (by omega) (by decide) ?_
            refine xw_topi (N i : Int) (hon9 i (by omega)) ?_
            refine xw_callV (rc := 0) (rs := 0) (mc2 := 0) (ms2 := 0) (a := 38) (As := [vI (N i : Int)]) (st := []) dX10_order_85 mv_X10_291 h38 rfl rfl (by decide) (by decide) (Nat.le_of_ble_eq_true rfl) rfl (ct_freeOfLeft h38 m49 hN hgn h40 hon hb hl hav (by omega) (fun c1 => ?_) (fun c1 => ?_))
            · skip
              refine xw_ifeq (tgt := 99) dX10_order_88 (by decide) (by unfold inI; omega) (fun c => absurd c (by decide)) (fun _ => ?_)
              refine xw_aload_n dX10_order_91 rfl ?_
              refine xw_getfield dX10_order_92 fl_X10_112 h38 rfl ?_
              refine xw_iload dX10_order_95 rfl ?_
              refine xw_iald dX10_order_97 h70 (j := i) rfl (by omega) (by decide) ?_
              refine xw_topi (N i : Int) (hon9 i (by omega)) ?_
              refine xw_istore_n dX10_order_98 (by decide) ?_
              first
                | exact xw_ls [(0, vR 38), (1, vI k), (2, vI (t : Int)), (3, vI s3), (4, vI (i : Int))] ⟨rfl, rfl, rfl, rfl, rfl, trivial⟩ (old (fun k9 => c1 k9.2))
                | exact xw_ls [(0, vR 38), (1, vI k), (2, vI (t : Int)), (3, vI (N i : Int)), (4, vI (i : Int))] ⟨rfl, rfl, rfl, rfl, rfl, trivial⟩ (nx _ (Or.inr ⟨i, Nat.le_refl i, by omega, rfl, ⟨by rcases q1 with ⟨a, _⟩ | ⟨_, b⟩; omega; exact b, c1⟩, fun q' x1 x2 => by omega⟩))
                | exact xw_ls [(0, vR 38), (1, vI k), (2, vI (t : Int)), (3, vI s3), (4, vI (i : Int))] ⟨rfl, rfl, rfl, rfl, rfl, trivial⟩ (old (fun k9 => by rcases q1 with ⟨_, b⟩ | ⟨a, _⟩; rw [b] at k9; cases k9.1; omega))
            · skip
              refine xw_ifeq (tgt := 99) dX10_order_88 (by decide) (by unfold inI; omega) (fun _ => ?_) (fun c => absurd c (by decide))
              first
                | exact xw_ls [(0, vR 38), (1, vI k), (2, vI (t : Int)), (3, vI s3), (4, vI (i : Int))] ⟨rfl, rfl, rfl, rfl, rfl, trivial⟩ (old (fun k9 => c1 k9.2))
                | exact xw_ls [(0, vR 38), (1, vI k), (2, vI (t : Int)), (3, vI (N i : Int)), (4, vI (i : Int))] ⟨rfl, rfl, rfl, rfl, rfl, trivial⟩ (nx _ (Or.inr ⟨i, Nat.le_refl i, by omega, rfl, ⟨by rcases q1 with ⟨a, _⟩ | ⟨_, b⟩; omega; exact b, c1⟩, fun q' x1 x2 => by omega⟩))
                | exact xw_ls [(0, vR 38), (1, vI k), (2, vI (t : Int)), (3, vI s3), (4, vI (i : Int))] ⟨rfl, rfl, rfl, rfl, rfl, trivial⟩ (old (fun k9 => by rcases q1 with ⟨_, b⟩ | ⟨a, _⟩; rw [b] at k9; cases k9.1; omega))
    have LT : ∀ (u t L : Nat) (F : xH) (m1 : Nat → Int), t + u = sz → gR F0 F m0 m1 → m1 49 = (sz : Int) → onF F sz N → bmF F 67 sz N (fun i j => mBar d σ (N i) (N j)) → lfF F sz N L → mor av sz N k u t L = mor av sz N k sz 0 (2 ^ sz - 1) → xw g M_X10_order Q 0 0 39 [(0, vR 38), (1, vI k), (2, vI (t : Int))] [] n F := by
      intro u
      induction u with
      | zero =>
        intro t L F m1 ht hG m49 hon hb hl hr
        have h38 := hG.2.1
        refine xw_iload_n dX10_order_39 rfl ?_
        refine xw_aload_n dX10_order_40 rfl ?_
        refine xw_getfield dX10_order_41 fl_X10_285 h38 rfl ?_
        refine xw_topi (sz : Int) m49 ?_
        refine xw_icmpge (tgt := 132) dX10_order_44 (by decide) (by first | assumption | (unfold inI; omega) | (unfold inI at *; omega)) (by first | assumption | (unfold inI; omega) | (unfold inI at *; omega)) (fun c_44 => ?_) (fun c_44 => ?_)
        · skip
          refine xw_iconst dX10_order_132 ?_
          exact xw_iret dX10_order_133 rfl (Fin F m1 hG _ (by rw [← hr]; rfl))
        · skip
          exfalso; omega
      | succ u ih =>
        intro t L F m1 ht hG m49 hon hb hl hr
        have h38 := hG.2.1
        refine xw_iload_n dX10_order_39 rfl ?_
        refine xw_aload_n dX10_order_40 rfl ?_
        refine xw_getfield dX10_order_41 fl_X10_285 h38 rfl ?_
        refine xw_topi (sz : Int) m49 ?_
        refine xw_icmpge (tgt := 132) dX10_order_44 (by decide) (by first | assumption | (unfold inI; omega) | (unfold inI at *; omega)) (by first | assumption | (unfold inI; omega) | (unfold inI at *; omega)) (fun c_44 => ?_) (fun c_44 => ?_)
        · skip
          exfalso; omega
        · skip
          refine xw_iconst dX10_order_47 ?_
          refine xw_istore_n dX10_order_48 (by decide) ?_
          refine xw_aload_n dX10_order_49 rfl ?_
          refine xw_getfield dX10_order_50 fl_X10_285 h38 rfl ?_
          refine xw_topi (sz : Int) m49 ?_
          refine xw_iconst dX10_order_53 ?_
          refine xw_isub dX10_order_54 ?_
          refine xw_istore dX10_order_55 (by decide) ?_
          exact xw_ls [(0, vR 38), (1, vI k), (2, vI (t : Int)), (3, vI (-1)), (4, vI ((sz : Int) - 1))] ⟨rfl, rfl, rfl, rfl, rfl, trivial⟩ (LI sz t L F m1 (-1) (Nat.le_refl _) hG m49 hon hb hl (Or.inl ⟨rfl, fun q x1 x2 => by omega⟩) (fun s4 hs4 => by
            rw [mor] at hr
            rcases hs4 with ⟨rfl, e⟩ | ⟨q, hq9, rfl, e⟩
            · rw [if_pos e] at hr
              refine xw_iload_n dX10_order_105 rfl ?_
              refine xw_iconst dX10_order_106 ?_
              refine xw_icmpne (tgt := 112) dX10_order_107 (by decide) (by unfold inI; omega) (by unfold inI; omega) (fun c => absurd rfl c) (fun c => ?_)
              refine xw_iconst dX10_order_110 ?_
              exact xw_iret dX10_order_111 rfl (Fin F m1 hG _ hr)
            · have nq := hN.2 q hq9
              rw [if_neg (by omega), e, Int.toNat_natCast] at hr
              obtain ⟨lf, h69, hl9⟩ := id hl
              refine xw_iload_n dX10_order_105 rfl ?_
              refine xw_iconst dX10_order_106 ?_
              refine xw_icmpne (tgt := 112) dX10_order_107 (by decide) (by unfold inI; omega) (by unfold inI; omega) (fun c => ?_) (fun c => by omega)
              refine xw_iload_n dX10_order_112 rfl ?_
              refine xw_iload_n dX10_order_113 rfl ?_
              refine xw_icmpne (tgt := 119) dX10_order_114 (by decide) (by unfold inI; omega) hk (fun c => ?_) (fun c => ?_)
              · rw [if_neg (by omega)] at hr
                refine xw_aload_n dX10_order_119 rfl ?_
                refine xw_getfield dX10_order_120 fl_X10_109 h38 rfl ?_
                refine xw_iload_n dX10_order_123 rfl ?_
                refine xw_iconst dX10_order_124 ?_
                refine xw_zast dX10_order_125 h69 (j := N q) rfl (by omega) (by decide) rfl ?_
                refine xw_iinc dX10_order_126 rfl (by decide) ?_
                refine xw_goto (tgt := 39) dX10_order_129 (by decide) ?_
                exact xw_ls [(0, vR 38), (1, vI k), (2, vI ((t + 1 : Nat) : Int))] ⟨rfl, rfl, rfl, trivial⟩ (ih (t + 1) (xclr L q) _ m1 (by omega) (gR_up (t := 2) (N := 101) (k := 69) hG (by decide) (by decide) (by decide)) m49 (onF_fr hon rfl) (bmF_fr hb rfl) (lfF_clr (F := F) hN hq9 hl9 rfl) hr)
              · rw [if_pos (by omega)] at hr
                refine xw_iload_n dX10_order_117 rfl ?_
                exact xw_iret dX10_order_118 rfl (Fin F m1 hG _ hr)))
    have LA : ∀ (t i : Nat) (F : xH) (m1 lf : Nat → Int), i + t = sz → gR F0 F m0 m1 → m1 49 = (sz : Int) → onF F sz N → bmF F 67 sz N (fun i j => mBar d σ (N i) (N j)) → F 69 = some (aZ 101 lf) → (∀ i', i' < i → lf (N i') = 1) → xw g M_X10_order Q 0 0 11 [(0, vR 38), (1, vI k), (2, vI (i : Int))] [] n F := by
      intro t
      induction t with
      | zero =>
        intro i F m1 lf hi hG m49 hon hb h69 hl
        have h38 := hG.2.1
        refine xw_iload_n dX10_order_11 rfl ?_
        refine xw_aload_n dX10_order_12 rfl ?_
        refine xw_getfield dX10_order_13 fl_X10_285 h38 rfl ?_
        refine xw_topi (sz : Int) m49 ?_
        refine xw_icmpge (tgt := 37) dX10_order_16 (by decide) (by first | assumption | (unfold inI; omega) | (unfold inI at *; omega)) (by first | assumption | (unfold inI; omega) | (unfold inI at *; omega)) (fun c_16 => ?_) (fun c_16 => ?_)
        · skip
          refine xw_iconst dX10_order_37 ?_
          refine xw_istore_n dX10_order_38 (by decide) ?_
          exact xw_ls [(0, vR 38), (1, vI k), (2, vI ((0 : Nat) : Int))] ⟨rfl, rfl, rfl, trivial⟩ (LT sz 0 (2 ^ sz - 1) F m1 (by omega) hG m49 hon hb ⟨lf, h69, fun i' hi' => Or.inr ⟨hl i' (by omega), by rw [Nat.testBit_two_pow_sub_one]; exact decide_eq_true hi'⟩⟩ rfl)
        · skip
          exfalso; omega
      | succ t ih =>
        intro i F m1 lf hi hG m49 hon hb h69 hl
        have h38 := hG.2.1
        obtain ⟨on, h70, hon9⟩ := id hon
        have ni := hN.2 i (by omega)
        refine xw_iload_n dX10_order_11 rfl ?_
        refine xw_aload_n dX10_order_12 rfl ?_
        refine xw_getfield dX10_order_13 fl_X10_285 h38 rfl ?_
        refine xw_topi (sz : Int) m49 ?_
        refine xw_icmpge (tgt := 37) dX10_order_16 (by decide) (by first | assumption | (unfold inI; omega) | (unfold inI at *; omega)) (by first | assumption | (unfold inI; omega) | (unfold inI at *; omega)) (fun c_16 => ?_) (fun c_16 => ?_)
        · skip
          exfalso; omega
        · skip
          refine xw_aload_n dX10_order_19 rfl ?_
          refine xw_getfield dX10_order_20 fl_X10_109 h38 rfl ?_
          refine xw_aload_n dX10_order_23 rfl ?_
          refine xw_getfield dX10_order_24 fl_X10_112 h38 rfl ?_
          refine xw_iload_n dX10_order_27 rfl ?_
          refine xw_iald dX10_order_28 h70 (j := i) rfl (by omega) (by decide) ?_
          refine xw_topi (N i : Int) (hon9 i (by omega)) ?_
          refine xw_iconst dX10_order_29 ?_
          refine xw_zast dX10_order_30 h69 (j := N i) rfl (by omega) (by decide) rfl ?_
          refine xw_iinc dX10_order_31 rfl (by decide) ?_
          refine xw_goto (tgt := 11) dX10_order_34 (by decide) ?_
          exact xw_ls [(0, vR 38), (1, vI k), (2, vI ((i + 1 : Nat) : Int))] ⟨rfl, rfl, rfl, trivial⟩ (ih (i + 1) _ m1 _ (by omega) (gR_up (t := 2) (N := 101) (k := 69) hG (by decide) (by decide) (by decide)) m49 (onF_fr hon rfl) (bmF_fr hb rfl) rfl (fun i' hi' => by
            by_cases e : i' = i
            · subst e; rw [xui_s]
            · rw [xui_n _ _ (fun k9 => e (onO_inj hN (by omega) (by omega) k9))]; exact hl i' (by omega)))
    refine xw_aload_n dX10_order_5 rfl ?_
    refine xw_callV (rc := 0) (rs := 0) (mc2 := 0) (ms2 := 0) (a := 38) (As := []) (st := []) dX10_order_6 mv_X10_288 h38 rfl rfl (by decide) (by decide) (Nat.le_of_ble_eq_true rfl) rfl (ct_findBars hE0 hsh hN h40 (fun F1 m1 hG m49 hon hb => ?_))
    obtain ⟨lf, h69⟩ := msh_at hG.2.2.2 (k := 69) (t := 2) (N := 101) (by decide)
    refine xw_iconst dX10_order_9 ?_
    refine xw_istore_n dX10_order_10 (by decide) ?_
    exact xw_ls [(0, vR 38), (1, vI k), (2, vI ((0 : Nat) : Int))] ⟨rfl, rfl, rfl, trivial⟩ (LA sz 0 F1 m1 lf (by omega) hG m49 hon hb h69 (fun i' hi' => absurd hi' (Nat.not_lt_zero _)))
  obtain ⟨m, h38, hm, _⟩ := id h
  refine xw_aload_n dX10_order_0 rfl ?_
  refine xw_iconst dX10_order_1 ?_
  refine xw_putfield dX10_order_2 (fp_X10_1 _) h38 rfl rfl ?_
  rw [xmd_0]
  exact S _ (MS_th 0 h h38 hm).1 (MS_th 0 h h38 hm).2
end C97b
