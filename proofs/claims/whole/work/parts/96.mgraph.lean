/-! the model's graph: who lies, who bars whom -/
abbrev grS : List Nat := [38, 48, 49, 50, 51, 56, 57, 58, 67, 68, 69, 70, 71, 72, 73, 74, 75, 76]
def grk (k : Nat) : Prop := k < 25 ∨ (29 < k ∧ k ≠ 49 ∧ k ≠ 50 ∧ k ≠ 53 ∧ k ≠ 56 ∧ k ≠ 57 ∧ k ≠ 58)
def gR (f F : xH) (m m1 : Nat → Int) : Prop := fr grS f F ∧ F 38 = some (oMd m1) ∧ (∀ k, grk k → m1 k = m k) ∧ msh F
theorem gR_rf {f : xH} {m : Nat → Int} (h : f 38 = some (oMd m)) (hs : msh f) : gR f f m m := ⟨fr_rf _ _, h, fun _ _ => rfl, hs⟩
theorem gR_up {f F : xH} {m m1 : Nat → Int} {k t N : Nat} {c : Nat → Int} (h : gR f F m m1) (hk : k ∈ grS) (h38 : 38 ≠ k) (hp : ∀ p ∈ shL, p.1 = k → p.2 = (t, N)) : gR f (xup F k (arr t N c)) m m1 := ⟨fr_up h.1 hk, (xup_n _ _ h38).trans h.2.1, h.2.2.1, msh_up h.2.2.2 hp⟩
theorem gR_38 {f F : xH} {m m1 : Nat → Int} {k : Nat} {x : Int} (h : gR f F m m1) (hk : ¬ grk k) : gR f (xup F 38 (oMd (xui m1 k x))) m (xui m1 k x) := ⟨fr_up h.1 (by decide), xup_s _ _ _, fun j hj => (xui_n _ _ (fun e : j = k => hk (by rw [← e]; exact hj))).trans (h.2.2.1 j hj), msh_o h.2.2.2 (by decide)⟩
theorem gR_cr {f F F2 : xH} {m m1 m2 : Nat → Int} (h : gR f F m m1) (h2 : crF F F2 m1 m2) : gR f F2 m m2 := ⟨fr_tr h.1 (fr_sub h2.1 (by decide)), h2.2.1, fun k q => (h2.2.2.1 k (by unfold grk at q; omega)).trans (h.2.2.1 k q), crF_sh h.2.2.2 h2⟩
theorem gR_tr {f F F2 : xH} {m m1 m2 : Nat → Int} (h : gR f F m m1) (h2 : gR F F2 m1 m2) : gR f F2 m m2 := ⟨fr_tr h.1 h2.1, h2.2.1, fun k q => (h2.2.2.1 k q).trans (h.2.2.1 k q), h2.2.2.2⟩
theorem mE_gr {m m1 : Nat → Int} {f f1 : xH} {gn : Nat} {σ : Nat → xSt} {d : Nat → Int} (h : mE m f gn σ d) (hf : gR f f1 m m1) : mE m1 f1 gn σ d := by
  obtain ⟨h1, h2, ⟨h3, h4, h5⟩, h6, h7, h8⟩ := h
  obtain ⟨c1, c2, c3, c4⟩ := hf
  exact ⟨c2, (c3 6 (by unfold grk; omega)).trans h2, ⟨(c3 13 (by unfold grk; omega)).trans h3, (c3 14 (by unfold grk; omega)).trans h4, (c3 15 (by unfold grk; omega)).trans h5⟩, mst_fr h6 (fun k a b => c1 k (by simp only [List.mem_cons, List.not_mem_nil, or_false]; omega)), msh_vc c4, h8⟩
theorem MS_gr {f f1 : xH} {th : Int} {bn : Nat} {β : Nat → xBx} {gn : Nat} {σ : Nat → xSt} {d : Nat → Int} {as : List xAc} {ps : Nat} {pb : Nat → Int} {pu : Nat} {pr : Nat → Int} {m m1 : Nat → Int} (h : MS f th bn β gn σ d as ps pb pu pr) (hm : mfd m th bn gn σ d as ps pu) (hf : gR f f1 m m1) : MS f1 th bn β gn σ d as ps pb pu pr ∧ kC f f1 ∧ mfd m1 th bn gn σ d as ps pu := by
  have c3 := hf.2.2.1
  obtain ⟨a1, a2, a3, a4, a5, a6, a7, a8, a9, a10⟩ := hm
  have hm1 : mfd m1 th bn gn σ d as ps pu := ⟨(c3 0 (by unfold grk; omega)).trans a1, (c3 1 (by unfold grk; omega)).trans a2, (c3 6 (by unfold grk; omega)).trans a3, (c3 7 (by unfold grk; omega)).trans a4, (c3 13 (by unfold grk; omega)).trans a5, (c3 14 (by unfold grk; omega)).trans a6, (c3 15 (by unfold grk; omega)).trans a7, (c3 23 (by unfold grk; omega)).trans a8, (c3 42 (by unfold grk; omega)).trans a9, (c3 60 (by unfold grk; omega)).trans a10⟩
  exact ⟨MS_s h hf.2.1 hm1 hf.2.2.2 (fun k q => hf.1 k (by simp only [List.mem_cons, List.not_mem_nil, or_false]; omega)), fun k q => hf.1 k (by simp only [List.mem_cons, List.not_mem_nil, or_false]; omega), hm1⟩
/-- the lying sticks in their order -/
def onO (gn : Nat) (σ : Nat → xSt) (sz : Nat) (N : Nat → Nat) : Prop := sz = hc σ gn ∧ ∀ p, p < sz → N p < gn ∧ hrS (σ (N p)) = 1 ∧ hc σ (N p) = p
theorem onO_lt {gn : Nat} {σ : Nat → xSt} {sz : Nat} {N : Nat → Nat} (h : onO gn σ sz N) {i j : Nat} (hij : i < j) (hj : j < sz) : N i < N j := by
  have a := h.2 i (by omega)
  have b := h.2 j hj
  refine Nat.lt_of_not_le (fun k => ?_)
  have := hc_le (σ := σ) k
  omega
theorem onO_inj {gn : Nat} {σ : Nat → xSt} {sz : Nat} {N : Nat → Nat} (h : onO gn σ sz N) {i j : Nat} (hi : i < sz) (hj : j < sz) (e : N i = N j) : i = j := by
  have a := h.2 i hi
  have b := h.2 j hj
  rw [e] at a
  omega
theorem onO_at {gn : Nat} {σ : Nat → xSt} {sz : Nat} {N : Nat → Nat} (h : onO gn σ sz N) {s : Nat} (hs : s < gn) (hr : hrS (σ s) = 1) : hc σ s < sz ∧ N (hc σ s) = s := by
  have h1 : hc σ s < sz := by rw [h.1]; exact hc_lt hs hr
  have a := h.2 _ h1
  exact ⟨h1, hc_inj a.2.1 hr a.2.2⟩
def onF (F : xH) (sz : Nat) (N : Nat → Nat) : Prop := ∃ on, F 70 = some (aI 40 on) ∧ ∀ p, p < sz → on p = (N p : Int)
/-- a table of yes and no between the lying sticks -/
def bmF (F : xH) (c sz : Nat) (N : Nat → Nat) (R : Nat → Nat → Prop) : Prop := ∃ br, F c = some (aZ 10000 br) ∧ ∀ i j, i < sz → j < sz → (br (100 * N i + N j) = 0 ∧ ¬ R i j) ∨ (br (100 * N i + N j) = 1 ∧ R i j)
theorem onF_fr {F F1 : xH} {sz : Nat} {N : Nat → Nat} (h : onF F sz N) (hf : F1 70 = F 70) : onF F1 sz N := by obtain ⟨on, a, b⟩ := h; exact ⟨on, hf.trans a, b⟩
theorem bmF_fr {F F1 : xH} {c sz : Nat} {N : Nat → Nat} {R : Nat → Nat → Prop} (h : bmF F c sz N R) (hf : F1 c = F c) : bmF F1 c sz N R := by obtain ⟨on, a, b⟩ := h; exact ⟨on, hf.trans a, b⟩
section C96
variable {g : xG} {y : xM} {Q : xP} {n : Nat} {f : xH} {gn : Nat} {σ : Nat → xSt} {d m : Nat → Int} {sz : Nat} {N : Nat → Nat}
set_option maxHeartbeats 8000000 in
theorem ct_findBars (h : mE m f gn σ d) (hsh : msh f) (hN : onO gn σ sz N) (h40 : sz ≤ 40) (hq : ∀ F m1, gR f F m m1 → m1 49 = (sz : Int) → onF F sz N → bmF F 67 sz N (fun i j => mBar d σ (N i) (N j)) → Q (.inl none) n F) : xct g M_X10_findBars 0 0 [vR 38] n f Q := by
  refine xct_of rfl rfl (Nat.le_of_ble_eq_true rfl) ?_
  have hgn : gn ≤ 100 := h.2.2.2.1.choose_spec.choose_spec.choose_spec.choose_spec.choose_spec.2.2.2.2.2.1
  have LJ : ∀ (t j i : Nat) (F : xH) (m1 on br : Nat → Int), j + t = sz → i < sz → gR f F m m1 → m1 49 = (sz : Int) → F 70 = some (aI 40 on) → (∀ p, p < sz → on p = (N p : Int)) → F 67 = some (aZ 10000 br) → (∀ i' j', i' < sz → j' < sz → (i' < i ∨ (i' = i ∧ j' < j)) → (br (100 * N i' + N j') = 0 ∧ ¬ mBar d σ (N i') (N j')) ∨ (br (100 * N i' + N j') = 1 ∧ mBar d σ (N i') (N j'))) → (∀ (F2 : xH) (m2 on2 br2 : Nat → Int), gR f F2 m m2 → m2 49 = (sz : Int) → F2 70 = some (aI 40 on2) → (∀ p, p < sz → on2 p = (N p : Int)) → F2 67 = some (aZ 10000 br2) → (∀ i' j', i' < sz → j' < sz → i' < i + 1 → (br2 (100 * N i' + N j') = 0 ∧ ¬ mBar d σ (N i') (N j')) ∨ (br2 (100 * N i' + N j') = 1 ∧ mBar d σ (N i') (N j'))) → xw g M_X10_findBars Q 0 0 55 [(0, vR 38), (1, vI ((i + 1 : Nat) : Int))] [] n F2) → xw g M_X10_findBars Q 0 0 65 [(0, vR 38), (1, vI (i : Int)), (2, vI (j : Int))] [] n F := by
    intro t
    induction t with
    | zero =>
      intro j i F m1 on br hj hi hF m49 h70 hon h67 hb K
      have h38 := hF.2.1
      refine xw_iload_n dX10_findBars_65 rfl ?_
      refine xw_aload_n dX10_findBars_66 rfl ?_
      refine xw_getfield dX10_findBars_67 fl_X10_285 h38 rfl ?_
      refine xw_topi (sz : Int) m49 ?_
      refine xw_icmpge (tgt := 116) dX10_findBars_70 (by decide) (by first | assumption | (unfold inI; omega) | (unfold inI at *; omega)) (by first | assumption | (unfold inI; omega) | (unfold inI at *; omega)) (fun c_70 => ?_) (fun c_70 => ?_)
      · skip
        refine xw_iinc dX10_findBars_116 rfl (by decide) ?_
        refine xw_goto (tgt := 55) dX10_findBars_119 (by decide) ?_
        exact xw_ls [(0, vR 38), (1, vI ((i + 1 : Nat) : Int))] ⟨rfl, rfl, trivial⟩ (K F m1 on br hF m49 h70 hon h67 (fun i' j' a b c => hb i' j' a b (by omega)))
      · skip
        exfalso; omega
    | succ t ih =>
      intro j i F m1 on br hj hi hF m49 h70 hon h67 hb K
      have h38 := hF.2.1
      have hE := mE_gr h hF
      have ni := hN.2 i hi
      have nj := hN.2 j (by omega)
      have step : ∀ (F2 : xH) (m2 : Nat → Int) (r : Int), crF F F2 m1 m2 → ((r = 0 ∧ ¬ mBar d σ (N i) (N j)) ∨ (r = 1 ∧ mBar d σ (N i) (N j))) → xw g M_X10_findBars Q 0 0 110 [(0, vR 38), (1, vI (i : Int)), (2, vI (j : Int))] [] n (xup F2 67 (aZ 10000 (xui br (100 * N i + N j) r))) := by
        intro F2 m2 r c2 hr9
        have G2 := gR_up (t := 2) (N := 10000) (c := xui br (100 * N i + N j) r) (gR_cr hF c2) (k := 67) (by decide) (by decide) (by decide)
        refine xw_iinc dX10_findBars_110 rfl (by decide) ?_
        refine xw_goto (tgt := 65) dX10_findBars_113 (by decide) ?_
        exact xw_ls [(0, vR 38), (1, vI (i : Int)), (2, vI ((j + 1 : Nat) : Int))] ⟨rfl, rfl, rfl, trivial⟩ (ih (j + 1) i _ m2 on _ (by omega) hi G2 ((c2.2.2.1 49 (by omega)).trans m49) (fr_at c2.1 h70 (by decide)) hon rfl (fun i' j' a b c => by
            by_cases e : i' = i ∧ j' = j
            · obtain ⟨rfl, rfl⟩ := e
              rw [xui_s]; exact hr9
            · have ni' := hN.2 i' a
              have nj' := hN.2 j' b
              have e2 : 100 * N i' + N j' ≠ 100 * N i + N j := fun q => e ⟨onO_inj hN a hi (by omega), onO_inj hN b (by omega) (by omega)⟩
              rw [xui_n _ _ e2]
              exact hb i' j' a b (by omega)) K)
      refine xw_iload_n dX10_findBars_65 rfl ?_
      refine xw_aload_n dX10_findBars_66 rfl ?_
      refine xw_getfield dX10_findBars_67 fl_X10_285 h38 rfl ?_
      refine xw_topi (sz : Int) m49 ?_
      refine xw_icmpge (tgt := 116) dX10_findBars_70 (by decide) (by first | assumption | (unfold inI; omega) | (unfold inI at *; omega)) (by first | assumption | (unfold inI; omega) | (unfold inI at *; omega)) (fun c_70 => ?_) (fun c_70 => ?_)
      · skip
        exfalso; omega
      · skip
        refine xw_aload_n dX10_findBars_73 rfl ?_
        refine xw_getfield dX10_findBars_74 fl_X10_103 h38 rfl ?_
        refine xw_bipush (z := 100) dX10_findBars_77 (by decide) ?_
        refine xw_aload_n dX10_findBars_79 rfl ?_
        refine xw_getfield dX10_findBars_80 fl_X10_112 h38 rfl ?_
        refine xw_iload_n dX10_findBars_83 rfl ?_
        refine xw_iald dX10_findBars_84 h70 (j := i) rfl (by omega) (by decide) ?_
        refine xw_topi (N i : Int) (hon i hi) ?_
        refine xw_imul dX10_findBars_85 ?_
        refine xw_aload_n dX10_findBars_86 rfl ?_
        refine xw_getfield dX10_findBars_87 fl_X10_112 h38 rfl ?_
        refine xw_iload_n dX10_findBars_90 rfl ?_
        refine xw_iald dX10_findBars_91 h70 (j := j) rfl (by omega) (by decide) ?_
        refine xw_topi (N j : Int) (hon j (by omega)) ?_
        refine xw_iadd dX10_findBars_92 ?_
        refine xw_aload_n dX10_findBars_93 rfl ?_
        refine xw_aload_n dX10_findBars_94 rfl ?_
        refine xw_getfield dX10_findBars_95 fl_X10_112 h38 rfl ?_
        refine xw_iload_n dX10_findBars_98 rfl ?_
        refine xw_iald dX10_findBars_99 h70 (j := i) rfl (by omega) (by decide) ?_
        refine xw_topi (N i : Int) (hon i hi) ?_
        refine xw_aload_n dX10_findBars_100 rfl ?_
        refine xw_getfield dX10_findBars_101 fl_X10_112 h38 rfl ?_
        refine xw_iload_n dX10_findBars_104 rfl ?_
        refine xw_iald dX10_findBars_105 h70 (j := j) rfl (by omega) (by decide) ?_
        refine xw_topi (N j : Int) (hon j (by omega)) ?_
        refine xw_callV (rc := 0) (rs := 0) (mc2 := 0) (ms2 := 0) (a := 38) (As := [vI (N i : Int), vI (N j : Int)]) (st := [vI (100 * (N i : Int) + (N j : Int)), vR 67]) dX10_findBars_106 mv_X10_261 h38 rfl rfl (by decide) (by decide) (Nat.le_of_ble_eq_true rfl) rfl (ct_isBar hE ni.1 nj.1 (fun F2 m2 c1 c2 => ?_) (fun F2 m2 c1 c2 => ?_))
        · skip
          refine xw_zast dX10_findBars_109 (fr_at c2.1 h67 (by decide)) (j := 100 * N i + N j) (by omega) (by omega) (by decide) rfl ?_
          first
            | exact xw_ls [(0, vR 38), (1, vI (i : Int)), (2, vI (j : Int))] ⟨rfl, rfl, rfl, trivial⟩ (step F2 m2 1 c2 (Or.inr ⟨rfl, c1⟩))
            | exact xw_ls [(0, vR 38), (1, vI (i : Int)), (2, vI (j : Int))] ⟨rfl, rfl, rfl, trivial⟩ (step F2 m2 0 c2 (Or.inl ⟨rfl, c1⟩))
        · skip
          refine xw_zast dX10_findBars_109 (fr_at c2.1 h67 (by decide)) (j := 100 * N i + N j) (by omega) (by omega) (by decide) rfl ?_
          first
            | exact xw_ls [(0, vR 38), (1, vI (i : Int)), (2, vI (j : Int))] ⟨rfl, rfl, rfl, trivial⟩ (step F2 m2 1 c2 (Or.inr ⟨rfl, c1⟩))
            | exact xw_ls [(0, vR 38), (1, vI (i : Int)), (2, vI (j : Int))] ⟨rfl, rfl, rfl, trivial⟩ (step F2 m2 0 c2 (Or.inl ⟨rfl, c1⟩))
  have LI : ∀ (t i : Nat) (F : xH) (m1 on br : Nat → Int), i + t = sz → gR f F m m1 → m1 49 = (sz : Int) → F 70 = some (aI 40 on) → (∀ p, p < sz → on p = (N p : Int)) → F 67 = some (aZ 10000 br) → (∀ i' j', i' < sz → j' < sz → i' < i → (br (100 * N i' + N j') = 0 ∧ ¬ mBar d σ (N i') (N j')) ∨ (br (100 * N i' + N j') = 1 ∧ mBar d σ (N i') (N j'))) → xw g M_X10_findBars Q 0 0 55 [(0, vR 38), (1, vI (i : Int))] [] n F := by
    intro t
    induction t with
    | zero =>
      intro i F m1 on br hi hF m49 h70 hon h67 hb
      have h38 := hF.2.1
      refine xw_iload_n dX10_findBars_55 rfl ?_
      refine xw_aload_n dX10_findBars_56 rfl ?_
      refine xw_getfield dX10_findBars_57 fl_X10_285 h38 rfl ?_
      refine xw_topi (sz : Int) m49 ?_
      refine xw_icmpge (tgt := 122) dX10_findBars_60 (by decide) (by first | assumption | (unfold inI; omega) | (unfold inI at *; omega)) (by first | assumption | (unfold inI; omega) | (unfold inI at *; omega)) (fun c_60 => ?_) (fun c_60 => ?_)
      · skip
        exact xw_vret dX10_findBars_122 rfl (hq F m1 hF m49 ⟨on, h70, hon⟩ ⟨br, h67, fun i' j' a b => hb i' j' a b (by omega)⟩)
      · skip
        exfalso; omega
    | succ t ih =>
      intro i F m1 on br hi hF m49 h70 hon h67 hb
      have h38 := hF.2.1
      refine xw_iload_n dX10_findBars_55 rfl ?_
      refine xw_aload_n dX10_findBars_56 rfl ?_
      refine xw_getfield dX10_findBars_57 fl_X10_285 h38 rfl ?_
      refine xw_topi (sz : Int) m49 ?_
      refine xw_icmpge (tgt := 122) dX10_findBars_60 (by decide) (by first | assumption | (unfold inI; omega) | (unfold inI at *; omega)) (by first | assumption | (unfold inI; omega) | (unfold inI at *; omega)) (fun c_60 => ?_) (fun c_60 => ?_)
      · skip
        exfalso; omega
      · skip
        refine xw_iconst dX10_findBars_63 ?_
        refine xw_istore_n dX10_findBars_64 (by decide) ?_
        exact xw_ls [(0, vR 38), (1, vI (i : Int)), (2, vI ((0 : Nat) : Int))] ⟨rfl, rfl, rfl, trivial⟩ (LJ sz 0 i F m1 on br (by omega) (by omega) hF m49 h70 hon h67 (fun i' j' a b c => hb i' j' a b (by omega)) (fun F2 m2 on2 br2 q1 q2 q3 q4 q5 q6 => ih (i + 1) F2 m2 on2 br2 (by omega) q1 q2 q3 q4 q5 q6))
  have LS9 : ∀ (t s : Nat) (F : xH) (m1 on : Nat → Int), s + t = gn → gR f F m m1 → m1 49 = (hc σ s : Int) → F 70 = some (aI 40 on) → (∀ p, p < hc σ s → on p = (N p : Int)) → xw g M_X10_findBars Q 0 0 7 [(0, vR 38), (1, vI (s : Int))] [] n F := by
    intro t
    induction t with
    | zero =>
      intro s F m1 on hs hF m49 h70 hon
      obtain ⟨h38, m6, _⟩ := mE_gr h hF
      obtain rfl : s = gn := by omega
      obtain ⟨br, h67⟩ := msh_at hF.2.2.2 (k := 67) (t := 2) (N := 10000) (by decide)
      rw [← hN.1] at m49 hon
      refine xw_iload_n dX10_findBars_7 rfl ?_
      refine xw_aload_n dX10_findBars_8 rfl ?_
      refine xw_getfield dX10_findBars_9 fl_X10_181 h38 rfl ?_
      refine xw_topi (s : Int) m6 ?_
      refine xw_icmpge (tgt := 53) dX10_findBars_12 (by decide) (by first | assumption | (unfold inI; omega) | (unfold inI at *; omega)) (by first | assumption | (unfold inI; omega) | (unfold inI at *; omega)) (fun c_12 => ?_) (fun c_12 => ?_)
      · skip
        refine xw_iconst dX10_findBars_53 ?_
        refine xw_istore_n dX10_findBars_54 (by decide) ?_
        exact xw_ls [(0, vR 38), (1, vI ((0 : Nat) : Int))] ⟨rfl, rfl, trivial⟩ (LI sz 0 F m1 on br (by omega) hF m49 h70 hon h67 (fun i' j' a b c => absurd c (Nat.not_lt_zero _)))
      · skip
        exfalso; omega
    | succ t ih =>
      intro s F m1 on hs hF m49 h70 hon
      obtain ⟨h38, m6, _, ⟨K9, M, W, P, Z, s43, s44, s45, s46, s47, hgn9, hall, hz9⟩, _⟩ := mE_gr h hF
      have q9 := hall s (by omega)
      have z9 := hz9 s (by omega)
      have hle := hc_le (σ := σ) (s := s) (t := gn) (by omega)
      have e9 := hN.1
      refine xw_iload_n dX10_findBars_7 rfl ?_
      refine xw_aload_n dX10_findBars_8 rfl ?_
      refine xw_getfield dX10_findBars_9 fl_X10_181 h38 rfl ?_
      refine xw_topi (gn : Int) m6 ?_
      refine xw_icmpge (tgt := 53) dX10_findBars_12 (by decide) (by first | assumption | (unfold inI; omega) | (unfold inI at *; omega)) (by first | assumption | (unfold inI; omega) | (unfold inI at *; omega)) (fun c_12 => ?_) (fun c_12 => ?_)
      · skip
        exfalso; omega
      · skip
        refine xw_aload_n dX10_findBars_15 rfl ?_
        refine xw_getfield dX10_findBars_16 fl_X10_39 h38 rfl ?_
        refine xw_iload_n dX10_findBars_19 rfl ?_
        refine xw_zald dX10_findBars_20 s47 (j := s) rfl (by omega) (by decide) ?_
        refine xw_ifne (tgt := 27) dX10_findBars_21 (by decide) (by first | assumption | (unfold inI; omega) | (unfold inI at *; omega)) (fun c_21 => ?_) (fun c_21 => ?_)
        · skip
          have hr1 : hrS (σ s) = 1 := by omega
          have at9 := onO_at hN (s := s) (by omega) hr1
          refine xw_aload_n dX10_findBars_27 rfl ?_
          refine xw_getfield dX10_findBars_28 fl_X10_112 h38 rfl ?_
          refine xw_aload_n dX10_findBars_31 rfl ?_
          refine xw_getfield dX10_findBars_32 fl_X10_285 h38 rfl ?_
          refine xw_topi (hc σ s : Int) m49 ?_
          refine xw_iload_n dX10_findBars_35 rfl ?_
          refine xw_iast dX10_findBars_36 h70 (j := hc σ s) rfl (by omega) (by decide) ?_
          refine xw_aload_n dX10_findBars_37 rfl ?_
          refine xw_dup dX10_findBars_38 rfl ?_
          refine xw_getfield dX10_findBars_39 fl_X10_285 h38 rfl ?_
          refine xw_topi (hc σ s : Int) m49 ?_
          refine xw_iconst dX10_findBars_42 ?_
          refine xw_iadd dX10_findBars_43 ?_
          refine xw_topi ((hc σ (s + 1) : Nat) : Int) (by rw [hc_1 hr1]; rfl) ?_
          refine xw_putfield dX10_findBars_44 (fp_X10_285 _) h38 rfl rfl ?_
          rw [xmd_49]
          refine xw_iinc dX10_findBars_47 rfl (by decide) ?_
          refine xw_goto (tgt := 7) dX10_findBars_50 (by decide) ?_
          first
            | exact xw_ls [(0, vR 38), (1, vI ((s + 1 : Nat) : Int))] ⟨rfl, rfl, trivial⟩ (ih (s + 1) F m1 on (by omega) hF (by rw [hc_0 (by omega)]; exact m49) h70 (by rw [hc_0 (by omega)]; exact hon))
            | exact xw_ls [(0, vR 38), (1, vI ((s + 1 : Nat) : Int))] ⟨rfl, rfl, trivial⟩ (ih (s + 1) _ _ _ (by omega) (gR_38 (k := 49) (gR_up (t := 0) (N := 40) (k := 70) hF (by decide) (by decide) (by decide)) (by unfold grk; omega)) (xui_s _ _ _) rfl (fun p hp => by
                rw [hc_1 hr1] at hp
                by_cases e : p = hc σ s
                · subst e; rw [xui_s, at9.2]
                · rw [xui_n _ _ e]; exact hon p (by omega)))
        · skip
          refine xw_goto (tgt := 47) dX10_findBars_24 (by decide) ?_
          refine xw_iinc dX10_findBars_47 rfl (by decide) ?_
          refine xw_goto (tgt := 7) dX10_findBars_50 (by decide) ?_
          first
            | exact xw_ls [(0, vR 38), (1, vI ((s + 1 : Nat) : Int))] ⟨rfl, rfl, trivial⟩ (ih (s + 1) F m1 on (by omega) hF (by rw [hc_0 (by omega)]; exact m49) h70 (by rw [hc_0 (by omega)]; exact hon))
            | exact xw_ls [(0, vR 38), (1, vI ((s + 1 : Nat) : Int))] ⟨rfl, rfl, trivial⟩ (ih (s + 1) _ _ _ (by omega) (gR_38 (k := 49) (gR_up (t := 0) (N := 40) (k := 70) hF (by decide) (by decide) (by decide)) (by unfold grk; omega)) (xui_s _ _ _) rfl (fun p hp => by
                rw [hc_1 hr1] at hp
                by_cases e : p = hc σ s
                · subst e; rw [xui_s, at9.2]
                · rw [xui_n _ _ e]; exact hon p (by omega)))
  obtain ⟨h38, m6, _⟩ := id h
  obtain ⟨on, h70⟩ := msh_at hsh (k := 70) (t := 0) (N := 40) (by decide)
  refine xw_aload_n dX10_findBars_0 rfl ?_
  refine xw_iconst dX10_findBars_1 ?_
  refine xw_putfield dX10_findBars_2 (fp_X10_285 _) h38 rfl rfl ?_
  rw [xmd_49]
  refine xw_iconst dX10_findBars_5 ?_
  refine xw_istore_n dX10_findBars_6 (by decide) ?_
  exact xw_ls [(0, vR 38), (1, vI ((0 : Nat) : Int))] ⟨rfl, rfl, trivial⟩ (LS9 gn 0 _ _ on (by omega) (gR_38 (k := 49) (gR_rf h38 hsh) (by unfold grk; omega)) rfl h70 (fun p hp => absurd hp (Nat.not_lt_zero _)))
end C96
