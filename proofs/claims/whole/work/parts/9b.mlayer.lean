/-! the model: knots, layer -/
def kS (F : xH) (m1 : Nat → Int) (sz : Nat) (N : Nat → Nat) (B : Nat → Nat → Prop) (kn : Nat → Int) (kc : Nat) : Prop := m1 49 = (sz : Int) ∧ onF F sz N ∧ bmF F 67 sz N B ∧ m1 50 = (kc : Int) ∧ knF F sz N kn
def lsum (l : Nat → Nat) : Nat → Nat
  | 0 => 0
  | k + 1 => lsum l k + l k
theorem lsum_cg {l l1 : Nat → Nat} : ∀ k, (∀ i, i < k → l i = l1 i) → lsum l k = lsum l1 k := by
  intro k
  induction k with
  | zero => intro _; rfl
  | succ k ih => intro h; unfold lsum; rw [ih (fun i hi => h i (by omega)), h k (by omega)]
theorem lsum_le {l l1 : Nat → Nat} : ∀ k, (∀ i, i < k → l i ≤ l1 i) → lsum l k ≤ lsum l1 k := by
  intro k
  induction k with
  | zero => intro _; exact Nat.le_refl _
  | succ k ih => intro h; unfold lsum; have := ih (fun i hi => h i (by omega)); have := h k (by omega); omega
theorem lsum_up {l : Nat → Nat} {j x : Nat} (hx : l j < x) : ∀ k, j < k → lsum l k < lsum (xui l j x) k := by
  intro k
  induction k with
  | zero => intro h; omega
  | succ k ih =>
    intro h
    unfold lsum
    by_cases e : j = k
    · subst e
      rw [xui_s, lsum_cg (l := xui l j x) (l1 := l) j (fun i hi => xui_n _ _ (by omega))]
      omega
    · rw [xui_n _ _ (fun z => e z.symm)]
      have := ih (by omega)
      omega
def lyF (F : xH) (sz : Nat) (N : Nat → Nat) (l : Nat → Nat) : Prop := ∃ la, F 71 = some (aI 101 la) ∧ ∀ i, i < sz → la (N i) = (l i : Int)
def lyOK (sz : Nat) (B : Nat → Nat → Prop) (ly : Nat → Nat) : Prop := (∀ i j, i < sz → j < sz → B i j → ly i < ly j) ∧ (∀ j, j < sz → ly j ≠ 0 → ∃ i, i < sz ∧ B i j ∧ ly i + 1 = ly j) ∧ ∀ j, j < sz → ly j ≤ 40
theorem ly_eq {sz : Nat} {B : Nat → Nat → Prop} {ly l : Nat → Nat} (h : lyOK sz B ly) (h1 : ∀ i j, i < sz → j < sz → B i j → l i < l j) (h2 : ∀ i, i < sz → l i ≤ ly i) : ∀ k j, j < sz → ly j ≤ k → l j = ly j := by
  intro k
  induction k with
  | zero => intro j hj hk; have := h2 j hj; omega
  | succ k ih =>
    intro j hj hk
    have a := h2 j hj
    by_cases e : ly j = 0
    · omega
    · obtain ⟨i, hi, hb, he⟩ := h.2.1 j hj e
      have b := h1 i j hi hj hb
      have c := ih i hi (by omega)
      omega
section C9b
variable {g : xG} {y : xM} {Q : xP} {n : Nat} {f : xH} {th : Int} {bn : Nat} {β : Nat → xBx} {gn : Nat} {σ : Nat → xSt} {d : Nat → Int} {as : List xAc} {ps : Nat} {pb : Nat → Int} {pu : Nat} {pr : Nat → Int} {sz : Nat} {N : Nat → Nat} {av : Nat → Nat}
set_option maxHeartbeats 4000000 in
theorem mct_knots (h : MS f th bn β gn σ d as ps pb pu pr) (hN : onO gn σ sz N) (hav : avR sz av (fun i j => mBar d σ (N i) (N j))) (hq : ∀ f1, MS f1 0 bn β gn σ d as ps pb pu pr → kC f f1 → Q (.inl (some (vI ((mkA (fun i j => WP av sz i j) sz).2 : Int)))) n f1) : xct g M_X10_knots 0 0 [vR 38] n f Q := by
  refine xct_of rfl rfl (Nat.le_of_ble_eq_true rfl) ?_
  have S : ∀ F, MS F 0 bn β gn σ d as ps pb pu pr → kC f F → xw g M_X10_knots Q 0 0 5 [(0, vR 38)] [] n F := by
    intro F0 hF0 kF0
    obtain ⟨m0, hm0, hE0⟩ := MS_E hF0
    have h38 := hE0.1
    have hsh : msh F0 := hF0.choose_spec.2.2.2.2.2.2.2.1
    have h40 : sz ≤ 40 := by rw [hN.1]; exact hF0.choose_spec.2.2.2.2.2.2.2.2.1
    refine xw_aload_n dX10_knots_5 rfl ?_
    refine xw_callV (rc := 0) (rs := 0) (mc2 := 0) (ms2 := 0) (a := 38) (As := []) (st := []) dX10_knots_6 mv_X10_297 h38 rfl rfl (by decide) (by decide) (Nat.le_of_ble_eq_true rfl) rfl (mct_findKnots hE0 hsh hN h40 hav (fun F1 m1 hG m49 hon hb m50 hkn hle => ?_))
    refine xw_aload_n dX10_knots_9 rfl ?_
    refine xw_getfield dX10_knots_10 fl_X10_294 hG.2.1 rfl ?_
    refine xw_topi _ m50 ?_
    exact xw_iret dX10_knots_13 rfl (hq F1 (MS_gr hF0 hm0 hG).1 (kC_tr kF0 (MS_gr hF0 hm0 hG).2.1))
  obtain ⟨m, h38, hm, _⟩ := id h
  refine xw_aload_n dX10_knots_0 rfl ?_
  refine xw_iconst dX10_knots_1 ?_
  refine xw_putfield dX10_knots_2 (fp_X10_1 _) h38 rfl rfl ?_
  rw [xmd_0]
  exact S _ (MS_th 0 h h38 hm).1 (MS_th 0 h h38 hm).2
set_option maxHeartbeats 8000000 in
theorem mct_layer {z : Int} {ly : Nat → Nat} (h : MS f th bn β gn σ d as ps pb pu pr) (hz : inI z) (hN : onO gn σ sz N) (hav : avR sz av (fun i j => mBar d σ (N i) (N j))) (hly : (mkA (fun i j => WP av sz i j) sz).2 = 0 → lyOK sz (fun i j => mBar d σ (N i) (N j)) ly) (hq : ∀ (s : Nat) f1, z = (s : Int) → s < gn → hrS (σ s) = 1 → MS f1 0 bn β gn σ d as ps pb pu pr → kC f f1 → Q (.inl (some (vI (if 0 < (mkA (fun i j => WP av sz i j) sz).2 then -1 else (ly (hc σ s) : Int))))) n f1) (hx1 : ¬ hre gn σ z → ∀ f1, MS f1 1 bn β gn σ d as ps pb pu pr → kC f f1 → Q (.inl (some (vI 0))) n f1) : xct g M_X10_layer 0 0 [vR 38, vI z] n f Q := by
  refine xct_of rfl rfl (Nat.le_of_ble_eq_true rfl) ?_
  obtain ⟨B, hB⟩ : ∃ B : Nat → Nat → Prop, B = (fun i j => mBar d σ (N i) (N j)) := ⟨_, rfl⟩
  rw [← hB] at hly
  have S : ∀ F, MS F 0 bn β gn σ d as ps pb pu pr → kC f F → xw g M_X10_layer Q 0 0 5 [(0, vR 38), (1, vI z)] [] n F := by
    intro F0 hF0 kF0
    obtain ⟨m0, hm0, hE0⟩ := MS_E hF0
    obtain ⟨g38, g6, _, hst, _⟩ := id hE0
    have hsh : msh F0 := hF0.choose_spec.2.2.2.2.2.2.2.1
    have h40 : sz ≤ 40 := by rw [hN.1]; exact hF0.choose_spec.2.2.2.2.2.2.2.2.1
    have hgn : gn ≤ 100 := hE0.2.2.2.1.choose_spec.choose_spec.choose_spec.choose_spec.choose_spec.2.2.2.2.2.1
    have T9 := MS_th 1 hF0 g38 hm0
    have main : ∀ s : Nat, z = (s : Int) → s < gn → hrS (σ s) = 1 → (mkA (fun i j => WP av sz i j) sz).2 = 0 → ∀ (F1 : xH) (m1 : Nat → Int), gR F0 F1 m0 m1 → m1 49 = (sz : Int) → onF F1 sz N → bmF F1 67 sz N B → xw g M_X10_layer Q 0 0 28 [(0, vR 38), (1, vI z)] [] n F1 := by
      intro s e1 e2 e3 hk0 F1 m1 hG1 m49 hon1 hb1
      obtain ⟨l1, l2, l3⟩ := hly hk0
      have RET : ∀ (F : xH) (l : Nat → Nat), gR F0 F m0 m1 → lyF F sz N l → (∀ i j, i < sz → j < sz → B i j → l i < l j) → (∀ i, i < sz → l i ≤ ly i) → xw g M_X10_layer Q 0 0 182 [(0, vR 38), (1, vI z)] [] n F := by
        intro F l hG hl h1 h2
        obtain ⟨la, h71, hl9⟩ := hl
        obtain ⟨p1, p2⟩ := onO_at hN e2 e3
        have e9 := ly_eq ⟨l1, l2, l3⟩ h1 h2 _ (hc σ s) p1 (Nat.le_refl _)
        have q9 := hq s F e1 e2 e3 (MS_gr hF0 hm0 hG).1 (kC_tr kF0 (MS_gr hF0 hm0 hG).2.1)
        rw [if_neg (by omega)] at q9
        have e8 : la s = (ly (hc σ s) : Int) := by
          have := hl9 _ p1
          rw [p2] at this
          rw [this, e9]
        refine xw_aload_n dX10_layer_182 rfl ?_
        refine xw_getfield dX10_layer_183 fl_X10_115 hG.2.1 rfl ?_
        refine xw_iload_n dX10_layer_186 rfl ?_
        refine xw_iald dX10_layer_187 h71 (j := s) e1 (by omega) (by decide) ?_
        refine xw_topi _ e8 ?_
        exact xw_iret dX10_layer_188 rfl q9
      have LJ : ∀ (t j i : Nat) (mo : Int) (l l0 : Nat → Nat) (F : xH), j + t = sz → i < sz → gR F0 F m0 m1 → onF F sz N → bmF F 67 sz N B → lyF F sz N l → (∀ a, a < sz → l a ≤ ly a) → ((mo = 0 ∧ l = l0 ∧ ∀ a b, a < sz → b < sz → (a < i ∨ (a = i ∧ b < j)) → B a b → l a < l b) ∨ (mo = 1 ∧ lsum l0 sz < lsum l sz)) →
          (∀ (mo2 : Int) (l2 : Nat → Nat) (F2 : xH), gR F0 F2 m0 m1 → onF F2 sz N → bmF F2 67 sz N B → lyF F2 sz N l2 → (∀ a, a < sz → l2 a ≤ ly a) → ((mo2 = 0 ∧ l2 = l0 ∧ ∀ a b, a < sz → b < sz → a < i + 1 → B a b → l2 a < l2 b) ∨ (mo2 = 1 ∧ lsum l0 sz < lsum l2 sz)) → xw g M_X10_layer Q 0 0 66 [(0, vR 38), (1, vI z), (2, vI mo2), (3, vI ((i + 1 : Nat) : Int))] [] n F2) →
          xw g M_X10_layer Q 0 0 77 [(0, vR 38), (1, vI z), (2, vI mo), (3, vI (i : Int)), (4, vI (j : Int))] [] n F := by
        intro t
        induction t with
        | zero =>
          intro j i mo l l0 F hj hi hG hon hb hl hle hmo K
          have h38 := hG.2.1
          refine xw_iload dX10_layer_77 rfl ?_
          refine xw_aload_n dX10_layer_79 rfl ?_
          refine xw_getfield dX10_layer_80 fl_X10_285 h38 rfl ?_
          refine xw_topi (sz : Int) m49 ?_
          refine xw_icmpge (tgt := 173) dX10_layer_83 (by decide) (by first | assumption | (unfold inI; omega) | (unfold inI at *; omega)) (by first | assumption | (unfold inI; omega) | (unfold inI at *; omega)) (fun c_83 => ?_) (fun c_83 => ?_)
          · skip
            refine xw_iinc dX10_layer_173 rfl (by decide) ?_
            refine xw_goto (tgt := 66) dX10_layer_176 (by decide) ?_
            exact xw_ls [(0, vR 38), (1, vI z), (2, vI mo), (3, vI ((i + 1 : Nat) : Int))] ⟨rfl, rfl, rfl, rfl, trivial⟩ (K mo l F hG hon hb hl hle (by
              rcases hmo with ⟨a1, a2, a3⟩ | a1
              · exact Or.inl ⟨a1, a2, fun a b ha hb9 c => a3 a b ha hb9 (by omega)⟩
              · exact Or.inr a1))
          · skip
            exfalso; omega
        | succ t ih =>
          intro j i mo l l0 F hj hi hG hon hb hl hle hmo K
          have h38 := hG.2.1
          obtain ⟨on, h70, hon9⟩ := id hon
          obtain ⟨br, h67, hb9⟩ := id hb
          obtain ⟨la, h71, hl9⟩ := id hl
          have ni := hN.2 i hi
          have nj := hN.2 j (by omega)
          have q1 := hb9 i j hi (by omega)
          have li := hl9 i hi
          have lj := hl9 j (by omega)
          have bi := l3 i hi
          have bj := l3 j (by omega)
          have hi9 := hle i hi
          have hj9 := hle j (by omega)
          have no : (B i j → l i < l j) → xw g M_X10_layer Q 0 0 167 [(0, vR 38), (1, vI z), (2, vI mo), (3, vI (i : Int)), (4, vI (j : Int))] [] n F := by
            intro hn
            refine xw_iinc dX10_layer_167 rfl (by decide) ?_
            refine xw_goto (tgt := 77) dX10_layer_170 (by decide) ?_
            exact xw_ls [(0, vR 38), (1, vI z), (2, vI mo), (3, vI (i : Int)), (4, vI ((j + 1 : Nat) : Int))] ⟨rfl, rfl, rfl, rfl, rfl, trivial⟩ (ih (j + 1) i mo l l0 F (by omega) hi hG hon hb hl hle (by
              rcases hmo with ⟨a1, a2, a3⟩ | a1
              · refine Or.inl ⟨a1, a2, fun a b ha hb9 c => ?_⟩
                by_cases e : a = i ∧ b = j
                · obtain ⟨rfl, rfl⟩ := e; exact hn
                · exact a3 a b ha hb9 (by omega)
              · exact Or.inr a1) K)
          have yes : B i j → ¬ l i < l j → xw g M_X10_layer Q 0 0 167 [(0, vR 38), (1, vI z), (2, vI 1), (3, vI (i : Int)), (4, vI (j : Int))] [] n (xup F 71 (aI 101 (xui la (N j) ((l i + 1 : Nat) : Int)))) := by
            intro hbij hn
            have up := lsum_up (l := l) (j := j) (x := l i + 1) (by omega) sz (by omega)
            refine xw_iinc dX10_layer_167 rfl (by decide) ?_
            refine xw_goto (tgt := 77) dX10_layer_170 (by decide) ?_
            exact xw_ls [(0, vR 38), (1, vI z), (2, vI 1), (3, vI (i : Int)), (4, vI ((j + 1 : Nat) : Int))] ⟨rfl, rfl, rfl, rfl, rfl, trivial⟩ (ih (j + 1) i 1 (xui l j (l i + 1)) l0 _ (by omega) hi (gR_up (t := 0) (N := 101) (k := 71) hG (by decide) (by decide) (by decide)) (onF_fr hon rfl) (bmF_fr hb rfl) ⟨_, rfl, fun a ha => by
              by_cases e : a = j
              · subst e; rw [xui_s, xui_s]
              · rw [xui_n _ _ e, xui_n _ _ (fun x => e (onO_inj hN ha (by omega) x))]; exact hl9 a ha⟩ (fun a ha => by
              by_cases e : a = j
              · subst e; rw [xui_s]; have := l1 i a hi ha hbij; omega
              · rw [xui_n _ _ e]; exact hle a ha) (Or.inr ⟨rfl, by
              rcases hmo with ⟨_, a2, _⟩ | a1
              · rw [← a2]; exact up
              · omega⟩) K)
          refine xw_iload dX10_layer_77 rfl ?_
          refine xw_aload_n dX10_layer_79 rfl ?_
          refine xw_getfield dX10_layer_80 fl_X10_285 h38 rfl ?_
          refine xw_topi (sz : Int) m49 ?_
          refine xw_icmpge (tgt := 173) dX10_layer_83 (by decide) (by first | assumption | (unfold inI; omega) | (unfold inI at *; omega)) (by first | assumption | (unfold inI; omega) | (unfold inI at *; omega)) (fun c_83 => ?_) (fun c_83 => ?_)
          · skip
            exfalso; omega
          · skip
            refine xw_aload_n dX10_layer_86 rfl ?_
            refine xw_getfield dX10_layer_87 fl_X10_103 h38 rfl ?_
            refine xw_bipush (z := 100) dX10_layer_90 (by decide) ?_
            refine xw_aload_n dX10_layer_92 rfl ?_
            refine xw_getfield dX10_layer_93 fl_X10_112 h38 rfl ?_
            refine xw_iload_n dX10_layer_96 rfl ?_
            refine xw_iald dX10_layer_97 h70 (j := i) rfl (by omega) (by decide) ?_
            refine xw_topi (N i : Int) (hon9 i hi) ?_
            refine xw_imul dX10_layer_98 ?_
            refine xw_aload_n dX10_layer_99 rfl ?_
            refine xw_getfield dX10_layer_100 fl_X10_112 h38 rfl ?_
            refine xw_iload dX10_layer_103 rfl ?_
            refine xw_iald dX10_layer_105 h70 (j := j) rfl (by omega) (by decide) ?_
            refine xw_topi (N j : Int) (hon9 j (by omega)) ?_
            refine xw_iadd dX10_layer_106 ?_
            refine xw_zald dX10_layer_107 h67 (j := 100 * N i + N j) (by omega) (by omega) (by decide) ?_
            refine xw_ifeq (tgt := 167) dX10_layer_108 (by decide) (by first | assumption | (unfold inI; omega) | (unfold inI at *; omega)) (fun c_108 => ?_) (fun c_108 => ?_)
            · skip
              first
                | exact xw_ls [(0, vR 38), (1, vI z), (2, vI mo), (3, vI (i : Int)), (4, vI (j : Int))] ⟨rfl, rfl, rfl, rfl, rfl, trivial⟩ (no (fun x => by rcases q1 with ⟨_, x1⟩ | ⟨x1, _⟩; exact absurd x x1; exact absurd c_108 (by omega)))
                | exact xw_ls [(0, vR 38), (1, vI z), (2, vI mo), (3, vI (i : Int)), (4, vI (j : Int))] ⟨rfl, rfl, rfl, rfl, rfl, trivial⟩ (no (fun x => by omega))
                | exact xw_ls [(0, vR 38), (1, vI z), (2, vI 1), (3, vI (i : Int)), (4, vI (j : Int))] ⟨rfl, rfl, rfl, rfl, rfl, trivial⟩ (yes (by rcases q1 with ⟨x1, _⟩ | ⟨_, x1⟩; exact absurd x1 c_108; exact x1) (by omega))
            · skip
              refine xw_aload_n dX10_layer_111 rfl ?_
              refine xw_getfield dX10_layer_112 fl_X10_115 h38 rfl ?_
              refine xw_aload_n dX10_layer_115 rfl ?_
              refine xw_getfield dX10_layer_116 fl_X10_112 h38 rfl ?_
              refine xw_iload dX10_layer_119 rfl ?_
              refine xw_iald dX10_layer_121 h70 (j := j) rfl (by omega) (by decide) ?_
              refine xw_topi (N j : Int) (hon9 j (by omega)) ?_
              refine xw_iald dX10_layer_122 h71 (j := N j) rfl (by omega) (by decide) ?_
              refine xw_topi (l j : Int) lj ?_
              refine xw_aload_n dX10_layer_123 rfl ?_
              refine xw_getfield dX10_layer_124 fl_X10_115 h38 rfl ?_
              refine xw_aload_n dX10_layer_127 rfl ?_
              refine xw_getfield dX10_layer_128 fl_X10_112 h38 rfl ?_
              refine xw_iload_n dX10_layer_131 rfl ?_
              refine xw_iald dX10_layer_132 h70 (j := i) rfl (by omega) (by decide) ?_
              refine xw_topi (N i : Int) (hon9 i hi) ?_
              refine xw_iald dX10_layer_133 h71 (j := N i) rfl (by omega) (by decide) ?_
              refine xw_topi (l i : Int) li ?_
              refine xw_icmple (tgt := 140) dX10_layer_134 (by decide) (by first | assumption | (unfold inI; omega) | (unfold inI at *; omega)) (by first | assumption | (unfold inI; omega) | (unfold inI at *; omega)) (fun c_134 => ?_) (fun c_134 => ?_)
              · skip
                refine xw_aload_n dX10_layer_140 rfl ?_
                refine xw_getfield dX10_layer_141 fl_X10_115 h38 rfl ?_
                refine xw_aload_n dX10_layer_144 rfl ?_
                refine xw_getfield dX10_layer_145 fl_X10_112 h38 rfl ?_
                refine xw_iload dX10_layer_148 rfl ?_
                refine xw_iald dX10_layer_150 h70 (j := j) rfl (by omega) (by decide) ?_
                refine xw_topi (N j : Int) (hon9 j (by omega)) ?_
                refine xw_aload_n dX10_layer_151 rfl ?_
                refine xw_getfield dX10_layer_152 fl_X10_115 h38 rfl ?_
                refine xw_aload_n dX10_layer_155 rfl ?_
                refine xw_getfield dX10_layer_156 fl_X10_112 h38 rfl ?_
                refine xw_iload_n dX10_layer_159 rfl ?_
                refine xw_iald dX10_layer_160 h70 (j := i) rfl (by omega) (by decide) ?_
                refine xw_topi (N i : Int) (hon9 i hi) ?_
                refine xw_iald dX10_layer_161 h71 (j := N i) rfl (by omega) (by decide) ?_
                refine xw_topi (l i : Int) li ?_
                refine xw_iconst dX10_layer_162 ?_
                refine xw_iadd dX10_layer_163 ?_
                refine xw_topi ((l i + 1 : Nat) : Int) (by omega) ?_
                refine xw_iast dX10_layer_164 h71 (j := N j) rfl (by omega) (by decide) ?_
                refine xw_iconst dX10_layer_165 ?_
                refine xw_istore_n dX10_layer_166 (by decide) ?_
                first
                  | exact xw_ls [(0, vR 38), (1, vI z), (2, vI mo), (3, vI (i : Int)), (4, vI (j : Int))] ⟨rfl, rfl, rfl, rfl, rfl, trivial⟩ (no (fun x => by rcases q1 with ⟨_, x1⟩ | ⟨x1, _⟩; exact absurd x x1; exact absurd c_108 (by omega)))
                  | exact xw_ls [(0, vR 38), (1, vI z), (2, vI mo), (3, vI (i : Int)), (4, vI (j : Int))] ⟨rfl, rfl, rfl, rfl, rfl, trivial⟩ (no (fun x => by omega))
                  | exact xw_ls [(0, vR 38), (1, vI z), (2, vI 1), (3, vI (i : Int)), (4, vI (j : Int))] ⟨rfl, rfl, rfl, rfl, rfl, trivial⟩ (yes (by rcases q1 with ⟨x1, _⟩ | ⟨_, x1⟩; exact absurd x1 c_108; exact x1) (by omega))
              · skip
                refine xw_goto (tgt := 167) dX10_layer_137 (by decide) ?_
                first
                  | exact xw_ls [(0, vR 38), (1, vI z), (2, vI mo), (3, vI (i : Int)), (4, vI (j : Int))] ⟨rfl, rfl, rfl, rfl, rfl, trivial⟩ (no (fun x => by rcases q1 with ⟨_, x1⟩ | ⟨x1, _⟩; exact absurd x x1; exact absurd c_108 (by omega)))
                  | exact xw_ls [(0, vR 38), (1, vI z), (2, vI mo), (3, vI (i : Int)), (4, vI (j : Int))] ⟨rfl, rfl, rfl, rfl, rfl, trivial⟩ (no (fun x => by omega))
                  | exact xw_ls [(0, vR 38), (1, vI z), (2, vI 1), (3, vI (i : Int)), (4, vI (j : Int))] ⟨rfl, rfl, rfl, rfl, rfl, trivial⟩ (yes (by rcases q1 with ⟨x1, _⟩ | ⟨_, x1⟩; exact absurd x1 c_108; exact x1) (by omega))
      have LI : ∀ (t i : Nat) (mo : Int) (l l0 : Nat → Nat) (F : xH), i + t = sz → gR F0 F m0 m1 → onF F sz N → bmF F 67 sz N B → lyF F sz N l → (∀ a, a < sz → l a ≤ ly a) → ((mo = 0 ∧ l = l0 ∧ ∀ a b, a < sz → b < sz → a < i → B a b → l a < l b) ∨ (mo = 1 ∧ lsum l0 sz < lsum l sz)) →
          (∀ (l2 : Nat → Nat) (F2 : xH), gR F0 F2 m0 m1 → onF F2 sz N → bmF F2 67 sz N B → lyF F2 sz N l2 → (∀ a, a < sz → l2 a ≤ ly a) → lsum l0 sz < lsum l2 sz → xw g M_X10_layer Q 0 0 58 [(0, vR 38), (1, vI z), (2, vI 1)] [] n F2) →
          xw g M_X10_layer Q 0 0 66 [(0, vR 38), (1, vI z), (2, vI mo), (3, vI (i : Int))] [] n F := by
        intro t
        induction t with
        | zero =>
          intro i mo l l0 F hi hG hon hb hl hle hmo K
          have h38 := hG.2.1
          rcases hmo with ⟨rfl, a2, a3⟩ | ⟨rfl, a2⟩
          · skip
            refine xw_iload_n dX10_layer_66 rfl ?_
            refine xw_aload_n dX10_layer_67 rfl ?_
            refine xw_getfield dX10_layer_68 fl_X10_285 h38 rfl ?_
            refine xw_topi (sz : Int) m49 ?_
            refine xw_icmpge (tgt := 179) dX10_layer_71 (by decide) (by first | assumption | (unfold inI; omega) | (unfold inI at *; omega)) (by first | assumption | (unfold inI; omega) | (unfold inI at *; omega)) (fun c_71 => ?_) (fun c_71 => ?_)
            · skip
              refine xw_goto (tgt := 58) dX10_layer_179 (by decide) ?_
              refine xw_iload_n dX10_layer_58 rfl ?_
              refine xw_ifeq (tgt := 182) dX10_layer_59 (by decide) (by first | assumption | (unfold inI; omega) | (unfold inI at *; omega)) (fun c_59 => ?_) (fun c_59 => ?_)
              · skip
                exact xw_ls [(0, vR 38), (1, vI z)] ⟨rfl, rfl, trivial⟩ (RET F l hG hl (fun a b ha hb9 x => a3 a b ha hb9 (by omega) x) hle)
              · skip
                exfalso; omega
            · skip
              exfalso; omega
          · skip
            refine xw_iload_n dX10_layer_66 rfl ?_
            refine xw_aload_n dX10_layer_67 rfl ?_
            refine xw_getfield dX10_layer_68 fl_X10_285 h38 rfl ?_
            refine xw_topi (sz : Int) m49 ?_
            refine xw_icmpge (tgt := 179) dX10_layer_71 (by decide) (by first | assumption | (unfold inI; omega) | (unfold inI at *; omega)) (by first | assumption | (unfold inI; omega) | (unfold inI at *; omega)) (fun c_71 => ?_) (fun c_71 => ?_)
            · skip
              refine xw_goto (tgt := 58) dX10_layer_179 (by decide) ?_
              exact xw_ls [(0, vR 38), (1, vI z), (2, vI 1)] ⟨rfl, rfl, rfl, trivial⟩ (K l F hG hon hb hl hle a2)
            · skip
              exfalso; omega
        | succ t ih =>
          intro i mo l l0 F hi hG hon hb hl hle hmo K
          have h38 := hG.2.1
          refine xw_iload_n dX10_layer_66 rfl ?_
          refine xw_aload_n dX10_layer_67 rfl ?_
          refine xw_getfield dX10_layer_68 fl_X10_285 h38 rfl ?_
          refine xw_topi (sz : Int) m49 ?_
          refine xw_icmpge (tgt := 179) dX10_layer_71 (by decide) (by first | assumption | (unfold inI; omega) | (unfold inI at *; omega)) (by first | assumption | (unfold inI; omega) | (unfold inI at *; omega)) (fun c_71 => ?_) (fun c_71 => ?_)
          · skip
            exfalso; omega
          · skip
            refine xw_iconst dX10_layer_74 ?_
            refine xw_istore dX10_layer_75 (by decide) ?_
            exact xw_ls [(0, vR 38), (1, vI z), (2, vI mo), (3, vI (i : Int)), (4, vI ((0 : Nat) : Int))] ⟨rfl, rfl, rfl, rfl, rfl, trivial⟩ (LJ sz 0 i mo l l0 F (by omega) (by omega) hG hon hb hl hle (by
              rcases hmo with ⟨a1, a2, a3⟩ | a1
              · exact Or.inl ⟨a1, a2, fun a b ha hb9 c => a3 a b ha hb9 (by omega)⟩
              · exact Or.inr a1) (fun mo2 l2 F2 b1 b2 b3 b4 b5 b6 => ih (i + 1) mo2 l2 l0 F2 (by omega) b1 b2 b3 b4 b5 b6 K))
      have LW : ∀ (k : Nat) (l : Nat → Nat) (F : xH), lsum ly sz ≤ lsum l sz + k → gR F0 F m0 m1 → onF F sz N → bmF F 67 sz N B → lyF F sz N l → (∀ a, a < sz → l a ≤ ly a) → xw g M_X10_layer Q 0 0 58 [(0, vR 38), (1, vI z), (2, vI 1)] [] n F := by
        intro k
        induction k with
        | zero =>
          intro l F hk hG hon hb hl hle
          refine xw_iload_n dX10_layer_58 rfl ?_
          refine xw_ifeq (tgt := 182) dX10_layer_59 (by decide) (by first | assumption | (unfold inI; omega) | (unfold inI at *; omega)) (fun c_59 => ?_) (fun c_59 => ?_)
          · skip
            exfalso; omega
          · skip
            refine xw_iconst dX10_layer_62 ?_
            refine xw_istore_n dX10_layer_63 (by decide) ?_
            refine xw_iconst dX10_layer_64 ?_
            refine xw_istore_n dX10_layer_65 (by decide) ?_
            exact xw_ls [(0, vR 38), (1, vI z), (2, vI 0), (3, vI ((0 : Nat) : Int))] ⟨rfl, rfl, rfl, rfl, trivial⟩ (LI sz 0 0 l l F (by omega) hG hon hb hl hle (Or.inl ⟨rfl, rfl, fun a b _ _ c => absurd c (Nat.not_lt_zero _)⟩) (fun l2 F2 b1 b2 b3 b4 b5 b6 => by
              have := lsum_le sz b5
              omega))
        | succ k ih =>
          intro l F hk hG hon hb hl hle
          refine xw_iload_n dX10_layer_58 rfl ?_
          refine xw_ifeq (tgt := 182) dX10_layer_59 (by decide) (by first | assumption | (unfold inI; omega) | (unfold inI at *; omega)) (fun c_59 => ?_) (fun c_59 => ?_)
          · skip
            exfalso; omega
          · skip
            refine xw_iconst dX10_layer_62 ?_
            refine xw_istore_n dX10_layer_63 (by decide) ?_
            refine xw_iconst dX10_layer_64 ?_
            refine xw_istore_n dX10_layer_65 (by decide) ?_
            exact xw_ls [(0, vR 38), (1, vI z), (2, vI 0), (3, vI ((0 : Nat) : Int))] ⟨rfl, rfl, rfl, rfl, trivial⟩ (LI sz 0 0 l l F (by omega) hG hon hb hl hle (Or.inl ⟨rfl, rfl, fun a b _ _ c => absurd c (Nat.not_lt_zero _)⟩) (fun l2 F2 b1 b2 b3 b4 b5 b6 => ih l2 F2 (by omega) b1 b2 b3 b4 b5))
      have LA : ∀ (t i : Nat) (F : xH) (la : Nat → Int), i + t = sz → gR F0 F m0 m1 → onF F sz N → bmF F 67 sz N B → F 71 = some (aI 101 la) → (∀ i', i' < i → la (N i') = 0) → xw g M_X10_layer Q 0 0 30 [(0, vR 38), (1, vI z), (2, vI (i : Int))] [] n F := by
        intro t
        induction t with
        | zero =>
          intro i F la hi hG hon hb h71 hl
          have h38 := hG.2.1
          refine xw_iload_n dX10_layer_30 rfl ?_
          refine xw_aload_n dX10_layer_31 rfl ?_
          refine xw_getfield dX10_layer_32 fl_X10_285 h38 rfl ?_
          refine xw_topi (sz : Int) m49 ?_
          refine xw_icmpge (tgt := 56) dX10_layer_35 (by decide) (by first | assumption | (unfold inI; omega) | (unfold inI at *; omega)) (by first | assumption | (unfold inI; omega) | (unfold inI at *; omega)) (fun c_35 => ?_) (fun c_35 => ?_)
          · skip
            refine xw_iconst dX10_layer_56 ?_
            refine xw_istore_n dX10_layer_57 (by decide) ?_
            exact xw_ls [(0, vR 38), (1, vI z), (2, vI 1)] ⟨rfl, rfl, rfl, trivial⟩ (LW (lsum ly sz) (fun _ => 0) F (by omega) hG hon hb ⟨la, h71, fun i' hi' => hl i' (by omega)⟩ (fun a ha => Nat.zero_le _))
          · skip
            exfalso; omega
        | succ t ih =>
          intro i F la hi hG hon hb h71 hl
          have h38 := hG.2.1
          obtain ⟨on, h70, hon9⟩ := id hon
          have ni := hN.2 i (by omega)
          refine xw_iload_n dX10_layer_30 rfl ?_
          refine xw_aload_n dX10_layer_31 rfl ?_
          refine xw_getfield dX10_layer_32 fl_X10_285 h38 rfl ?_
          refine xw_topi (sz : Int) m49 ?_
          refine xw_icmpge (tgt := 56) dX10_layer_35 (by decide) (by first | assumption | (unfold inI; omega) | (unfold inI at *; omega)) (by first | assumption | (unfold inI; omega) | (unfold inI at *; omega)) (fun c_35 => ?_) (fun c_35 => ?_)
          · skip
            exfalso; omega
          · skip
            refine xw_aload_n dX10_layer_38 rfl ?_
            refine xw_getfield dX10_layer_39 fl_X10_115 h38 rfl ?_
            refine xw_aload_n dX10_layer_42 rfl ?_
            refine xw_getfield dX10_layer_43 fl_X10_112 h38 rfl ?_
            refine xw_iload_n dX10_layer_46 rfl ?_
            refine xw_iald dX10_layer_47 h70 (j := i) rfl (by omega) (by decide) ?_
            refine xw_topi (N i : Int) (hon9 i (by omega)) ?_
            refine xw_iconst dX10_layer_48 ?_
            refine xw_iast dX10_layer_49 h71 (j := N i) rfl (by omega) (by decide) ?_
            refine xw_iinc dX10_layer_50 rfl (by decide) ?_
            refine xw_goto (tgt := 30) dX10_layer_53 (by decide) ?_
            exact xw_ls [(0, vR 38), (1, vI z), (2, vI ((i + 1 : Nat) : Int))] ⟨rfl, rfl, rfl, trivial⟩ (ih (i + 1) _ _ (by omega) (gR_up (t := 0) (N := 101) (k := 71) hG (by decide) (by decide) (by decide)) (onF_fr hon rfl) (bmF_fr hb rfl) rfl (fun i' hi' => by
              by_cases e : i' = i
              · subst e; rw [xui_s]
              · rw [xui_n _ _ (fun k9 => e (onO_inj hN (by omega) (by omega) k9))]; exact hl i' (by omega)))
      obtain ⟨la, h71⟩ := msh_at hG1.2.2.2 (k := 71) (t := 0) (N := 101) (by decide)
      refine xw_iconst dX10_layer_28 ?_
      refine xw_istore_n dX10_layer_29 (by decide) ?_
      exact xw_ls [(0, vR 38), (1, vI z), (2, vI ((0 : Nat) : Int))] ⟨rfl, rfl, rfl, trivial⟩ (LA sz 0 F1 la (by omega) hG1 hon1 hb1 h71 (fun i' hi' => absurd hi' (Nat.not_lt_zero _)))
    refine xw_aload_n dX10_layer_5 rfl ?_
    refine xw_iload_n dX10_layer_6 rfl ?_
    refine xw_callV (rc := 0) (rs := 0) (mc2 := 0) (ms2 := 0) (a := 38) (As := [vI z]) (st := []) dX10_layer_7 mv_X10_213 g38 rfl rfl (by decide) (by decide) (Nat.le_of_ble_eq_true rfl) rfl (ct_isThere g38 hm0.1 g6 hst hz (fun s e1 e2 e3 => ?_) (fun q1 => ?_))
    · skip
      refine xw_ifne (tgt := 15) dX10_layer_10 (by decide) (by unfold inI; omega) (fun _ => ?_) (fun c => absurd c (by decide))
      refine xw_aload_n dX10_layer_15 rfl ?_
      refine xw_callV (rc := 0) (rs := 0) (mc2 := 0) (ms2 := 0) (a := 38) (As := []) (st := []) dX10_layer_16 mv_X10_297 g38 rfl rfl (by decide) (by decide) (Nat.le_of_ble_eq_true rfl) rfl (mct_findKnots hE0 hsh hN h40 hav (fun F1 m1 hG m49 hon hb m50 hkn hle => ?_))
      refine xw_aload_n dX10_layer_19 rfl ?_
      refine xw_getfield dX10_layer_20 fl_X10_294 hG.2.1 rfl ?_
      refine xw_topi _ m50 ?_
      refine xw_ifle (tgt := 28) dX10_layer_23 (by decide) (by first | assumption | (unfold inI; omega) | (unfold inI at *; omega)) (fun c_23 => ?_) (fun c_23 => ?_)
      · skip
        exact xw_ls [(0, vR 38), (1, vI z)] ⟨rfl, rfl, trivial⟩ (main s e1 e2 e3 (by omega) F1 m1 hG m49 hon (by rw [hB]; exact hb))
      · skip
        refine xw_iconst dX10_layer_26 ?_
        exact xw_iret dX10_layer_27 rfl (by have q9 := hq s F1 e1 e2 e3 (MS_gr hF0 hm0 hG).1 (kC_tr kF0 (MS_gr hF0 hm0 hG).2.1); rw [if_pos (by omega)] at q9; exact q9)
    · skip
      refine xw_ifne (tgt := 15) dX10_layer_10 (by decide) (by unfold inI; omega) (fun c => absurd c (by decide)) (fun _ => ?_)
      refine xw_iconst dX10_layer_13 ?_
      exact xw_iret dX10_layer_14 rfl (hx1 q1 _ T9.1 (kC_tr kF0 T9.2))
  obtain ⟨m, h38, hm, _⟩ := id h
  refine xw_aload_n dX10_layer_0 rfl ?_
  refine xw_iconst dX10_layer_1 ?_
  refine xw_putfield dX10_layer_2 (fp_X10_1 _) h38 rfl rfl ?_
  rw [xmd_0]
  exact S _ (MS_th 0 h h38 hm).1 (MS_th 0 h h38 hm).2
end C9b
