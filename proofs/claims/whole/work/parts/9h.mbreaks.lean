/-! the model: breaks -/
def goL (h G L : Nat) : Prop := G < 2 ^ h ∧ L < 2 ^ h ∧ ∀ i, i < h → G.testBit i = !L.testBit i
theorem xclr_0 {L i : Nat} (h : L.testBit i = false) : xdf L (2 ^ i) = L := by
  apply Nat.eq_of_testBit_eq
  intro j
  rw [xdf_bit, Nat.testBit_two_pow]
  by_cases e : i = j
  · subst e; rw [h]; rfl
  · rw [decide_eq_false e]; simp
theorem goL_st {h G L i : Nat} (hg : goL h G L) (hi : i < h) : goL h (G ||| 2 ^ i) (xdf L (2 ^ i)) := by
  refine ⟨Nat.or_lt_two_pow hg.1 (Nat.pow_lt_pow_right (by decide) hi), Nat.lt_of_le_of_lt (xdf_le _ _) hg.2.1, fun j hj => ?_⟩
  rw [Nat.testBit_or, xdf_bit, Nat.testBit_two_pow, hg.2.2 j hj]
  cases L.testBit j <;> by_cases e : i = j <;> simp [e]
theorem goL_all {h G L : Nat} (hg : goL h G L) : G = 2 ^ h - 1 ↔ L = 0 := by
  constructor
  · intro e
    refine bit0 hg.2.1 (fun i hi => ?_)
    have := hg.2.2 i hi
    rw [e, Nat.testBit_two_pow_sub_one, decide_eq_true hi] at this
    cases e2 : L.testBit i
    · rfl
    · rw [e2] at this; cases this
  · intro e
    apply Nat.eq_of_testBit_eq
    intro i
    rw [Nat.testBit_two_pow_sub_one]
    by_cases hi : i < h
    · rw [hg.2.2 i hi, e, Nat.zero_testBit, decide_eq_true hi]; rfl
    · rw [decide_eq_false hi]
      exact Nat.testBit_lt_two_pow (Nat.lt_of_lt_of_le hg.1 (Nat.pow_le_pow_right (by decide) (by omega)))
section C9h
variable {g : xG} {y : xM} {Q : xP} {n : Nat} {f : xH} {gn : Nat} {σ : Nat → xSt} {m : Nat → Int} {sz : Nat} {N : Nat → Nat} {B : Nat → Nat → Prop}
set_option maxHeartbeats 8000000 in
theorem ct_breaks {s h : Nat} {hp ha : Nat → Nat} (h38 : f 38 = some (oMd m)) (m56 : m 56 = (h : Int)) (hN : onO gn σ sz N) (hgn : gn ≤ 100) (hin : inF f h N hp) (hb : bmF f 67 sz N B) (hps : ∀ j, j < h → hp j < sz) (hh : h ≤ 12) (hs : s < 2 ^ h) (hha : ∀ i, i < h → ∀ j, (ha i).testBit j = true ↔ (j < h ∧ B (hp j) (hp i))) (h1 : lse ha h h (xdf (2 ^ h - 1) s) = true → Q (.inl (some (vI 1))) n f) (h0 : lse ha h h (xdf (2 ^ h - 1) s) = false → Q (.inl (some (vI 0))) n f) : xct g M_X10_breaks 0 0 [vR 38, vI (s : Int)] n f Q := by
  refine xct_of rfl rfl (Nat.le_of_ble_eq_true rfl) ?_
  obtain ⟨ik, h75, hi9⟩ := hin
  obtain ⟨br, h67, hb9⟩ := hb
  have p12 : (2 : Nat) ^ h ≤ 2 ^ 12 := Nat.pow_le_pow_right (by decide) hh
  have e12 : (2 : Nat) ^ 12 = 4096 := by decide
  obtain ⟨T, hT⟩ : ∃ T, T = lse ha h h (xdf (2 ^ h - 1) s) := ⟨_, rfl⟩
  rw [← hT] at h1 h0
  have LJ : ∀ (G L i : Nat) (mo : Int), goL h G L → i < h → (∀ fr9 : Int, ((fr9 = 1 ∧ ha i &&& L = 0) ∨ (fr9 = 0 ∧ ha i &&& L ≠ 0)) → xw g M_X10_breaks Q 0 0 104 [(0, vR 38), (2, vI (G : Int)), (3, vI mo), (4, vI (i : Int)), (5, vI fr9)] [] n f) → ∀ (t j : Nat) (fr9 : Int), j + t = h → ((fr9 = 1 ∧ ∀ j', j' < j → ¬ (L.testBit j' = true ∧ B (hp j') (hp i))) ∨ (fr9 = 0 ∧ ∃ j', j' < j ∧ L.testBit j' = true ∧ B (hp j') (hp i))) → xw g M_X10_breaks Q 0 0 41 [(0, vR 38), (2, vI (G : Int)), (3, vI mo), (4, vI (i : Int)), (5, vI fr9), (6, vI (j : Int))] [] n f := by
    intro G L i mo hg hi K t
    induction t with
    | zero =>
      intro j fr9 hj hf
      refine xw_iload dX10_breaks_41 rfl ?_
      refine xw_aload_n dX10_breaks_43 rfl ?_
      refine xw_getfield dX10_breaks_44 fl_X10_313 h38 rfl ?_
      refine xw_topi (h : Int) m56 ?_
      refine xw_icmpge (tgt := 104) dX10_breaks_47 (by decide) (by first | assumption | (unfold inI; omega) | (unfold inI at *; omega)) (by first | assumption | (unfold inI; omega) | (unfold inI at *; omega)) (fun c_47 => ?_) (fun c_47 => ?_)
      · skip
        exact xw_ls [(0, vR 38), (2, vI (G : Int)), (3, vI mo), (4, vI (i : Int)), (5, vI fr9)] ⟨rfl, rfl, rfl, rfl, rfl, trivial⟩ (K fr9 (by
          rcases hf with ⟨a, b⟩ | ⟨a, j', b1, b2, b3⟩
          · exact Or.inl ⟨a, and_z (fun j' k => by have := (hha i hi j').1 k.1; exact b j' (by omega) ⟨k.2, this.2⟩)⟩
          · exact Or.inr ⟨a, fun k => and_z0 k ⟨(hha i hi j').2 ⟨by omega, b3⟩, b2⟩⟩))
      · skip
        exfalso; omega
    | succ t ih =>
      intro j fr9 hj hf
      have hd : G / 2 ^ j ≤ G := Nat.div_le_self _ _
      have hg1 := hg.1
      have gj := hg.2.2 j (by omega)
      have ni := hN.2 _ (hps i hi)
      have nj := hN.2 _ (hps j (by omega))
      have q1 := hb9 (hp j) (hp i) (hps j (by omega)) (hps i hi)
      have nx : ∀ x : Int, ((x = 1 ∧ ∀ j', j' < j + 1 → ¬ (L.testBit j' = true ∧ B (hp j') (hp i))) ∨ (x = 0 ∧ ∃ j', j' < j + 1 ∧ L.testBit j' = true ∧ B (hp j') (hp i))) → xw g M_X10_breaks Q 0 0 96 [(0, vR 38), (2, vI (G : Int)), (3, vI mo), (4, vI (i : Int)), (6, vI (j : Int))] [vI x] n f := by
        intro x hx
        refine xw_istore dX10_breaks_96 (by decide) ?_
        refine xw_iinc dX10_breaks_98 rfl (by decide) ?_
        refine xw_goto (tgt := 41) dX10_breaks_101 (by decide) ?_
        exact xw_ls [(0, vR 38), (2, vI (G : Int)), (3, vI mo), (4, vI (i : Int)), (5, vI x), (6, vI ((j + 1 : Nat) : Int))] ⟨rfl, rfl, rfl, rfl, rfl, rfl, trivial⟩ (ih (j + 1) x (by omega) hx)
      rcases hf with ⟨rfl, hf⟩ | ⟨rfl, j', b1, b2, b3⟩
      · skip
        refine xw_iload dX10_breaks_41 rfl ?_
        refine xw_aload_n dX10_breaks_43 rfl ?_
        refine xw_getfield dX10_breaks_44 fl_X10_313 h38 rfl ?_
        refine xw_topi (h : Int) m56 ?_
        refine xw_icmpge (tgt := 104) dX10_breaks_47 (by decide) (by first | assumption | (unfold inI; omega) | (unfold inI at *; omega)) (by first | assumption | (unfold inI; omega) | (unfold inI at *; omega)) (fun c_47 => ?_) (fun c_47 => ?_)
        · skip
          exfalso; omega
        · skip
          refine xw_iload dX10_breaks_50 rfl ?_
          refine xw_ifeq (tgt := 95) dX10_breaks_52 (by decide) (by first | assumption | (unfold inI; omega) | (unfold inI at *; omega)) (fun c_52 => ?_) (fun c_52 => ?_)
          · skip
            exfalso; omega
          · skip
            refine xw_iload_n dX10_breaks_55 rfl ?_
            refine xw_iload dX10_breaks_56 rfl ?_
            refine xw_ishr dX10_breaks_58 (xb_shrI (by omega) (by omega)) ?_
            refine xw_iconst dX10_breaks_59 ?_
            refine xw_iand dX10_breaks_60 (xb_andI (b := 1) (by omega) (by decide)) ?_
            refine xw_topi ((if G.testBit j = true then 1 else 0 : Nat) : Int) (by rw [and_1, bit01]) ?_
            refine xw_iconst dX10_breaks_61 ?_
            refine xw_icmpeq (tgt := 91) dX10_breaks_62 (by decide) (by unfold inI; split <;> omega) (by unfold inI; omega) (fun c_62 => ?_) (fun c_62 => ?_)
            · skip
              refine xw_iconst dX10_breaks_91 ?_
              refine xw_goto (tgt := 96) dX10_breaks_92 (by decide) ?_
              first
                | exact xw_ls [(0, vR 38), (2, vI (G : Int)), (3, vI mo), (4, vI (i : Int)), (6, vI (j : Int))] ⟨rfl, rfl, rfl, rfl, rfl, trivial⟩ (nx 0 (Or.inr ⟨rfl, j, by omega, by cases e : L.testBit j; exact absurd (by rw [gj, e]; rfl) c_62; rfl, by rcases q1 with ⟨x1, _⟩ | ⟨_, x1⟩; exact absurd x1 c_88; exact x1⟩))
                | (have z9 := c_88
                   exact xw_ls [(0, vR 38), (2, vI (G : Int)), (3, vI mo), (4, vI (i : Int)), (6, vI (j : Int))] ⟨rfl, rfl, rfl, rfl, rfl, trivial⟩ (nx 1 (Or.inl ⟨rfl, fun j' hj' k => by
                    by_cases e : j' = j
                    · subst e
                      rcases q1 with ⟨_, x1⟩ | ⟨x1, _⟩
                      · exact x1 k.2
                      · exact absurd z9 (by omega)
                    · exact hf j' (by omega) k⟩)))
                | exact xw_ls [(0, vR 38), (2, vI (G : Int)), (3, vI mo), (4, vI (i : Int)), (6, vI (j : Int))] ⟨rfl, rfl, rfl, rfl, rfl, trivial⟩ (nx 1 (Or.inl ⟨rfl, fun j' hj' k => by
                    by_cases e : j' = j
                    · subst e
                      rw [gj, k.1] at c_62
                      exact absurd c_62 (by decide)
                    · exact hf j' (by omega) k⟩))
            · skip
              refine xw_aload_n dX10_breaks_65 rfl ?_
              refine xw_getfield dX10_breaks_66 fl_X10_103 h38 rfl ?_
              refine xw_bipush (z := 100) dX10_breaks_69 (by decide) ?_
              refine xw_aload_n dX10_breaks_71 rfl ?_
              refine xw_getfield dX10_breaks_72 fl_X10_127 h38 rfl ?_
              refine xw_iload dX10_breaks_75 rfl ?_
              refine xw_iald dX10_breaks_77 h75 (j := j) rfl (by omega) (by decide) ?_
              refine xw_topi (N (hp j) : Int) (hi9 j (by omega)) ?_
              refine xw_imul dX10_breaks_78 ?_
              refine xw_aload_n dX10_breaks_79 rfl ?_
              refine xw_getfield dX10_breaks_80 fl_X10_127 h38 rfl ?_
              refine xw_iload dX10_breaks_83 rfl ?_
              refine xw_iald dX10_breaks_85 h75 (j := i) rfl (by omega) (by decide) ?_
              refine xw_topi (N (hp i) : Int) (hi9 i hi) ?_
              refine xw_iadd dX10_breaks_86 ?_
              refine xw_zald dX10_breaks_87 h67 (j := 100 * N (hp j) + N (hp i)) (by omega) (by omega) (by decide) ?_
              refine xw_ifne (tgt := 95) dX10_breaks_88 (by decide) (by first | assumption | (unfold inI; omega) | (unfold inI at *; omega)) (fun c_88 => ?_) (fun c_88 => ?_)
              · skip
                refine xw_iconst dX10_breaks_95 ?_
                first
                  | exact xw_ls [(0, vR 38), (2, vI (G : Int)), (3, vI mo), (4, vI (i : Int)), (6, vI (j : Int))] ⟨rfl, rfl, rfl, rfl, rfl, trivial⟩ (nx 0 (Or.inr ⟨rfl, j, by omega, by cases e : L.testBit j; exact absurd (by rw [gj, e]; rfl) c_62; rfl, by rcases q1 with ⟨x1, _⟩ | ⟨_, x1⟩; exact absurd x1 c_88; exact x1⟩))
                  | (have z9 := c_88
                     exact xw_ls [(0, vR 38), (2, vI (G : Int)), (3, vI mo), (4, vI (i : Int)), (6, vI (j : Int))] ⟨rfl, rfl, rfl, rfl, rfl, trivial⟩ (nx 1 (Or.inl ⟨rfl, fun j' hj' k => by
                      by_cases e : j' = j
                      · subst e
                        rcases q1 with ⟨_, x1⟩ | ⟨x1, _⟩
                        · exact x1 k.2
                        · exact absurd z9 (by omega)
                      · exact hf j' (by omega) k⟩)))
                  | exact xw_ls [(0, vR 38), (2, vI (G : Int)), (3, vI mo), (4, vI (i : Int)), (6, vI (j : Int))] ⟨rfl, rfl, rfl, rfl, rfl, trivial⟩ (nx 1 (Or.inl ⟨rfl, fun j' hj' k => by
                      by_cases e : j' = j
                      · subst e
                        rw [gj, k.1] at c_62
                        exact absurd c_62 (by decide)
                      · exact hf j' (by omega) k⟩))
              · skip
                refine xw_iconst dX10_breaks_91 ?_
                refine xw_goto (tgt := 96) dX10_breaks_92 (by decide) ?_
                first
                  | exact xw_ls [(0, vR 38), (2, vI (G : Int)), (3, vI mo), (4, vI (i : Int)), (6, vI (j : Int))] ⟨rfl, rfl, rfl, rfl, rfl, trivial⟩ (nx 0 (Or.inr ⟨rfl, j, by omega, by cases e : L.testBit j; exact absurd (by rw [gj, e]; rfl) c_62; rfl, by rcases q1 with ⟨x1, _⟩ | ⟨_, x1⟩; exact absurd x1 c_88; exact x1⟩))
                  | (have z9 := c_88
                     exact xw_ls [(0, vR 38), (2, vI (G : Int)), (3, vI mo), (4, vI (i : Int)), (6, vI (j : Int))] ⟨rfl, rfl, rfl, rfl, rfl, trivial⟩ (nx 1 (Or.inl ⟨rfl, fun j' hj' k => by
                      by_cases e : j' = j
                      · subst e
                        rcases q1 with ⟨_, x1⟩ | ⟨x1, _⟩
                        · exact x1 k.2
                        · exact absurd z9 (by omega)
                      · exact hf j' (by omega) k⟩)))
                  | exact xw_ls [(0, vR 38), (2, vI (G : Int)), (3, vI mo), (4, vI (i : Int)), (6, vI (j : Int))] ⟨rfl, rfl, rfl, rfl, rfl, trivial⟩ (nx 1 (Or.inl ⟨rfl, fun j' hj' k => by
                      by_cases e : j' = j
                      · subst e
                        rw [gj, k.1] at c_62
                        exact absurd c_62 (by decide)
                      · exact hf j' (by omega) k⟩))
      · skip
        refine xw_iload dX10_breaks_41 rfl ?_
        refine xw_aload_n dX10_breaks_43 rfl ?_
        refine xw_getfield dX10_breaks_44 fl_X10_313 h38 rfl ?_
        refine xw_topi (h : Int) m56 ?_
        refine xw_icmpge (tgt := 104) dX10_breaks_47 (by decide) (by first | assumption | (unfold inI; omega) | (unfold inI at *; omega)) (by first | assumption | (unfold inI; omega) | (unfold inI at *; omega)) (fun c_47 => ?_) (fun c_47 => ?_)
        · skip
          exfalso; omega
        · skip
          refine xw_iload dX10_breaks_50 rfl ?_
          refine xw_ifeq (tgt := 95) dX10_breaks_52 (by decide) (by first | assumption | (unfold inI; omega) | (unfold inI at *; omega)) (fun c_52 => ?_) (fun c_52 => ?_)
          · skip
            refine xw_iconst dX10_breaks_95 ?_
            exact xw_ls [(0, vR 38), (2, vI (G : Int)), (3, vI mo), (4, vI (i : Int)), (6, vI (j : Int))] ⟨rfl, rfl, rfl, rfl, rfl, trivial⟩ (nx 0 (Or.inr ⟨rfl, j', by omega, b2, b3⟩))
          · skip
            exfalso; omega
  have LI : ∀ (L0 R : Nat) (K : ∀ (mo : Int) (G : Nat), goL h G R → ((mo = 0 ∧ R = L0) ∨ (mo = 1 ∧ cnt R h < cnt L0 h)) → xw g M_X10_breaks Q 0 0 4 [(0, vR 38), (2, vI (G : Int)), (3, vI mo)] [] n f) (t i : Nat) (mo : Int) (G L : Nat), i + t = h → goL h G L → lps ha t i L = R → ((mo = 0 ∧ L = L0) ∨ (mo = 1 ∧ cnt L h < cnt L0 h)) → xw g M_X10_breaks Q 0 0 13 [(0, vR 38), (2, vI (G : Int)), (3, vI mo), (4, vI (i : Int))] [] n f := by
    intro L0 R K t
    induction t with
    | zero =>
      intro i mo G L hi hg hl hmo
      have e : L = R := hl
      subst e
      refine xw_iload dX10_breaks_13 rfl ?_
      refine xw_aload_n dX10_breaks_15 rfl ?_
      refine xw_getfield dX10_breaks_16 fl_X10_313 h38 rfl ?_
      refine xw_topi (h : Int) m56 ?_
      refine xw_icmpge (tgt := 127) dX10_breaks_19 (by decide) (by first | assumption | (unfold inI; omega) | (unfold inI at *; omega)) (by first | assumption | (unfold inI; omega) | (unfold inI at *; omega)) (fun c_19 => ?_) (fun c_19 => ?_)
      · skip
        refine xw_goto (tgt := 4) dX10_breaks_127 (by decide) ?_
        exact xw_ls [(0, vR 38), (2, vI (G : Int)), (3, vI mo)] ⟨rfl, rfl, rfl, trivial⟩ (K mo G hg hmo)
      · skip
        exfalso; omega
    | succ t ih =>
      intro i mo G L hi hg hl hmo
      have hd : G / 2 ^ i ≤ G := Nat.div_le_self _ _
      have hg1 := hg.1
      have gi := hg.2.2 i (by omega)
      rw [lps] at hl
      have no : (L.testBit i = false ∨ ha i &&& L ≠ 0) → xw g M_X10_breaks Q 0 0 121 [(0, vR 38), (2, vI (G : Int)), (3, vI mo), (4, vI (i : Int))] [] n f := by
        intro hn
        have e : (if ha i &&& L = 0 then xdf L (2 ^ i) else L) = L := by
          rcases hn with x | x
          · rw [xclr_0 x]; split <;> rfl
          · rw [if_neg x]
        rw [e] at hl
        refine xw_iinc dX10_breaks_121 rfl (by decide) ?_
        refine xw_goto (tgt := 13) dX10_breaks_124 (by decide) ?_
        exact xw_ls [(0, vR 38), (2, vI (G : Int)), (3, vI mo), (4, vI ((i + 1 : Nat) : Int))] ⟨rfl, rfl, rfl, rfl, trivial⟩ (ih (i + 1) mo G L (by omega) hg hl hmo)
      have yes : L.testBit i = true → ha i &&& L = 0 → xw g M_X10_breaks Q 0 0 121 [(0, vR 38), (2, vI ((G ||| 2 ^ i : Nat) : Int)), (3, vI 1), (4, vI (i : Int))] [] n f := by
        intro y1 y2
        rw [if_pos y2] at hl
        have e : cnt (xdf L (2 ^ i)) h + 1 = cnt L h := cnt_clr h (by omega) y1
        refine xw_iinc dX10_breaks_121 rfl (by decide) ?_
        refine xw_goto (tgt := 13) dX10_breaks_124 (by decide) ?_
        exact xw_ls [(0, vR 38), (2, vI ((G ||| 2 ^ i : Nat) : Int)), (3, vI 1), (4, vI ((i + 1 : Nat) : Int))] ⟨rfl, rfl, rfl, rfl, trivial⟩ (ih (i + 1) 1 (G ||| 2 ^ i) (xdf L (2 ^ i)) (by omega) (goL_st hg (by omega)) hl (Or.inr ⟨rfl, by rcases hmo with ⟨_, x⟩ | ⟨_, x⟩; rw [← x]; omega; omega⟩))
      have mid : L.testBit i = true → ∀ fr9 : Int, ((fr9 = 1 ∧ ha i &&& L = 0) ∨ (fr9 = 0 ∧ ha i &&& L ≠ 0)) → xw g M_X10_breaks Q 0 0 104 [(0, vR 38), (2, vI (G : Int)), (3, vI mo), (4, vI (i : Int)), (5, vI fr9)] [] n f := by
        intro y1 fr9 hf
        have p2 : (2 : Nat) ^ i < 2 ^ 12 := Nat.pow_lt_pow_right (by decide) (by omega)
        rcases hf with ⟨rfl, y2⟩ | ⟨rfl, y2⟩
        · skip
          refine xw_iload dX10_breaks_104 rfl ?_
          refine xw_ifne (tgt := 112) dX10_breaks_106 (by decide) (by first | assumption | (unfold inI; omega) | (unfold inI at *; omega)) (fun c_106 => ?_) (fun c_106 => ?_)
          · skip
            refine xw_iload_n dX10_breaks_112 rfl ?_
            refine xw_iconst dX10_breaks_113 ?_
            refine xw_iload dX10_breaks_114 rfl ?_
            refine xw_ishl dX10_breaks_116 (xb_shlI i (by omega)) ?_
            refine xw_ior dX10_breaks_117 (xb_orI (by omega) (by omega)) ?_
            refine xw_istore_n dX10_breaks_118 (by decide) ?_
            refine xw_iconst dX10_breaks_119 ?_
            refine xw_istore_n dX10_breaks_120 (by decide) ?_
            exact xw_ls [(0, vR 38), (2, vI ((G ||| 2 ^ i : Nat) : Int)), (3, vI 1), (4, vI (i : Int))] ⟨rfl, rfl, rfl, rfl, trivial⟩ (yes y1 y2)
          · skip
            exfalso; omega
        · skip
          refine xw_iload dX10_breaks_104 rfl ?_
          refine xw_ifne (tgt := 112) dX10_breaks_106 (by decide) (by first | assumption | (unfold inI; omega) | (unfold inI at *; omega)) (fun c_106 => ?_) (fun c_106 => ?_)
          · skip
            exfalso; omega
          · skip
            refine xw_goto (tgt := 121) dX10_breaks_109 (by decide) ?_
            exact xw_ls [(0, vR 38), (2, vI (G : Int)), (3, vI mo), (4, vI (i : Int))] ⟨rfl, rfl, rfl, rfl, trivial⟩ (no (Or.inr y2))
      refine xw_iload dX10_breaks_13 rfl ?_
      refine xw_aload_n dX10_breaks_15 rfl ?_
      refine xw_getfield dX10_breaks_16 fl_X10_313 h38 rfl ?_
      refine xw_topi (h : Int) m56 ?_
      refine xw_icmpge (tgt := 127) dX10_breaks_19 (by decide) (by first | assumption | (unfold inI; omega) | (unfold inI at *; omega)) (by first | assumption | (unfold inI; omega) | (unfold inI at *; omega)) (fun c_19 => ?_) (fun c_19 => ?_)
      · skip
        exfalso; omega
      · skip
        refine xw_iload_n dX10_breaks_22 rfl ?_
        refine xw_iload dX10_breaks_23 rfl ?_
        refine xw_ishr dX10_breaks_25 (xb_shrI (by omega) (by omega)) ?_
        refine xw_iconst dX10_breaks_26 ?_
        refine xw_iand dX10_breaks_27 (xb_andI (b := 1) (by omega) (by decide)) ?_
        refine xw_topi ((if G.testBit i = true then 1 else 0 : Nat) : Int) (by rw [and_1, bit01]) ?_
        refine xw_iconst dX10_breaks_28 ?_
        refine xw_icmpne (tgt := 35) dX10_breaks_29 (by decide) (by unfold inI; split <;> omega) (by unfold inI; omega) (fun c_29 => ?_) (fun c_29 => ?_)
        · skip
          refine xw_iconst dX10_breaks_35 ?_
          refine xw_istore dX10_breaks_36 (by decide) ?_
          refine xw_iconst dX10_breaks_38 ?_
          refine xw_istore dX10_breaks_39 (by decide) ?_
          exact xw_ls [(0, vR 38), (2, vI (G : Int)), (3, vI mo), (4, vI (i : Int)), (5, vI 1), (6, vI ((0 : Nat) : Int))] ⟨rfl, rfl, rfl, rfl, rfl, rfl, trivial⟩ (LJ G L i mo hg (by omega) (mid (by cases e : L.testBit i; exact absurd (by rw [gi, e]; rfl) c_29; rfl)) h 0 1 (by omega) (Or.inl ⟨rfl, fun j' hj' => absurd hj' (Nat.not_lt_zero _)⟩))
        · skip
          refine xw_goto (tgt := 121) dX10_breaks_32 (by decide) ?_
          exact xw_ls [(0, vR 38), (2, vI (G : Int)), (3, vI mo), (4, vI (i : Int))] ⟨rfl, rfl, rfl, rfl, trivial⟩ (no (Or.inl (by cases e : L.testBit i; rfl; rw [gi, e] at c_29; exact absurd c_29 (by decide))))
  have EX : ∀ (G L : Nat), goL h G L → (L = 0 → T = true) → (L ≠ 0 → T = false) → xw g M_X10_breaks Q 0 0 130 [(0, vR 38), (2, vI (G : Int))] [] n f := by
    intro G L hg t1 t0
    have hg1 := hg.1
    have e := goL_all hg
    have pp := Nat.two_pow_pos h
    refine xw_iload_n dX10_breaks_130 rfl ?_
    refine xw_iconst dX10_breaks_131 ?_
    refine xw_aload_n dX10_breaks_132 rfl ?_
    refine xw_getfield dX10_breaks_133 fl_X10_313 h38 rfl ?_
    refine xw_topi (h : Int) m56 ?_
    refine xw_ishl dX10_breaks_136 (xb_shlI h (by omega)) ?_
    refine xw_iconst dX10_breaks_137 ?_
    refine xw_isub dX10_breaks_138 ?_
    refine xw_icmpne (tgt := 146) dX10_breaks_139 (by decide) (by first | assumption | (unfold inI; omega) | (unfold inI at *; omega)) (by first | assumption | (unfold inI; omega) | (unfold inI at *; omega)) (fun c_139 => ?_) (fun c_139 => ?_)
    · skip
      refine xw_iconst dX10_breaks_146 ?_
      exact xw_zret dX10_breaks_147 rfl rfl (by first | exact h1 (t1 (e.1 (by omega))) | exact h0 (t0 (fun k => by have := e.2 k; omega)))
    · skip
      refine xw_iconst dX10_breaks_142 ?_
      refine xw_goto (tgt := 147) dX10_breaks_143 (by decide) ?_
      exact xw_zret dX10_breaks_147 rfl rfl (by first | exact h1 (t1 (e.1 (by omega))) | exact h0 (t0 (fun k => by have := e.2 k; omega)))
  have PW : ∀ (u G L : Nat), goL h G L → cnt L h ≤ u → lse ha h u L = T → xw g M_X10_breaks Q 0 0 4 [(0, vR 38), (2, vI (G : Int)), (3, vI 1)] [] n f := by
    intro u
    induction u with
    | zero =>
      intro G L hg hc9 hl
      have e0 : L = 0 := bit0 hg.2.1 (cnt_0 h (by omega))
      have eT : T = true := by rw [← hl, lse]; exact decide_eq_true e0
      refine xw_iload_n dX10_breaks_4 rfl ?_
      refine xw_ifeq (tgt := 130) dX10_breaks_5 (by decide) (by first | assumption | (unfold inI; omega) | (unfold inI at *; omega)) (fun c_5 => ?_) (fun c_5 => ?_)
      · skip
        exfalso; omega
      · skip
        refine xw_iconst dX10_breaks_8 ?_
        refine xw_istore_n dX10_breaks_9 (by decide) ?_
        refine xw_iconst dX10_breaks_10 ?_
        refine xw_istore dX10_breaks_11 (by decide) ?_
        exact xw_ls [(0, vR 38), (2, vI (G : Int)), (3, vI 0), (4, vI ((0 : Nat) : Int))] ⟨rfl, rfl, rfl, rfl, trivial⟩ (LI L (lps ha h 0 L) (fun mo G2 hg2 hmo => by
          rcases hmo with ⟨rfl, e⟩ | ⟨_, e⟩
          · refine xw_iload_n dX10_breaks_4 rfl ?_
            refine xw_ifeq (tgt := 130) dX10_breaks_5 (by decide) (by unfold inI; omega) (fun _ => ?_) (fun c => absurd rfl c)
            exact xw_ls [(0, vR 38), (2, vI (G2 : Int))] ⟨rfl, rfl, trivial⟩ (EX G2 _ hg2 (fun _ => eT) (fun k => absurd (e.trans e0) k))
          · omega) h 0 0 G L (by omega) hg rfl (Or.inl ⟨rfl, rfl⟩))
    | succ u ih =>
      intro G L hg hc9 hl
      rw [lse] at hl
      refine xw_iload_n dX10_breaks_4 rfl ?_
      refine xw_ifeq (tgt := 130) dX10_breaks_5 (by decide) (by first | assumption | (unfold inI; omega) | (unfold inI at *; omega)) (fun c_5 => ?_) (fun c_5 => ?_)
      · skip
        exfalso; omega
      · skip
        refine xw_iconst dX10_breaks_8 ?_
        refine xw_istore_n dX10_breaks_9 (by decide) ?_
        refine xw_iconst dX10_breaks_10 ?_
        refine xw_istore dX10_breaks_11 (by decide) ?_
        exact xw_ls [(0, vR 38), (2, vI (G : Int)), (3, vI 0), (4, vI ((0 : Nat) : Int))] ⟨rfl, rfl, rfl, rfl, trivial⟩ (LI L (lps ha h 0 L) (fun mo G2 hg2 hmo => by
          rcases hmo with ⟨rfl, e⟩ | ⟨rfl, e⟩
          · refine xw_iload_n dX10_breaks_4 rfl ?_
            refine xw_ifeq (tgt := 130) dX10_breaks_5 (by decide) (by unfold inI; omega) (fun _ => ?_) (fun c => absurd rfl c)
            refine xw_ls [(0, vR 38), (2, vI (G2 : Int))] ⟨rfl, rfl, trivial⟩ (EX G2 _ hg2 (fun k => ?_) (fun k => ?_))
            · rw [if_pos (by rw [← e]; exact k)] at hl; exact hl.symm
            · rw [if_neg (by rw [← e]; exact k), if_pos e] at hl; exact hl.symm
          · refine ih G2 _ hg2 (by omega) ?_
            rw [if_neg (fun k => by rw [k, cnt_z] at e; omega), if_neg (fun k => by rw [k] at e; omega)] at hl
            exact hl) h 0 0 G L (by omega) hg rfl (Or.inl ⟨rfl, rfl⟩))
  have g0 : goL h s (xdf (2 ^ h - 1) s) := by
    have pp := Nat.two_pow_pos h
    refine ⟨hs, Nat.lt_of_le_of_lt (xdf_le _ _) (by omega), fun i hi => ?_⟩
    rw [xdf_bit, Nat.testBit_two_pow_sub_one, decide_eq_true hi]
    cases s.testBit i <;> rfl
  refine xw_iload_n dX10_breaks_0 rfl ?_
  refine xw_istore_n dX10_breaks_1 (by decide) ?_
  refine xw_iconst dX10_breaks_2 ?_
  refine xw_istore_n dX10_breaks_3 (by decide) ?_
  exact xw_ls [(0, vR 38), (2, vI (s : Int)), (3, vI 1)] ⟨rfl, rfl, rfl, trivial⟩ (PW h s _ g0 (cnt_le _ _) hT.symm)
end C9h
