/-! the model: who reaches whom, and the knots -/
noncomputable def mknS (R : Nat → Nat → Prop) (sz i : Nat) (s : (Nat → Int) × Nat) : (Nat → Int) × Nat := cite (s.1 i = -1 ∧ R i i) ((fun j => cite (i ≤ j ∧ j < sz ∧ R i j ∧ R j i) (s.2 : Int) (s.1 j)), s.2 + 1) s
noncomputable def mkn (R : Nat → Nat → Prop) (sz : Nat) : Nat → Nat → (Nat → Int) × Nat → (Nat → Int) × Nat
  | 0, _, s => s
  | u + 1, i, s => mkn R sz u (i + 1) (mknS R sz i s)
noncomputable def mkA (R : Nat → Nat → Prop) (sz : Nat) : (Nat → Int) × Nat := mkn R sz sz 0 (fun _ => -1, 0)
def knF (F : xH) (sz : Nat) (N : Nat → Nat) (kn : Nat → Int) : Prop := ∃ ko, F 72 = some (aI 101 ko) ∧ ∀ i, i < sz → ko (N i) = kn i
theorem knF_fr {F F1 : xH} {sz : Nat} {N : Nat → Nat} {L : Nat → Int} (h : knF F sz N L) (hf : F1 72 = F 72) : knF F1 sz N L := by obtain ⟨on, a, b⟩ := h; exact ⟨on, hf.trans a, b⟩
theorem bmF_st {F1 : xH} {c gn sz i j : Nat} {σ : Nat → xSt} {N : Nat → Nat} {R R1 : Nat → Nat → Prop} {br : Nat → Int} {x : Int} (hN : onO gn σ sz N) (hgn : gn ≤ 100) (hi : i < sz) (hj : j < sz) (h : ∀ i j, i < sz → j < sz → (br (100 * N i + N j) = 0 ∧ ¬ R i j) ∨ (br (100 * N i + N j) = 1 ∧ R i j)) (hc9 : F1 c = some (aZ 10000 (xui br (100 * N i + N j) x))) (hx : (x = 0 ∧ ¬ R1 i j) ∨ (x = 1 ∧ R1 i j)) (hR : ∀ a b, a < sz → b < sz → ¬ (a = i ∧ b = j) → (R1 a b ↔ R a b)) : bmF F1 c sz N R1 := by
  refine ⟨_, hc9, fun a b ha hb => ?_⟩
  by_cases e : a = i ∧ b = j
  · obtain ⟨rfl, rfl⟩ := e
    rw [xui_s]; exact hx
  · have na := hN.2 a ha
    have nb9 := hN.2 b hb
    have ni := hN.2 i hi
    have nj := hN.2 j hj
    have e2 : 100 * N a + N b ≠ 100 * N i + N j := fun q => e ⟨onO_inj hN ha hi (by omega), onO_inj hN hb hj (by omega)⟩
    rw [xui_n _ _ e2, hR a b ha hb e]
    exact h a b ha hb
theorem bmF_cg {F : xH} {c sz : Nat} {N : Nat → Nat} {R R1 : Nat → Nat → Prop} (h : bmF F c sz N R) (hR : ∀ a b, a < sz → b < sz → (R1 a b ↔ R a b)) : bmF F c sz N R1 := by
  obtain ⟨br, h1, h2⟩ := h
  exact ⟨br, h1, fun a b ha hb => by rw [hR a b ha hb]; exact h2 a b ha hb⟩
/-- rows before i, and row i up to j, are one step on -/
def wS (P P1 : Nat → Nat → Prop) (i j : Nat) : Nat → Nat → Prop := fun a b => ((a < i ∨ (a = i ∧ b < j)) ∧ P1 a b) ∨ (¬ (a < i ∨ (a = i ∧ b < j)) ∧ P a b)
section C9a
variable {g : xG} {y : xM} {Q : xP} {n : Nat} {f : xH} {gn : Nat} {σ : Nat → xSt} {d m : Nat → Int} {sz : Nat} {N : Nat → Nat} {av : Nat → Nat}
theorem wS_m {i j m9 b : Nat} : wS (fun a b => WP av m9 a b) (fun a b => WP av (m9 + 1) a b) i j m9 b ↔ WP av m9 m9 b := by
  unfold wS
  by_cases e : m9 < i ∨ (m9 = i ∧ b < j)
  · constructor
    · rintro (⟨_, h⟩ | ⟨h, _⟩)
      · rcases h with h | h; exact h; exact h.1
      · exact absurd e h
    · intro h; exact Or.inl ⟨e, Or.inl h⟩
  · constructor
    · rintro (⟨h, _⟩ | ⟨_, h⟩)
      · exact absurd h e
      · exact h
    · intro h; exact Or.inr ⟨e, h⟩
set_option maxHeartbeats 16000000 in
theorem mct_findKnots (h : mE m f gn σ d) (hsh : msh f) (hN : onO gn σ sz N) (h40 : sz ≤ 40) (hav : avR sz av (fun i j => mBar d σ (N i) (N j))) (hq : ∀ F m1, gR f F m m1 → m1 49 = (sz : Int) → onF F sz N → bmF F 67 sz N (fun i j => mBar d σ (N i) (N j)) → m1 50 = ((mkA (fun i j => WP av sz i j) sz).2 : Int) → knF F sz N (mkA (fun i j => WP av sz i j) sz).1 → (mkA (fun i j => WP av sz i j) sz).2 ≤ sz → Q (.inl none) n F) : xct g M_X10_findKnots 0 0 [vR 38] n f Q := by
  refine xct_of rfl rfl (Nat.le_of_ble_eq_true rfl) ?_
  have hgn : gn ≤ 100 := h.2.2.2.1.choose_spec.choose_spec.choose_spec.choose_spec.choose_spec.2.2.2.2.2.1
  obtain ⟨B, hB⟩ : ∃ B : Nat → Nat → Prop, B = (fun i j => mBar d σ (N i) (N j)) := ⟨_, rfl⟩
  rw [← hB] at hav hq
  obtain ⟨R, hR⟩ : ∃ R : Nat → Nat → Prop, R = (fun i j => WP av sz i j) := ⟨_, rfl⟩
  rw [← hR] at hq
  -- the knots
  have K3 : ∀ (t j i : Nat) (s : (Nat → Int) × Nat) (F : xH) (m1 ko : Nat → Int), j + t = sz → i < sz → i ≤ j → gR f F m m1 → m1 49 = (sz : Int) → onF F sz N → bmF F 67 sz N B → bmF F 68 sz N R → m1 50 = (s.2 : Int) → F 72 = some (aI 101 ko) → (∀ a, a < sz → ko (N a) = cite (i ≤ a ∧ a < j ∧ R i a ∧ R a i) (s.2 : Int) (s.1 a)) →
      (∀ (F2 : xH) (m2 : Nat → Int), gR f F2 m m2 → m2 49 = (sz : Int) → onF F2 sz N → bmF F2 67 sz N B → bmF F2 68 sz N R → m2 50 = (s.2 : Int) → knF F2 sz N (fun j => cite (i ≤ j ∧ j < sz ∧ R i j ∧ R j i) (s.2 : Int) (s.1 j)) → xw g M_X10_findKnots Q 0 0 340 [(0, vR 38), (1, vI (i : Int))] [] n F2) →
      xw g M_X10_findKnots Q 0 0 273 [(0, vR 38), (1, vI (i : Int)), (2, vI (N i : Int)), (3, vI (j : Int))] [] n F := by
    intro t
    induction t with
    | zero =>
      intro j i s F m1 ko hj hi hij hG m49 hon hb hr m50 h72 hk K
      have h38 := hG.2.1
      obtain rfl : j = sz := by omega
      refine xw_iload_n dX10_findKnots_273 rfl ?_
      refine xw_aload_n dX10_findKnots_274 rfl ?_
      refine xw_getfield dX10_findKnots_275 fl_X10_285 h38 rfl ?_
      refine xw_topi (j : Int) m49 ?_
      refine xw_icmpge (tgt := 340) dX10_findKnots_278 (by decide) (by first | assumption | (unfold inI; omega) | (unfold inI at *; omega)) (by first | assumption | (unfold inI; omega) | (unfold inI at *; omega)) (fun c_278 => ?_) (fun c_278 => ?_)
      · skip
        exact xw_ls [(0, vR 38), (1, vI (i : Int))] ⟨rfl, rfl, trivial⟩ (K F m1 hG m49 hon hb hr m50 ⟨ko, h72, hk⟩)
      · skip
        exfalso; omega
    | succ t ih =>
      intro j i s F m1 ko hj hi hij hG m49 hon hb hr m50 h72 hk K
      have h38 := hG.2.1
      obtain ⟨on, h70, hon9⟩ := id hon
      obtain ⟨rr, h68, hr9⟩ := id hr
      have ni := hN.2 i hi
      have nj := hN.2 j (by omega)
      have q1 := hr9 i j hi (by omega)
      have q2 := hr9 j i (by omega) hi
      have no : ¬ (R i j ∧ R j i) → xw g M_X10_findKnots Q 0 0 334 [(0, vR 38), (1, vI (i : Int)), (2, vI (N i : Int)), (3, vI (j : Int))] [] n F := by
        intro hn
        refine xw_iinc dX10_findKnots_334 rfl (by decide) ?_
        refine xw_goto (tgt := 273) dX10_findKnots_337 (by decide) ?_
        exact xw_ls [(0, vR 38), (1, vI (i : Int)), (2, vI (N i : Int)), (3, vI ((j + 1 : Nat) : Int))] ⟨rfl, rfl, rfl, rfl, trivial⟩ (ih (j + 1) i s F m1 ko (by omega) hi (by omega) hG m49 hon hb hr m50 h72 (fun a ha => by
            rw [hk a ha]
            by_cases e : i ≤ a ∧ a < j ∧ R i a ∧ R a i
            · rw [cite_t e, cite_t ⟨e.1, by omega, e.2.2⟩]
            · rw [cite_f e, cite_f (fun x => by
                by_cases e2 : a = j
                · subst e2; exact hn x.2.2
                · exact e ⟨x.1, by omega, x.2.2⟩)]) K)
      have yes : R i j → R j i → xw g M_X10_findKnots Q 0 0 334 [(0, vR 38), (1, vI (i : Int)), (2, vI (N i : Int)), (3, vI (j : Int))] [] n (xup F 72 (aI 101 (xui ko (N j) (s.2 : Int)))) := by
        intro r1 r2
        refine xw_iinc dX10_findKnots_334 rfl (by decide) ?_
        refine xw_goto (tgt := 273) dX10_findKnots_337 (by decide) ?_
        exact xw_ls [(0, vR 38), (1, vI (i : Int)), (2, vI (N i : Int)), (3, vI ((j + 1 : Nat) : Int))] ⟨rfl, rfl, rfl, rfl, trivial⟩ (ih (j + 1) i s _ m1 _ (by omega) hi (by omega) (gR_up (t := 0) (N := 101) (k := 72) hG (by decide) (by decide) (by decide)) m49 (onF_fr hon rfl) (bmF_fr hb rfl) (bmF_fr hr rfl) m50 rfl (fun a ha => by
            by_cases e2 : a = j
            · subst e2; rw [xui_s, cite_t ⟨hij, by omega, r1, r2⟩]
            · rw [xui_n _ _ (fun x => e2 (onO_inj hN ha (by omega) x)), hk a ha]
              by_cases e : i ≤ a ∧ a < j ∧ R i a ∧ R a i
              · rw [cite_t e, cite_t ⟨e.1, by omega, e.2.2⟩]
              · rw [cite_f e, cite_f (fun x => e ⟨x.1, by omega, x.2.2⟩)]) K)
      refine xw_iload_n dX10_findKnots_273 rfl ?_
      refine xw_aload_n dX10_findKnots_274 rfl ?_
      refine xw_getfield dX10_findKnots_275 fl_X10_285 h38 rfl ?_
      refine xw_topi (sz : Int) m49 ?_
      refine xw_icmpge (tgt := 340) dX10_findKnots_278 (by decide) (by first | assumption | (unfold inI; omega) | (unfold inI at *; omega)) (by first | assumption | (unfold inI; omega) | (unfold inI at *; omega)) (fun c_278 => ?_) (fun c_278 => ?_)
      · skip
        exfalso; omega
      · skip
        refine xw_aload_n dX10_findKnots_281 rfl ?_
        refine xw_getfield dX10_findKnots_282 fl_X10_106 h38 rfl ?_
        refine xw_bipush (z := 100) dX10_findKnots_285 (by decide) ?_
        refine xw_iload_n dX10_findKnots_287 rfl ?_
        refine xw_imul dX10_findKnots_288 ?_
        refine xw_aload_n dX10_findKnots_289 rfl ?_
        refine xw_getfield dX10_findKnots_290 fl_X10_112 h38 rfl ?_
        refine xw_iload_n dX10_findKnots_293 rfl ?_
        refine xw_iald dX10_findKnots_294 h70 (j := j) rfl (by omega) (by decide) ?_
        refine xw_topi (N j : Int) (hon9 j (by omega)) ?_
        refine xw_iadd dX10_findKnots_295 ?_
        refine xw_zald dX10_findKnots_296 h68 (j := 100 * N i + N j) (by omega) (by omega) (by decide) ?_
        refine xw_ifeq (tgt := 334) dX10_findKnots_297 (by decide) (by first | assumption | (unfold inI; omega) | (unfold inI at *; omega)) (fun c_297 => ?_) (fun c_297 => ?_)
        · skip
          first
            | exact xw_ls [(0, vR 38), (1, vI (i : Int)), (2, vI (N i : Int)), (3, vI (j : Int))] ⟨rfl, rfl, rfl, rfl, trivial⟩ (no (fun x => by rcases q1 with ⟨_, x1⟩ | ⟨x1, _⟩; exact x1 x.1; exact absurd c_297 (by omega)))
            | exact xw_ls [(0, vR 38), (1, vI (i : Int)), (2, vI (N i : Int)), (3, vI (j : Int))] ⟨rfl, rfl, rfl, rfl, trivial⟩ (no (fun x => by rcases q2 with ⟨_, x1⟩ | ⟨x1, _⟩; exact x1 x.2; exact absurd c_316 (by omega)))
            | exact xw_ls [(0, vR 38), (1, vI (i : Int)), (2, vI (N i : Int)), (3, vI (j : Int))] ⟨rfl, rfl, rfl, rfl, trivial⟩ (yes (by rcases q1 with ⟨x1, _⟩ | ⟨_, x1⟩; exact absurd x1 c_297; exact x1) (by rcases q2 with ⟨x1, _⟩ | ⟨_, x1⟩; exact absurd x1 c_316; exact x1))
        · skip
          refine xw_aload_n dX10_findKnots_300 rfl ?_
          refine xw_getfield dX10_findKnots_301 fl_X10_106 h38 rfl ?_
          refine xw_bipush (z := 100) dX10_findKnots_304 (by decide) ?_
          refine xw_aload_n dX10_findKnots_306 rfl ?_
          refine xw_getfield dX10_findKnots_307 fl_X10_112 h38 rfl ?_
          refine xw_iload_n dX10_findKnots_310 rfl ?_
          refine xw_iald dX10_findKnots_311 h70 (j := j) rfl (by omega) (by decide) ?_
          refine xw_topi (N j : Int) (hon9 j (by omega)) ?_
          refine xw_imul dX10_findKnots_312 ?_
          refine xw_iload_n dX10_findKnots_313 rfl ?_
          refine xw_iadd dX10_findKnots_314 ?_
          refine xw_zald dX10_findKnots_315 h68 (j := 100 * N j + N i) (by omega) (by omega) (by decide) ?_
          refine xw_ifeq (tgt := 334) dX10_findKnots_316 (by decide) (by first | assumption | (unfold inI; omega) | (unfold inI at *; omega)) (fun c_316 => ?_) (fun c_316 => ?_)
          · skip
            first
              | exact xw_ls [(0, vR 38), (1, vI (i : Int)), (2, vI (N i : Int)), (3, vI (j : Int))] ⟨rfl, rfl, rfl, rfl, trivial⟩ (no (fun x => by rcases q1 with ⟨_, x1⟩ | ⟨x1, _⟩; exact x1 x.1; exact absurd c_297 (by omega)))
              | exact xw_ls [(0, vR 38), (1, vI (i : Int)), (2, vI (N i : Int)), (3, vI (j : Int))] ⟨rfl, rfl, rfl, rfl, trivial⟩ (no (fun x => by rcases q2 with ⟨_, x1⟩ | ⟨x1, _⟩; exact x1 x.2; exact absurd c_316 (by omega)))
              | exact xw_ls [(0, vR 38), (1, vI (i : Int)), (2, vI (N i : Int)), (3, vI (j : Int))] ⟨rfl, rfl, rfl, rfl, trivial⟩ (yes (by rcases q1 with ⟨x1, _⟩ | ⟨_, x1⟩; exact absurd x1 c_297; exact x1) (by rcases q2 with ⟨x1, _⟩ | ⟨_, x1⟩; exact absurd x1 c_316; exact x1))
          · skip
            refine xw_aload_n dX10_findKnots_319 rfl ?_
            refine xw_getfield dX10_findKnots_320 fl_X10_118 h38 rfl ?_
            refine xw_aload_n dX10_findKnots_323 rfl ?_
            refine xw_getfield dX10_findKnots_324 fl_X10_112 h38 rfl ?_
            refine xw_iload_n dX10_findKnots_327 rfl ?_
            refine xw_iald dX10_findKnots_328 h70 (j := j) rfl (by omega) (by decide) ?_
            refine xw_topi (N j : Int) (hon9 j (by omega)) ?_
            refine xw_aload_n dX10_findKnots_329 rfl ?_
            refine xw_getfield dX10_findKnots_330 fl_X10_294 h38 rfl ?_
            refine xw_topi (s.2 : Int) m50 ?_
            refine xw_iast dX10_findKnots_333 h72 (j := N j) rfl (by omega) (by decide) ?_
            first
              | exact xw_ls [(0, vR 38), (1, vI (i : Int)), (2, vI (N i : Int)), (3, vI (j : Int))] ⟨rfl, rfl, rfl, rfl, trivial⟩ (no (fun x => by rcases q1 with ⟨_, x1⟩ | ⟨x1, _⟩; exact x1 x.1; exact absurd c_297 (by omega)))
              | exact xw_ls [(0, vR 38), (1, vI (i : Int)), (2, vI (N i : Int)), (3, vI (j : Int))] ⟨rfl, rfl, rfl, rfl, trivial⟩ (no (fun x => by rcases q2 with ⟨_, x1⟩ | ⟨x1, _⟩; exact x1 x.2; exact absurd c_316 (by omega)))
              | exact xw_ls [(0, vR 38), (1, vI (i : Int)), (2, vI (N i : Int)), (3, vI (j : Int))] ⟨rfl, rfl, rfl, rfl, trivial⟩ (yes (by rcases q1 with ⟨x1, _⟩ | ⟨_, x1⟩; exact absurd x1 c_297; exact x1) (by rcases q2 with ⟨x1, _⟩ | ⟨_, x1⟩; exact absurd x1 c_316; exact x1))
  have K1 : ∀ (u i : Nat) (s : (Nat → Int) × Nat) (F : xH) (m1 : Nat → Int), i + u = sz → gR f F m m1 → m1 49 = (sz : Int) → onF F sz N → bmF F 67 sz N B → bmF F 68 sz N R → m1 50 = (s.2 : Int) → knF F sz N s.1 → (∀ a, a < sz → -1 ≤ s.1 a ∧ s.1 a ≤ 40) → s.2 ≤ i → mkn R sz u i s = mkA R sz → xw g M_X10_findKnots Q 0 0 231 [(0, vR 38), (1, vI (i : Int))] [] n F := by
    intro u
    induction u with
    | zero =>
      intro i s F m1 hi hG m49 hon hb hr m50 hkn hin hs2 hA
      have h38 := hG.2.1
      have e9 : s = mkA R sz := hA
      refine xw_iload_n dX10_findKnots_231 rfl ?_
      refine xw_aload_n dX10_findKnots_232 rfl ?_
      refine xw_getfield dX10_findKnots_233 fl_X10_285 h38 rfl ?_
      refine xw_topi (sz : Int) m49 ?_
      refine xw_icmpge (tgt := 356) dX10_findKnots_236 (by decide) (by first | assumption | (unfold inI; omega) | (unfold inI at *; omega)) (by first | assumption | (unfold inI; omega) | (unfold inI at *; omega)) (fun c_236 => ?_) (fun c_236 => ?_)
      · skip
        exact xw_vret dX10_findKnots_356 rfl (hq F m1 hG m49 hon hb (by rw [← e9]; exact m50) (by rw [← e9]; exact hkn) (by rw [← e9]; omega))
      · skip
        exfalso; omega
    | succ u ih =>
      intro i s F m1 hi hG m49 hon hb hr m50 hkn hin hs2 hA
      have h38 := hG.2.1
      obtain ⟨on, h70, hon9⟩ := id hon
      obtain ⟨rr, h68, hr9⟩ := id hr
      obtain ⟨ko, h72, hk9⟩ := id hkn
      have ni := hN.2 i (by omega)
      have q1 := hr9 i i (by omega) (by omega)
      have e101 : 100 * N i + N i = 101 * N i := by omega
      rw [e101] at q1
      have iko : inI (ko (N i)) := by have := hin i (by omega); rw [hk9 i (by omega)]; unfold inI; omega
      have no : ¬ (s.1 i = -1 ∧ R i i) → xw g M_X10_findKnots Q 0 0 350 [(0, vR 38), (1, vI (i : Int))] [] n F := by
        intro hn
        refine xw_iinc dX10_findKnots_350 rfl (by decide) ?_
        refine xw_goto (tgt := 231) dX10_findKnots_353 (by decide) ?_
        exact xw_ls [(0, vR 38), (1, vI ((i + 1 : Nat) : Int))] ⟨rfl, rfl, trivial⟩ (ih (i + 1) s F m1 (by omega) hG m49 hon hb hr m50 hkn hin (by omega) (by rw [← hA, mkn, mknS, cite_f hn]))
      have yes : s.1 i = -1 ∧ R i i → ∀ (F2 : xH) (m2 : Nat → Int), gR f F2 m m2 → m2 49 = (sz : Int) → onF F2 sz N → bmF F2 67 sz N B → bmF F2 68 sz N R → m2 50 = (s.2 : Int) → knF F2 sz N (fun j => cite (i ≤ j ∧ j < sz ∧ R i j ∧ R j i) (s.2 : Int) (s.1 j)) → xw g M_X10_findKnots Q 0 0 340 [(0, vR 38), (1, vI (i : Int))] [] n F2 := by
        intro hy F2 m2 hG2 m49 hon hb hr m50 hkn
        refine xw_aload_n dX10_findKnots_340 rfl ?_
        refine xw_dup dX10_findKnots_341 rfl ?_
        refine xw_getfield dX10_findKnots_342 fl_X10_294 hG2.2.1 rfl ?_
        refine xw_topi (s.2 : Int) m50 ?_
        refine xw_iconst dX10_findKnots_345 ?_
        refine xw_iadd dX10_findKnots_346 ?_
        refine xw_topi ((s.2 + 1 : Nat) : Int) (by omega) ?_
        refine xw_putfield dX10_findKnots_347 (fp_X10_294 _) hG2.2.1 rfl rfl ?_
        rw [xmd_50]
        refine xw_iinc dX10_findKnots_350 rfl (by decide) ?_
        refine xw_goto (tgt := 231) dX10_findKnots_353 (by decide) ?_
        exact xw_ls [(0, vR 38), (1, vI ((i + 1 : Nat) : Int))] ⟨rfl, rfl, trivial⟩ (ih (i + 1) ((fun j => cite (i ≤ j ∧ j < sz ∧ R i j ∧ R j i) (s.2 : Int) (s.1 j)), s.2 + 1) _ _ (by omega) (gR_38 (k := 50) hG2 (by unfold grk; omega)) ((xui_n _ _ (by decide)).trans m49) (onF_fr hon rfl) (bmF_fr hb rfl) (bmF_fr hr rfl) (xui_s _ _ _) (knF_fr hkn rfl) (fun a ha => by
            show -1 ≤ cite _ _ _ ∧ cite _ _ _ ≤ 40
            by_cases e : i ≤ a ∧ a < sz ∧ R i a ∧ R a i
            · rw [cite_t e]; omega
            · rw [cite_f e]; exact hin a ha) (by show s.2 + 1 ≤ i + 1; omega) (by rw [← hA, mkn, mknS, cite_t hy]))
      refine xw_iload_n dX10_findKnots_231 rfl ?_
      refine xw_aload_n dX10_findKnots_232 rfl ?_
      refine xw_getfield dX10_findKnots_233 fl_X10_285 h38 rfl ?_
      refine xw_topi (sz : Int) m49 ?_
      refine xw_icmpge (tgt := 356) dX10_findKnots_236 (by decide) (by first | assumption | (unfold inI; omega) | (unfold inI at *; omega)) (by first | assumption | (unfold inI; omega) | (unfold inI at *; omega)) (fun c_236 => ?_) (fun c_236 => ?_)
      · skip
        exfalso; omega
      · skip
        refine xw_aload_n dX10_findKnots_239 rfl ?_
        refine xw_getfield dX10_findKnots_240 fl_X10_112 h38 rfl ?_
        refine xw_iload_n dX10_findKnots_243 rfl ?_
        refine xw_iald dX10_findKnots_244 h70 (j := i) rfl (by omega) (by decide) ?_
        refine xw_topi (N i : Int) (hon9 i (by omega)) ?_
        refine xw_istore_n dX10_findKnots_245 (by decide) ?_
        refine xw_aload_n dX10_findKnots_246 rfl ?_
        refine xw_getfield dX10_findKnots_247 fl_X10_118 h38 rfl ?_
        refine xw_iload_n dX10_findKnots_250 rfl ?_
        refine xw_iald dX10_findKnots_251 h72 (j := N i) rfl (by omega) (by decide) ?_
        refine xw_iconst dX10_findKnots_252 ?_
        refine xw_icmpne (tgt := 350) dX10_findKnots_253 (by decide) iko (by unfold inI; omega) (fun c_253 => ?_) (fun c_253 => ?_)
        · skip
          first
            | exact xw_ls [(0, vR 38), (1, vI (i : Int))] ⟨rfl, rfl, trivial⟩ (no (fun x => by have := hk9 i (by omega); exact c_253 (by omega)))
            | exact xw_ls [(0, vR 38), (1, vI (i : Int))] ⟨rfl, rfl, trivial⟩ (no (fun x => by rcases q1 with ⟨_, x1⟩ | ⟨x1, _⟩; exact x1 x.2; exact c_265 (by omega)))
            | exact xw_ls [(0, vR 38), (1, vI (i : Int))] ⟨rfl, rfl, trivial⟩ (no (fun x => by rcases q1 with ⟨_, x1⟩ | ⟨x1, _⟩; exact x1 x.2; exact absurd c_265 (by omega)))
        · skip
          refine xw_aload_n dX10_findKnots_256 rfl ?_
          refine xw_getfield dX10_findKnots_257 fl_X10_106 h38 rfl ?_
          refine xw_bipush (z := 101) dX10_findKnots_260 (by decide) ?_
          refine xw_iload_n dX10_findKnots_262 rfl ?_
          refine xw_imul dX10_findKnots_263 ?_
          refine xw_zald dX10_findKnots_264 h68 (j := 101 * N i) (by omega) (by omega) (by decide) ?_
          refine xw_ifne (tgt := 271) dX10_findKnots_265 (by decide) (by first | assumption | (unfold inI; omega) | (unfold inI at *; omega)) (fun c_265 => ?_) (fun c_265 => ?_)
          · skip
            refine xw_iload_n dX10_findKnots_271 rfl ?_
            refine xw_istore_n dX10_findKnots_272 (by decide) ?_
            exact xw_ls [(0, vR 38), (1, vI (i : Int)), (2, vI (N i : Int)), (3, vI (i : Int))] ⟨rfl, rfl, rfl, rfl, trivial⟩ (K3 u.succ i i s F m1 ko (by omega) (by omega) (Nat.le_refl i) hG m49 hon hb hr m50 h72 (fun a ha => by rw [cite_f (fun x => by omega)]; exact hk9 a ha) (yes ⟨by have := hk9 i (by omega); omega, by rcases q1 with ⟨x1, _⟩ | ⟨_, x1⟩; exact absurd x1 c_265; exact x1⟩))
          · skip
            refine xw_goto (tgt := 350) dX10_findKnots_268 (by decide) ?_
            first
              | exact xw_ls [(0, vR 38), (1, vI (i : Int))] ⟨rfl, rfl, trivial⟩ (no (fun x => by have := hk9 i (by omega); exact c_253 (by omega)))
              | exact xw_ls [(0, vR 38), (1, vI (i : Int))] ⟨rfl, rfl, trivial⟩ (no (fun x => by rcases q1 with ⟨_, x1⟩ | ⟨x1, _⟩; exact x1 x.2; exact c_265 (by omega)))
              | exact xw_ls [(0, vR 38), (1, vI (i : Int))] ⟨rfl, rfl, trivial⟩ (no (fun x => by rcases q1 with ⟨_, x1⟩ | ⟨x1, _⟩; exact x1 x.2; exact absurd c_265 (by omega)))
  have K0 : ∀ (t i : Nat) (F : xH) (m1 ko : Nat → Int), i + t = sz → gR f F m m1 → m1 49 = (sz : Int) → onF F sz N → bmF F 67 sz N B → bmF F 68 sz N R → m1 50 = 0 → F 72 = some (aI 101 ko) → (∀ i', i' < i → ko (N i') = -1) → xw g M_X10_findKnots Q 0 0 203 [(0, vR 38), (1, vI (i : Int))] [] n F := by
    intro t
    induction t with
    | zero =>
      intro i F m1 ko hi hG m49 hon hb hr m50 h72 hk
      have h38 := hG.2.1
      refine xw_iload_n dX10_findKnots_203 rfl ?_
      refine xw_aload_n dX10_findKnots_204 rfl ?_
      refine xw_getfield dX10_findKnots_205 fl_X10_285 h38 rfl ?_
      refine xw_topi (sz : Int) m49 ?_
      refine xw_icmpge (tgt := 229) dX10_findKnots_208 (by decide) (by first | assumption | (unfold inI; omega) | (unfold inI at *; omega)) (by first | assumption | (unfold inI; omega) | (unfold inI at *; omega)) (fun c_208 => ?_) (fun c_208 => ?_)
      · skip
        refine xw_iconst dX10_findKnots_229 ?_
        refine xw_istore_n dX10_findKnots_230 (by decide) ?_
        exact xw_ls [(0, vR 38), (1, vI ((0 : Nat) : Int))] ⟨rfl, rfl, trivial⟩ (K1 sz 0 (fun _ => -1, 0) F m1 (by omega) hG m49 hon hb hr m50 ⟨ko, h72, fun i' hi' => hk i' (by omega)⟩ (fun a ha => ⟨Int.le_refl _, by show (-1 : Int) ≤ 40; decide⟩) (Nat.le_refl 0) rfl)
      · skip
        exfalso; omega
    | succ t ih =>
      intro i F m1 ko hi hG m49 hon hb hr m50 h72 hk
      have h38 := hG.2.1
      obtain ⟨on, h70, hon9⟩ := id hon
      have ni := hN.2 i (by omega)
      refine xw_iload_n dX10_findKnots_203 rfl ?_
      refine xw_aload_n dX10_findKnots_204 rfl ?_
      refine xw_getfield dX10_findKnots_205 fl_X10_285 h38 rfl ?_
      refine xw_topi (sz : Int) m49 ?_
      refine xw_icmpge (tgt := 229) dX10_findKnots_208 (by decide) (by first | assumption | (unfold inI; omega) | (unfold inI at *; omega)) (by first | assumption | (unfold inI; omega) | (unfold inI at *; omega)) (fun c_208 => ?_) (fun c_208 => ?_)
      · skip
        exfalso; omega
      · skip
        refine xw_aload_n dX10_findKnots_211 rfl ?_
        refine xw_getfield dX10_findKnots_212 fl_X10_118 h38 rfl ?_
        refine xw_aload_n dX10_findKnots_215 rfl ?_
        refine xw_getfield dX10_findKnots_216 fl_X10_112 h38 rfl ?_
        refine xw_iload_n dX10_findKnots_219 rfl ?_
        refine xw_iald dX10_findKnots_220 h70 (j := i) rfl (by omega) (by decide) ?_
        refine xw_topi (N i : Int) (hon9 i (by omega)) ?_
        refine xw_iconst dX10_findKnots_221 ?_
        refine xw_iast dX10_findKnots_222 h72 (j := N i) rfl (by omega) (by decide) ?_
        refine xw_iinc dX10_findKnots_223 rfl (by decide) ?_
        refine xw_goto (tgt := 203) dX10_findKnots_226 (by decide) ?_
        exact xw_ls [(0, vR 38), (1, vI ((i + 1 : Nat) : Int))] ⟨rfl, rfl, trivial⟩ (ih (i + 1) _ m1 _ (by omega) (gR_up (t := 0) (N := 101) (k := 72) hG (by decide) (by decide) (by decide)) m49 (onF_fr hon rfl) (bmF_fr hb rfl) (bmF_fr hr rfl) m50 rfl (fun i' hi' => by
          by_cases e : i' = i
          · subst e; rw [xui_s]
          · rw [xui_n _ _ (fun k9 => e (onO_inj hN (by omega) (by omega) k9))]; exact hk i' (by omega)))
  -- Warshall
  have W3 : ∀ (t j i m9 : Nat) (F : xH) (m1 : Nat → Int), j + t = sz → i < sz → m9 < sz → gR f F m m1 → m1 49 = (sz : Int) → onF F sz N → bmF F 67 sz N B → WP av m9 i m9 → bmF F 68 sz N (wS (fun a b => WP av m9 a b) (fun a b => WP av (m9 + 1) a b) i j) → (∀ (F2 : xH) (m2 : Nat → Int), gR f F2 m m2 → m2 49 = (sz : Int) → onF F2 sz N → bmF F2 67 sz N B → bmF F2 68 sz N (wS (fun a b => WP av m9 a b) (fun a b => WP av (m9 + 1) a b) (i + 1) 0) → xw g M_X10_findKnots Q 0 0 90 [(0, vR 38), (1, vI (m9 : Int)), (2, vI ((i + 1 : Nat) : Int))] [] n F2) → xw g M_X10_findKnots Q 0 0 124 [(0, vR 38), (1, vI (m9 : Int)), (2, vI (i : Int)), (3, vI (j : Int))] [] n F := by
    intro t
    induction t with
    | zero =>
      intro j i m9 F m1 hj hi hm9 hG m49 hon hb him hr K
      have h38 := hG.2.1
      refine xw_iload_n dX10_findKnots_124 rfl ?_
      refine xw_aload_n dX10_findKnots_125 rfl ?_
      refine xw_getfield dX10_findKnots_126 fl_X10_285 h38 rfl ?_
      refine xw_topi (sz : Int) m49 ?_
      refine xw_icmpge (tgt := 184) dX10_findKnots_129 (by decide) (by first | assumption | (unfold inI; omega) | (unfold inI at *; omega)) (by first | assumption | (unfold inI; omega) | (unfold inI at *; omega)) (fun c_129 => ?_) (fun c_129 => ?_)
      · skip
        refine xw_iinc dX10_findKnots_184 rfl (by decide) ?_
        refine xw_goto (tgt := 90) dX10_findKnots_187 (by decide) ?_
        exact xw_ls [(0, vR 38), (1, vI (m9 : Int)), (2, vI ((i + 1 : Nat) : Int))] ⟨rfl, rfl, rfl, trivial⟩ (K F m1 hG m49 hon hb (bmF_cg hr (fun a b ha hb => by
          unfold wS
          have e : (a < i + 1 ∨ (a = i + 1 ∧ b < 0)) ↔ (a < i ∨ (a = i ∧ b < j)) := by omega
          rw [e])))
      · skip
        exfalso; omega
    | succ t ih =>
      intro j i m9 F m1 hj hi hm9 hG m49 hon hb him hr K
      have h38 := hG.2.1
      obtain ⟨on, h70, hon9⟩ := id hon
      obtain ⟨rr, h68, hr9⟩ := id hr
      have ni := hN.2 i hi
      have nj := hN.2 j (by omega)
      have nm := hN.2 m9 hm9
      have q1 := hr9 m9 j hm9 (by omega)
      rw [wS_m] at q1
      have old : ∀ {a b}, ¬ (a = i ∧ b = j) → (wS (fun a b => WP av m9 a b) (fun a b => WP av (m9 + 1) a b) i (j + 1) a b ↔ wS (fun a b => WP av m9 a b) (fun a b => WP av (m9 + 1) a b) i j a b) := by
        intro a b e
        unfold wS
        have e : (a < i ∨ (a = i ∧ b < j + 1)) ↔ (a < i ∨ (a = i ∧ b < j)) := by omega
        rw [e]
      have no : ¬ WP av m9 m9 j → xw g M_X10_findKnots Q 0 0 178 [(0, vR 38), (1, vI (m9 : Int)), (2, vI (i : Int)), (3, vI (j : Int))] [] n F := by
        intro hn
        refine xw_iinc dX10_findKnots_178 rfl (by decide) ?_
        refine xw_goto (tgt := 124) dX10_findKnots_181 (by decide) ?_
        exact xw_ls [(0, vR 38), (1, vI (m9 : Int)), (2, vI (i : Int)), (3, vI ((j + 1 : Nat) : Int))] ⟨rfl, rfl, rfl, rfl, trivial⟩ (ih (j + 1) i m9 F m1 (by omega) hi hm9 hG m49 hon hb him (bmF_cg hr (fun a b ha hb => by
          by_cases e : a = i ∧ b = j
          · obtain ⟨rfl, rfl⟩ := e
            unfold wS
            constructor
            · rintro (⟨_, x⟩ | ⟨x, _⟩)
              · refine Or.inr ⟨by omega, ?_⟩
                rcases x with x | x
                · exact x
                · exact absurd x.1 hn
              · exact absurd (Or.inr ⟨rfl, by omega⟩) x
            · rintro (⟨x, _⟩ | ⟨_, x⟩)
              · omega
              · exact Or.inl ⟨Or.inr ⟨rfl, by omega⟩, Or.inl x⟩
          · exact old e)) K)
      have yes : WP av m9 m9 j → xw g M_X10_findKnots Q 0 0 178 [(0, vR 38), (1, vI (m9 : Int)), (2, vI (i : Int)), (3, vI (j : Int))] [] n (xup F 68 (aZ 10000 (xui rr (100 * N i + N j) 1))) := by
        intro hy
        refine xw_iinc dX10_findKnots_178 rfl (by decide) ?_
        refine xw_goto (tgt := 124) dX10_findKnots_181 (by decide) ?_
        exact xw_ls [(0, vR 38), (1, vI (m9 : Int)), (2, vI (i : Int)), (3, vI ((j + 1 : Nat) : Int))] ⟨rfl, rfl, rfl, rfl, trivial⟩ (ih (j + 1) i m9 _ m1 (by omega) hi hm9 (gR_up (t := 2) (N := 10000) (k := 68) hG (by decide) (by decide) (by decide)) m49 (onF_fr hon rfl) (bmF_fr hb rfl) him (bmF_st hN hgn hi (by omega) hr9 rfl (Or.inr ⟨rfl, Or.inl ⟨Or.inr ⟨rfl, by omega⟩, Or.inr ⟨hy, him⟩⟩⟩) (fun a b _ _ e => old e)) K)
      refine xw_iload_n dX10_findKnots_124 rfl ?_
      refine xw_aload_n dX10_findKnots_125 rfl ?_
      refine xw_getfield dX10_findKnots_126 fl_X10_285 h38 rfl ?_
      refine xw_topi (sz : Int) m49 ?_
      refine xw_icmpge (tgt := 184) dX10_findKnots_129 (by decide) (by first | assumption | (unfold inI; omega) | (unfold inI at *; omega)) (by first | assumption | (unfold inI; omega) | (unfold inI at *; omega)) (fun c_129 => ?_) (fun c_129 => ?_)
      · skip
        exfalso; omega
      · skip
        refine xw_aload_n dX10_findKnots_132 rfl ?_
        refine xw_getfield dX10_findKnots_133 fl_X10_106 h38 rfl ?_
        refine xw_bipush (z := 100) dX10_findKnots_136 (by decide) ?_
        refine xw_aload_n dX10_findKnots_138 rfl ?_
        refine xw_getfield dX10_findKnots_139 fl_X10_112 h38 rfl ?_
        refine xw_iload_n dX10_findKnots_142 rfl ?_
        refine xw_iald dX10_findKnots_143 h70 (j := m9) rfl (by omega) (by decide) ?_
        refine xw_topi (N m9 : Int) (hon9 m9 hm9) ?_
        refine xw_imul dX10_findKnots_144 ?_
        refine xw_aload_n dX10_findKnots_145 rfl ?_
        refine xw_getfield dX10_findKnots_146 fl_X10_112 h38 rfl ?_
        refine xw_iload_n dX10_findKnots_149 rfl ?_
        refine xw_iald dX10_findKnots_150 h70 (j := j) rfl (by omega) (by decide) ?_
        refine xw_topi (N j : Int) (hon9 j (by omega)) ?_
        refine xw_iadd dX10_findKnots_151 ?_
        refine xw_zald dX10_findKnots_152 h68 (j := 100 * N m9 + N j) (by omega) (by omega) (by decide) ?_
        refine xw_ifeq (tgt := 178) dX10_findKnots_153 (by decide) (by first | assumption | (unfold inI; omega) | (unfold inI at *; omega)) (fun c_153 => ?_) (fun c_153 => ?_)
        · skip
          first
            | exact xw_ls [(0, vR 38), (1, vI (m9 : Int)), (2, vI (i : Int)), (3, vI (j : Int))] ⟨rfl, rfl, rfl, rfl, trivial⟩ (no (by rcases q1 with ⟨_, x1⟩ | ⟨x1, _⟩; exact x1; exact absurd c_153 (by omega)))
            | exact xw_ls [(0, vR 38), (1, vI (m9 : Int)), (2, vI (i : Int)), (3, vI (j : Int))] ⟨rfl, rfl, rfl, rfl, trivial⟩ (yes (by rcases q1 with ⟨x1, _⟩ | ⟨_, x1⟩; exact absurd x1 c_153; exact x1))
        · skip
          refine xw_aload_n dX10_findKnots_156 rfl ?_
          refine xw_getfield dX10_findKnots_157 fl_X10_106 h38 rfl ?_
          refine xw_bipush (z := 100) dX10_findKnots_160 (by decide) ?_
          refine xw_aload_n dX10_findKnots_162 rfl ?_
          refine xw_getfield dX10_findKnots_163 fl_X10_112 h38 rfl ?_
          refine xw_iload_n dX10_findKnots_166 rfl ?_
          refine xw_iald dX10_findKnots_167 h70 (j := i) rfl (by omega) (by decide) ?_
          refine xw_topi (N i : Int) (hon9 i hi) ?_
          refine xw_imul dX10_findKnots_168 ?_
          refine xw_aload_n dX10_findKnots_169 rfl ?_
          refine xw_getfield dX10_findKnots_170 fl_X10_112 h38 rfl ?_
          refine xw_iload_n dX10_findKnots_173 rfl ?_
          refine xw_iald dX10_findKnots_174 h70 (j := j) rfl (by omega) (by decide) ?_
          refine xw_topi (N j : Int) (hon9 j (by omega)) ?_
          refine xw_iadd dX10_findKnots_175 ?_
          refine xw_iconst dX10_findKnots_176 ?_
          refine xw_zast dX10_findKnots_177 h68 (j := 100 * N i + N j) (by omega) (by omega) (by decide) rfl ?_
          first
            | exact xw_ls [(0, vR 38), (1, vI (m9 : Int)), (2, vI (i : Int)), (3, vI (j : Int))] ⟨rfl, rfl, rfl, rfl, trivial⟩ (no (by rcases q1 with ⟨_, x1⟩ | ⟨x1, _⟩; exact x1; exact absurd c_153 (by omega)))
            | exact xw_ls [(0, vR 38), (1, vI (m9 : Int)), (2, vI (i : Int)), (3, vI (j : Int))] ⟨rfl, rfl, rfl, rfl, trivial⟩ (yes (by rcases q1 with ⟨x1, _⟩ | ⟨_, x1⟩; exact absurd x1 c_153; exact x1))
  have W2 : ∀ (t i m9 : Nat) (F : xH) (m1 : Nat → Int), i + t = sz → m9 < sz → gR f F m m1 → m1 49 = (sz : Int) → onF F sz N → bmF F 67 sz N B → bmF F 68 sz N (wS (fun a b => WP av m9 a b) (fun a b => WP av (m9 + 1) a b) i 0) → (∀ (F2 : xH) (m2 : Nat → Int), gR f F2 m m2 → m2 49 = (sz : Int) → onF F2 sz N → bmF F2 67 sz N B → bmF F2 68 sz N (fun a b => WP av (m9 + 1) a b) → xw g M_X10_findKnots Q 0 0 80 [(0, vR 38), (1, vI ((m9 + 1 : Nat) : Int))] [] n F2) → xw g M_X10_findKnots Q 0 0 90 [(0, vR 38), (1, vI (m9 : Int)), (2, vI (i : Int))] [] n F := by
    intro t
    induction t with
    | zero =>
      intro i m9 F m1 hi hm9 hG m49 hon hb hr K
      have h38 := hG.2.1
      refine xw_iload_n dX10_findKnots_90 rfl ?_
      refine xw_aload_n dX10_findKnots_91 rfl ?_
      refine xw_getfield dX10_findKnots_92 fl_X10_285 h38 rfl ?_
      refine xw_topi (sz : Int) m49 ?_
      refine xw_icmpge (tgt := 190) dX10_findKnots_95 (by decide) (by first | assumption | (unfold inI; omega) | (unfold inI at *; omega)) (by first | assumption | (unfold inI; omega) | (unfold inI at *; omega)) (fun c_95 => ?_) (fun c_95 => ?_)
      · skip
        refine xw_iinc dX10_findKnots_190 rfl (by decide) ?_
        refine xw_goto (tgt := 80) dX10_findKnots_193 (by decide) ?_
        exact xw_ls [(0, vR 38), (1, vI ((m9 + 1 : Nat) : Int))] ⟨rfl, rfl, trivial⟩ (K F m1 hG m49 hon hb (bmF_cg hr (fun a b ha hb => by
          unfold wS
          constructor
          · intro x; exact Or.inl ⟨Or.inl (by omega), x⟩
          · rintro (⟨_, x⟩ | ⟨x, _⟩)
            · exact x
            · omega)))
      · skip
        exfalso; omega
    | succ t ih =>
      intro i m9 F m1 hi hm9 hG m49 hon hb hr K
      have h38 := hG.2.1
      obtain ⟨on, h70, hon9⟩ := id hon
      obtain ⟨rr, h68, hr9⟩ := id hr
      have ni := hN.2 i (by omega)
      have nm := hN.2 m9 hm9
      have q1 := hr9 i m9 (by omega) hm9
      have e1 : wS (fun a b => WP av m9 a b) (fun a b => WP av (m9 + 1) a b) i 0 i m9 ↔ WP av m9 i m9 := by
        unfold wS
        constructor
        · rintro (⟨x, _⟩ | ⟨_, x⟩)
          · omega
          · exact x
        · intro x; exact Or.inr ⟨by omega, x⟩
      rw [e1] at q1
      have no : ¬ WP av m9 i m9 → xw g M_X10_findKnots Q 0 0 184 [(0, vR 38), (1, vI (m9 : Int)), (2, vI (i : Int))] [] n F := by
        intro hn
        refine xw_iinc dX10_findKnots_184 rfl (by decide) ?_
        refine xw_goto (tgt := 90) dX10_findKnots_187 (by decide) ?_
        exact xw_ls [(0, vR 38), (1, vI (m9 : Int)), (2, vI ((i + 1 : Nat) : Int))] ⟨rfl, rfl, rfl, trivial⟩ (ih (i + 1) m9 F m1 (by omega) hm9 hG m49 hon hb (bmF_cg hr (fun a b ha hb => by
          unfold wS
          by_cases e : a = i
          · subst e
            constructor
            · rintro (⟨_, x⟩ | ⟨x, _⟩)
              · refine Or.inr ⟨by omega, ?_⟩
                rcases x with x | x
                · exact x
                · exact absurd x.2 hn
              · omega
            · rintro (⟨x, _⟩ | ⟨_, x⟩)
              · omega
              · exact Or.inl ⟨by omega, Or.inl x⟩
          · have e2 : (a < i + 1 ∨ (a = i + 1 ∧ b < 0)) ↔ (a < i ∨ (a = i ∧ b < 0)) := by omega
            rw [e2])) K)
      refine xw_iload_n dX10_findKnots_90 rfl ?_
      refine xw_aload_n dX10_findKnots_91 rfl ?_
      refine xw_getfield dX10_findKnots_92 fl_X10_285 h38 rfl ?_
      refine xw_topi (sz : Int) m49 ?_
      refine xw_icmpge (tgt := 190) dX10_findKnots_95 (by decide) (by first | assumption | (unfold inI; omega) | (unfold inI at *; omega)) (by first | assumption | (unfold inI; omega) | (unfold inI at *; omega)) (fun c_95 => ?_) (fun c_95 => ?_)
      · skip
        exfalso; omega
      · skip
        refine xw_aload_n dX10_findKnots_98 rfl ?_
        refine xw_getfield dX10_findKnots_99 fl_X10_106 h38 rfl ?_
        refine xw_bipush (z := 100) dX10_findKnots_102 (by decide) ?_
        refine xw_aload_n dX10_findKnots_104 rfl ?_
        refine xw_getfield dX10_findKnots_105 fl_X10_112 h38 rfl ?_
        refine xw_iload_n dX10_findKnots_108 rfl ?_
        refine xw_iald dX10_findKnots_109 h70 (j := i) rfl (by omega) (by decide) ?_
        refine xw_topi (N i : Int) (hon9 i (by omega)) ?_
        refine xw_imul dX10_findKnots_110 ?_
        refine xw_aload_n dX10_findKnots_111 rfl ?_
        refine xw_getfield dX10_findKnots_112 fl_X10_112 h38 rfl ?_
        refine xw_iload_n dX10_findKnots_115 rfl ?_
        refine xw_iald dX10_findKnots_116 h70 (j := m9) rfl (by omega) (by decide) ?_
        refine xw_topi (N m9 : Int) (hon9 m9 hm9) ?_
        refine xw_iadd dX10_findKnots_117 ?_
        refine xw_zald dX10_findKnots_118 h68 (j := 100 * N i + N m9) (by omega) (by omega) (by decide) ?_
        refine xw_ifeq (tgt := 184) dX10_findKnots_119 (by decide) (by first | assumption | (unfold inI; omega) | (unfold inI at *; omega)) (fun c_119 => ?_) (fun c_119 => ?_)
        · skip
          exact xw_ls [(0, vR 38), (1, vI (m9 : Int)), (2, vI (i : Int))] ⟨rfl, rfl, rfl, trivial⟩ (no (by rcases q1 with ⟨_, x1⟩ | ⟨x1, _⟩; exact x1; exact absurd c_119 (by omega)))
        · skip
          refine xw_iconst dX10_findKnots_122 ?_
          refine xw_istore_n dX10_findKnots_123 (by decide) ?_
          exact xw_ls [(0, vR 38), (1, vI (m9 : Int)), (2, vI (i : Int)), (3, vI ((0 : Nat) : Int))] ⟨rfl, rfl, rfl, rfl, trivial⟩ (W3 sz 0 i m9 F m1 (by omega) (by omega) hm9 hG m49 hon hb (by rcases q1 with ⟨x1, _⟩ | ⟨_, x1⟩; exact absurd x1 c_119; exact x1) hr (fun F2 m2 a1 a2 a3 a4 a5 => ih (i + 1) m9 F2 m2 (by omega) hm9 a1 a2 a3 a4 a5 K))
  have W1 : ∀ (t m9 : Nat) (F : xH) (m1 : Nat → Int), m9 + t = sz → gR f F m m1 → m1 49 = (sz : Int) → onF F sz N → bmF F 67 sz N B → bmF F 68 sz N (fun a b => WP av m9 a b) → xw g M_X10_findKnots Q 0 0 80 [(0, vR 38), (1, vI (m9 : Int))] [] n F := by
    intro t
    induction t with
    | zero =>
      intro m9 F m1 hm9 hG m49 hon hb hr
      have h38 := hG.2.1
      obtain rfl : m9 = sz := by omega
      obtain ⟨ko, h72⟩ := msh_at hG.2.2.2 (k := 72) (t := 0) (N := 101) (by decide)
      refine xw_iload_n dX10_findKnots_80 rfl ?_
      refine xw_aload_n dX10_findKnots_81 rfl ?_
      refine xw_getfield dX10_findKnots_82 fl_X10_285 h38 rfl ?_
      refine xw_topi (m9 : Int) m49 ?_
      refine xw_icmpge (tgt := 196) dX10_findKnots_85 (by decide) (by first | assumption | (unfold inI; omega) | (unfold inI at *; omega)) (by first | assumption | (unfold inI; omega) | (unfold inI at *; omega)) (fun c_85 => ?_) (fun c_85 => ?_)
      · skip
        refine xw_aload_n dX10_findKnots_196 rfl ?_
        refine xw_iconst dX10_findKnots_197 ?_
        refine xw_putfield dX10_findKnots_198 (fp_X10_294 _) h38 rfl rfl ?_
        rw [xmd_50]
        refine xw_iconst dX10_findKnots_201 ?_
        refine xw_istore_n dX10_findKnots_202 (by decide) ?_
        exact xw_ls [(0, vR 38), (1, vI ((0 : Nat) : Int))] ⟨rfl, rfl, trivial⟩ (K0 m9 0 _ _ ko (by omega) (gR_38 (k := 50) hG (by unfold grk; omega)) ((xui_n _ _ (by decide)).trans m49) (onF_fr hon rfl) (bmF_fr hb rfl) (by rw [hR]; exact bmF_fr hr rfl) rfl h72 (fun i' hi' => absurd hi' (Nat.not_lt_zero _)))
      · skip
        exfalso; omega
    | succ t ih =>
      intro m9 F m1 hm9 hG m49 hon hb hr
      have h38 := hG.2.1
      refine xw_iload_n dX10_findKnots_80 rfl ?_
      refine xw_aload_n dX10_findKnots_81 rfl ?_
      refine xw_getfield dX10_findKnots_82 fl_X10_285 h38 rfl ?_
      refine xw_topi (sz : Int) m49 ?_
      refine xw_icmpge (tgt := 196) dX10_findKnots_85 (by decide) (by first | assumption | (unfold inI; omega) | (unfold inI at *; omega)) (by first | assumption | (unfold inI; omega) | (unfold inI at *; omega)) (fun c_85 => ?_) (fun c_85 => ?_)
      · skip
        exfalso; omega
      · skip
        refine xw_iconst dX10_findKnots_88 ?_
        refine xw_istore_n dX10_findKnots_89 (by decide) ?_
        exact xw_ls [(0, vR 38), (1, vI (m9 : Int)), (2, vI ((0 : Nat) : Int))] ⟨rfl, rfl, rfl, trivial⟩ (W2 sz 0 m9 F m1 (by omega) (by omega) hG m49 hon hb (bmF_cg hr (fun a b ha hb => by
          unfold wS
          constructor
          · rintro (⟨x, _⟩ | ⟨_, x⟩)
            · omega
            · exact x
          · intro x; exact Or.inr ⟨by omega, x⟩)) (fun F2 m2 a1 a2 a3 a4 a5 => ih (m9 + 1) F2 m2 (by omega) a1 a2 a3 a4 a5))
  -- the copy
  have C2 : ∀ (t j i : Nat) (F : xH) (m1 rr : Nat → Int), j + t = sz → i < sz → gR f F m m1 → m1 49 = (sz : Int) → onF F sz N → bmF F 67 sz N B → F 68 = some (aZ 10000 rr) → (∀ a b, a < sz → b < sz → (a < i ∨ (a = i ∧ b < j)) → (rr (100 * N a + N b) = 0 ∧ ¬ B a b) ∨ (rr (100 * N a + N b) = 1 ∧ B a b)) → (∀ (F2 : xH) (m2 rr2 : Nat → Int), gR f F2 m m2 → m2 49 = (sz : Int) → onF F2 sz N → bmF F2 67 sz N B → F2 68 = some (aZ 10000 rr2) → (∀ a b, a < sz → b < sz → a < i + 1 → (rr2 (100 * N a + N b) = 0 ∧ ¬ B a b) ∨ (rr2 (100 * N a + N b) = 1 ∧ B a b)) → xw g M_X10_findKnots Q 0 0 6 [(0, vR 38), (1, vI ((i + 1 : Nat) : Int))] [] n F2) → xw g M_X10_findKnots Q 0 0 16 [(0, vR 38), (1, vI (i : Int)), (2, vI (j : Int))] [] n F := by
    intro t
    induction t with
    | zero =>
      intro j i F m1 rr hj hi hG m49 hon hb h68 hr K
      have h38 := hG.2.1
      refine xw_iload_n dX10_findKnots_16 rfl ?_
      refine xw_aload_n dX10_findKnots_17 rfl ?_
      refine xw_getfield dX10_findKnots_18 fl_X10_285 h38 rfl ?_
      refine xw_topi (sz : Int) m49 ?_
      refine xw_icmpge (tgt := 72) dX10_findKnots_21 (by decide) (by first | assumption | (unfold inI; omega) | (unfold inI at *; omega)) (by first | assumption | (unfold inI; omega) | (unfold inI at *; omega)) (fun c_21 => ?_) (fun c_21 => ?_)
      · skip
        refine xw_iinc dX10_findKnots_72 rfl (by decide) ?_
        refine xw_goto (tgt := 6) dX10_findKnots_75 (by decide) ?_
        exact xw_ls [(0, vR 38), (1, vI ((i + 1 : Nat) : Int))] ⟨rfl, rfl, trivial⟩ (K F m1 rr hG m49 hon hb h68 (fun a b ha hb c => hr a b ha hb (by omega)))
      · skip
        exfalso; omega
    | succ t ih =>
      intro j i F m1 rr hj hi hG m49 hon hb h68 hr K
      have h38 := hG.2.1
      obtain ⟨on, h70, hon9⟩ := id hon
      obtain ⟨br, h67, hb9⟩ := id hb
      have ni := hN.2 i hi
      have nj := hN.2 j (by omega)
      have q1 := hb9 i j hi (by omega)
      have nar9 : ∀ x : Int, (x = 0 ∨ x = 1) → (if x % 2 = 0 then (0 : Int) else 1) = x := fun x hx => by rcases hx with rfl | rfl <;> rfl
      have step : ∀ x : Int, ((x = 0 ∧ ¬ B i j) ∨ (x = 1 ∧ B i j)) → xw g M_X10_findKnots Q 0 0 66 [(0, vR 38), (1, vI (i : Int)), (2, vI (j : Int))] [] n (xup F 68 (aZ 10000 (xui rr (100 * N i + N j) x))) := by
        intro x hx
        refine xw_iinc dX10_findKnots_66 rfl (by decide) ?_
        refine xw_goto (tgt := 16) dX10_findKnots_69 (by decide) ?_
        exact xw_ls [(0, vR 38), (1, vI (i : Int)), (2, vI ((j + 1 : Nat) : Int))] ⟨rfl, rfl, rfl, trivial⟩ (ih (j + 1) i _ m1 _ (by omega) hi (gR_up (t := 2) (N := 10000) (k := 68) hG (by decide) (by decide) (by decide)) m49 (onF_fr hon rfl) (bmF_fr hb rfl) rfl (fun a b ha hb c => by
            by_cases e : a = i ∧ b = j
            · obtain ⟨rfl, rfl⟩ := e
              rw [xui_s]; exact hx
            · have na := hN.2 a ha
              have nb9 := hN.2 b hb
              have e2 : 100 * N a + N b ≠ 100 * N i + N j := fun q => e ⟨onO_inj hN ha hi (by omega), onO_inj hN hb (by omega) (by omega)⟩
              rw [xui_n _ _ e2]
              exact hr a b ha hb (by omega)) K)
      refine xw_iload_n dX10_findKnots_16 rfl ?_
      refine xw_aload_n dX10_findKnots_17 rfl ?_
      refine xw_getfield dX10_findKnots_18 fl_X10_285 h38 rfl ?_
      refine xw_topi (sz : Int) m49 ?_
      refine xw_icmpge (tgt := 72) dX10_findKnots_21 (by decide) (by first | assumption | (unfold inI; omega) | (unfold inI at *; omega)) (by first | assumption | (unfold inI; omega) | (unfold inI at *; omega)) (fun c_21 => ?_) (fun c_21 => ?_)
      · skip
        exfalso; omega
      · skip
        refine xw_aload_n dX10_findKnots_24 rfl ?_
        refine xw_getfield dX10_findKnots_25 fl_X10_106 h38 rfl ?_
        refine xw_bipush (z := 100) dX10_findKnots_28 (by decide) ?_
        refine xw_aload_n dX10_findKnots_30 rfl ?_
        refine xw_getfield dX10_findKnots_31 fl_X10_112 h38 rfl ?_
        refine xw_iload_n dX10_findKnots_34 rfl ?_
        refine xw_iald dX10_findKnots_35 h70 (j := i) rfl (by omega) (by decide) ?_
        refine xw_topi (N i : Int) (hon9 i hi) ?_
        refine xw_imul dX10_findKnots_36 ?_
        refine xw_aload_n dX10_findKnots_37 rfl ?_
        refine xw_getfield dX10_findKnots_38 fl_X10_112 h38 rfl ?_
        refine xw_iload_n dX10_findKnots_41 rfl ?_
        refine xw_iald dX10_findKnots_42 h70 (j := j) rfl (by omega) (by decide) ?_
        refine xw_topi (N j : Int) (hon9 j (by omega)) ?_
        refine xw_iadd dX10_findKnots_43 ?_
        refine xw_aload_n dX10_findKnots_44 rfl ?_
        refine xw_getfield dX10_findKnots_45 fl_X10_103 h38 rfl ?_
        refine xw_bipush (z := 100) dX10_findKnots_48 (by decide) ?_
        refine xw_aload_n dX10_findKnots_50 rfl ?_
        refine xw_getfield dX10_findKnots_51 fl_X10_112 h38 rfl ?_
        refine xw_iload_n dX10_findKnots_54 rfl ?_
        refine xw_iald dX10_findKnots_55 h70 (j := i) rfl (by omega) (by decide) ?_
        refine xw_topi (N i : Int) (hon9 i hi) ?_
        refine xw_imul dX10_findKnots_56 ?_
        refine xw_aload_n dX10_findKnots_57 rfl ?_
        refine xw_getfield dX10_findKnots_58 fl_X10_112 h38 rfl ?_
        refine xw_iload_n dX10_findKnots_61 rfl ?_
        refine xw_iald dX10_findKnots_62 h70 (j := j) rfl (by omega) (by decide) ?_
        refine xw_topi (N j : Int) (hon9 j (by omega)) ?_
        refine xw_iadd dX10_findKnots_63 ?_
        refine xw_zald dX10_findKnots_64 h67 (j := 100 * N i + N j) (by omega) (by omega) (by decide) ?_
        rcases q1 with ⟨x1, x2⟩ | ⟨x1, x2⟩
        · rw [x1]
          refine xw_zast dX10_findKnots_65 h68 (j := 100 * N i + N j) (by omega) (by omega) (by decide) rfl ?_
          exact xw_ls [(0, vR 38), (1, vI (i : Int)), (2, vI (j : Int))] ⟨rfl, rfl, rfl, trivial⟩ (step 0 (Or.inl ⟨rfl, x2⟩))
        · rw [x1]
          refine xw_zast dX10_findKnots_65 h68 (j := 100 * N i + N j) (by omega) (by omega) (by decide) rfl ?_
          exact xw_ls [(0, vR 38), (1, vI (i : Int)), (2, vI (j : Int))] ⟨rfl, rfl, rfl, trivial⟩ (step 1 (Or.inr ⟨rfl, x2⟩))
  have C1 : ∀ (t i : Nat) (F : xH) (m1 rr : Nat → Int), i + t = sz → gR f F m m1 → m1 49 = (sz : Int) → onF F sz N → bmF F 67 sz N B → F 68 = some (aZ 10000 rr) → (∀ a b, a < sz → b < sz → a < i → (rr (100 * N a + N b) = 0 ∧ ¬ B a b) ∨ (rr (100 * N a + N b) = 1 ∧ B a b)) → xw g M_X10_findKnots Q 0 0 6 [(0, vR 38), (1, vI (i : Int))] [] n F := by
    intro t
    induction t with
    | zero =>
      intro i F m1 rr hi hG m49 hon hb h68 hr
      have h38 := hG.2.1
      refine xw_iload_n dX10_findKnots_6 rfl ?_
      refine xw_aload_n dX10_findKnots_7 rfl ?_
      refine xw_getfield dX10_findKnots_8 fl_X10_285 h38 rfl ?_
      refine xw_topi (sz : Int) m49 ?_
      refine xw_icmpge (tgt := 78) dX10_findKnots_11 (by decide) (by first | assumption | (unfold inI; omega) | (unfold inI at *; omega)) (by first | assumption | (unfold inI; omega) | (unfold inI at *; omega)) (fun c_11 => ?_) (fun c_11 => ?_)
      · skip
        refine xw_iconst dX10_findKnots_78 ?_
        refine xw_istore_n dX10_findKnots_79 (by decide) ?_
        exact xw_ls [(0, vR 38), (1, vI ((0 : Nat) : Int))] ⟨rfl, rfl, trivial⟩ (W1 sz 0 F m1 (by omega) hG m49 hon hb (bmF_cg (R := B) ⟨rr, h68, fun a b ha hb => hr a b ha hb (by omega)⟩ (fun a b ha hb => by
          show (av b).testBit a = true ↔ B a b
          rw [hav b a hb]
          exact ⟨fun x => x.2, fun x => ⟨ha, x⟩⟩)))
      · skip
        exfalso; omega
    | succ t ih =>
      intro i F m1 rr hi hG m49 hon hb h68 hr
      have h38 := hG.2.1
      refine xw_iload_n dX10_findKnots_6 rfl ?_
      refine xw_aload_n dX10_findKnots_7 rfl ?_
      refine xw_getfield dX10_findKnots_8 fl_X10_285 h38 rfl ?_
      refine xw_topi (sz : Int) m49 ?_
      refine xw_icmpge (tgt := 78) dX10_findKnots_11 (by decide) (by first | assumption | (unfold inI; omega) | (unfold inI at *; omega)) (by first | assumption | (unfold inI; omega) | (unfold inI at *; omega)) (fun c_11 => ?_) (fun c_11 => ?_)
      · skip
        exfalso; omega
      · skip
        refine xw_iconst dX10_findKnots_14 ?_
        refine xw_istore_n dX10_findKnots_15 (by decide) ?_
        exact xw_ls [(0, vR 38), (1, vI (i : Int)), (2, vI ((0 : Nat) : Int))] ⟨rfl, rfl, rfl, trivial⟩ (C2 sz 0 i F m1 rr (by omega) (by omega) hG m49 hon hb h68 (fun a b ha hb c => hr a b ha hb (by omega)) (fun F2 m2 rr2 a1 a2 a3 a4 a5 a6 => ih (i + 1) F2 m2 rr2 (by omega) a1 a2 a3 a4 a5 a6))
  refine xw_aload_n dX10_findKnots_0 rfl ?_
  refine xw_callV (rc := 0) (rs := 0) (mc2 := 0) (ms2 := 0) (a := 38) (As := []) (st := []) dX10_findKnots_1 mv_X10_288 h.1 rfl rfl (by decide) (by decide) (Nat.le_of_ble_eq_true rfl) rfl (ct_findBars h hsh hN h40 (fun F1 m1 hG m49 hon hb => ?_))
  obtain ⟨rr, h68⟩ := msh_at hG.2.2.2 (k := 68) (t := 2) (N := 10000) (by decide)
  refine xw_iconst dX10_findKnots_4 ?_
  refine xw_istore_n dX10_findKnots_5 (by decide) ?_
  exact xw_ls [(0, vR 38), (1, vI ((0 : Nat) : Int))] ⟨rfl, rfl, trivial⟩ (C1 sz 0 F1 m1 rr (by omega) hG m49 hon (by rw [hB]; exact hb) h68 (fun a b ha hb c => absurd c (Nat.not_lt_zero _)))
end C9a
