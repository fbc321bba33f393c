/-! the model: print -/
theorem dgE_1 {a t : Nat} (ht : t < 12) (h : dgE 12 a = t + dgE (12 - t) (a / 10 ^ t)) (h9 : a / 10 ^ t < 10) : dgE 12 a = t := by
  obtain ⟨k, hk⟩ : ∃ k, 12 - t = k + 1 := ⟨11 - t, by omega⟩
  have e : dgE (k + 1) (a / 10 ^ t) = 0 := if_pos h9
  rw [hk, e] at h
  omega
theorem dgE_2 {a t : Nat} (ht : t < 12) (h : dgE 12 a = t + dgE (12 - t) (a / 10 ^ t)) (h9 : ¬ a / 10 ^ t < 10) : dgE 12 a = (t + 1) + dgE (12 - (t + 1)) (a / 10 ^ (t + 1)) := by
  obtain ⟨k, hk⟩ : ∃ k, 12 - t = k + 1 := ⟨11 - t, by omega⟩
  have e9 : dgE (k + 1) (a / 10 ^ t) = dgE k (a / 10 ^ t / 10) + 1 := if_neg h9
  rw [hk, e9] at h
  have e : 12 - (t + 1) = k := by omega
  rw [e, Nat.pow_succ, ← Nat.div_div_eq_div_mul]
  omega
theorem p10_le {t : Nat} (h : t ≤ 11) : 10 ^ t ≤ 100000000000 := Nat.le_trans (Nat.pow_le_pow_right (by decide) h) (by decide)
theorem p10_pos (t : Nat) : 0 < 10 ^ t := Nat.pow_pos (by decide)
def pgF (f F : xH) (m m1 : Nat → Int) : Prop := fr [38, 66] f F ∧ F 38 = some (oMd m1) ∧ ∀ k, k ≠ 42 → m1 k = m k
section C95a
variable {g : xG} {y : xM} {Q : xP} {n : Nat} {f : xH}
set_option maxHeartbeats 4000000 in
theorem ct_sayWhole {m c : Nat → Int} {a P0 : Nat} (g38 : f 38 = some (oMd m)) (g66 : f 66 = some (aI 100 c)) (hp : m 42 = (P0 : Int)) (ha : a < 100000000000) (hP : P0 ≤ 60) (hq : ∀ F m1, pgF f F m m1 → m1 42 = ((P0 + dgE 12 a + 1 : Nat) : Int) → F 66 = some (aI 100 (dws a (dgE 12 a + 1) P0 c)) → Q (.inl none) n F) : xct g M_X10_sayWhole 0 0 [vR 38, vL (a : Int)] n f Q := by
  refine xct_of rfl rfl (Nat.le_of_ble_eq_true rfl) ?_
  obtain ⟨TT, hTT⟩ : ∃ t, t = dgE 12 a := ⟨_, rfl⟩
  rw [← hTT] at hq
  have Z : ∀ F m1, pgF f F m m1 → m1 42 = ((P0 + TT + 1 : Nat) : Int) → F 66 = some (aI 100 (dws a (TT + 1) P0 c)) → xw g M_X10_sayWhole Q 0 0 24 [(0, vR 38), (1, vL (a : Int)), (5, vL 0)] [] n F := by
    intro F m1 q1 q2 q3
    refine xw_lload dX10_sayWhole_24 rfl ?_
    refine xw_lconst (z := 0) dX10_sayWhole_26 (by decide) ?_
    refine xw_lcmple (tgt := 73) dX10_sayWhole_27 dX10_sayWhole_28 (by decide) (by first | assumption | (unfold inL; omega) | (unfold inL at *; omega)) (by first | assumption | (unfold inL; omega) | (unfold inL at *; omega)) (fun c_27 => ?_) (fun c_27 => ?_)
    · skip
      exact xw_vret dX10_sayWhole_73 rfl (hq F m1 q1 q2 q3)
    · skip
      exfalso; omega
  have L2 : TT ≤ 11 → ∀ (i s : Nat) (F : xH) (m1 c1 : Nat → Int), s + i = P0 + TT → i ≤ 11 → pgF f F m m1 → m1 42 = (s : Int) → F 66 = some (aI 100 c1) → dws a (i + 1) s c1 = dws a (TT + 1) P0 c → xw g M_X10_sayWhole Q 0 0 24 [(0, vR 38), (1, vL (a : Int)), (5, vL ((10 ^ i : Nat) : Int))] [] n F := by
    intro hT i
    induction i with
    | zero =>
      intro s F m1 c1 hs hi hF e42 h66 hd
      have h38 := hF.2.1
      refine xw_lload dX10_sayWhole_24 rfl ?_
      refine xw_lconst (z := 0) dX10_sayWhole_26 (by decide) ?_
      refine xw_lcmple (tgt := 73) dX10_sayWhole_27 dX10_sayWhole_28 (by decide) (natL (by decide)) (by unfold inL; omega) (fun c_27 => ?_) (fun c_27 => ?_)
      · skip
        exfalso; omega
      · skip
        refine xw_aload_n dX10_sayWhole_31 rfl ?_
        refine xw_getfield dX10_sayWhole_32 fl_X10_100 h38 rfl ?_
        refine xw_aload_n dX10_sayWhole_35 rfl ?_
        refine xw_getfield dX10_sayWhole_36 fl_X10_278 h38 rfl ?_
        refine xw_topi (s : Int) e42 ?_
        refine xw_bipush (z := 48) dX10_sayWhole_39 (by decide) ?_
        refine xw_lload_n dX10_sayWhole_41 rfl ?_
        refine xw_lload dX10_sayWhole_42 rfl ?_
        refine xw_ldiv dX10_sayWhole_44 (natL (by omega)) (natL (by decide)) (by decide) ?_
        refine xw_topl ((a / 10 ^ 0 : Nat) : Int) (Int.ofNat_tdiv _ _).symm ?_
        refine xw_ldc2 (z := 10) dX10_sayWhole_45 kl_X10_276 (by decide) ?_
        refine xw_lrem dX10_sayWhole_48 (natL (Nat.le_trans (Nat.div_le_self _ _) (by omega))) (by unfold inL; omega) (by decide) ?_
        refine xw_topl ((a / 10 ^ 0 % 10 : Nat) : Int) (Int.ofNat_tmod _ _).symm ?_
        refine xw_l2i dX10_sayWhole_49 ?_
        refine xw_iadd dX10_sayWhole_50 ?_
        refine xw_topi ((48 + a / 10 ^ 0 % 10 : Nat) : Int) (Int.natCast_add 48 _).symm ?_
        refine xw_iast dX10_sayWhole_51 h66 (j := s) rfl (by omega) (by decide) ?_
        refine xw_aload_n dX10_sayWhole_52 rfl ?_
        refine xw_dup dX10_sayWhole_53 rfl ?_
        refine xw_getfield dX10_sayWhole_54 fl_X10_278 h38 rfl ?_
        refine xw_topi (s : Int) e42 ?_
        refine xw_iconst dX10_sayWhole_57 ?_
        refine xw_iadd dX10_sayWhole_58 ?_
        refine xw_topi ((s + 1 : Nat) : Int) (by omega) ?_
        refine xw_putfield dX10_sayWhole_59 (fp_X10_278 _) h38 rfl rfl ?_
        rw [xmd_42]
        refine xw_lload dX10_sayWhole_62 rfl ?_
        refine xw_ldc2 (z := 10) dX10_sayWhole_64 kl_X10_276 (by decide) ?_
        refine xw_ldiv dX10_sayWhole_67 (natL (by decide)) (by unfold inL; omega) (by decide) ?_
        refine xw_topl 0 (by decide) ?_
        refine xw_lstore dX10_sayWhole_68 (by decide) ?_
        refine xw_goto (tgt := 24) dX10_sayWhole_70 (by decide) ?_
        exact xw_ls [(0, vR 38), (1, vL (a : Int)), (5, vL 0)] ⟨rfl, rfl, rfl, trivial⟩ (Z _ _ ⟨fr_up (fr_up hF.1 (by decide)) (by decide), rfl, fun k hk => (xui_n _ _ hk).trans (hF.2.2 k hk)⟩ (by rw [xui_s]; omega) (by rw [← hd]; rfl))
    | succ i ih =>
      intro s F m1 c1 hs hi hF e42 h66 hd
      have h38 := hF.2.1
      have b1 := p10_le hi
      have b2 := p10_pos (i + 1)
      refine xw_lload dX10_sayWhole_24 rfl ?_
      refine xw_lconst (z := 0) dX10_sayWhole_26 (by decide) ?_
      refine xw_lcmple (tgt := 73) dX10_sayWhole_27 dX10_sayWhole_28 (by decide) (natL (by omega)) (by unfold inL; omega) (fun c_27 => ?_) (fun c_27 => ?_)
      · skip
        exfalso; omega
      · skip
        refine xw_aload_n dX10_sayWhole_31 rfl ?_
        refine xw_getfield dX10_sayWhole_32 fl_X10_100 h38 rfl ?_
        refine xw_aload_n dX10_sayWhole_35 rfl ?_
        refine xw_getfield dX10_sayWhole_36 fl_X10_278 h38 rfl ?_
        refine xw_topi (s : Int) e42 ?_
        refine xw_bipush (z := 48) dX10_sayWhole_39 (by decide) ?_
        refine xw_lload_n dX10_sayWhole_41 rfl ?_
        refine xw_lload dX10_sayWhole_42 rfl ?_
        refine xw_ldiv dX10_sayWhole_44 (natL (by omega)) (natL (by omega)) (by omega) ?_
        refine xw_topl ((a / 10 ^ (i + 1) : Nat) : Int) (Int.ofNat_tdiv _ _).symm ?_
        refine xw_ldc2 (z := 10) dX10_sayWhole_45 kl_X10_276 (by decide) ?_
        refine xw_lrem dX10_sayWhole_48 (natL (Nat.le_trans (Nat.div_le_self _ _) (by omega))) (by unfold inL; omega) (by decide) ?_
        refine xw_topl ((a / 10 ^ (i + 1) % 10 : Nat) : Int) (Int.ofNat_tmod _ _).symm ?_
        refine xw_l2i dX10_sayWhole_49 ?_
        refine xw_iadd dX10_sayWhole_50 ?_
        refine xw_topi ((48 + a / 10 ^ (i + 1) % 10 : Nat) : Int) (Int.natCast_add 48 _).symm ?_
        refine xw_iast dX10_sayWhole_51 h66 (j := s) rfl (by omega) (by decide) ?_
        refine xw_aload_n dX10_sayWhole_52 rfl ?_
        refine xw_dup dX10_sayWhole_53 rfl ?_
        refine xw_getfield dX10_sayWhole_54 fl_X10_278 h38 rfl ?_
        refine xw_topi (s : Int) e42 ?_
        refine xw_iconst dX10_sayWhole_57 ?_
        refine xw_iadd dX10_sayWhole_58 ?_
        refine xw_topi ((s + 1 : Nat) : Int) (by omega) ?_
        refine xw_putfield dX10_sayWhole_59 (fp_X10_278 _) h38 rfl rfl ?_
        rw [xmd_42]
        refine xw_lload dX10_sayWhole_62 rfl ?_
        refine xw_ldc2 (z := 10) dX10_sayWhole_64 kl_X10_276 (by decide) ?_
        refine xw_ldiv dX10_sayWhole_67 (natL (by omega)) (by unfold inL; omega) (by decide) ?_
        refine xw_topl ((10 ^ i : Nat) : Int) (by show ((10 ^ (i + 1) : Nat) : Int).tdiv ((10 : Nat) : Int) = _; rw [← Int.ofNat_tdiv, Nat.pow_succ, Nat.mul_div_cancel _ (by decide)]) ?_
        refine xw_lstore dX10_sayWhole_68 (by decide) ?_
        refine xw_goto (tgt := 24) dX10_sayWhole_70 (by decide) ?_
        exact xw_ls [(0, vR 38), (1, vL (a : Int)), (5, vL ((10 ^ i : Nat) : Int))] ⟨rfl, rfl, rfl, trivial⟩ (ih (s + 1) _ _ _ (by omega) (by omega) ⟨fr_up (fr_up hF.1 (by decide)) (by decide), rfl, fun k hk => (xui_n _ _ hk).trans (hF.2.2 k hk)⟩ (xui_s _ _ _) rfl (by rw [← hd]; rfl))
  have L1 : ∀ (j t : Nat), t + j = 11 → dgE 12 a = t + dgE (12 - t) (a / 10 ^ t) → xw g M_X10_sayWhole Q 0 0 2 [(0, vR 38), (1, vL (a : Int)), (3, vL ((10 ^ t : Nat) : Int))] [] n f := by
    intro j
    induction j with
    | zero =>
      intro t ht hd
      obtain rfl : t = 11 := by omega
      have e0 : a / 10 ^ 11 = 0 := Nat.div_eq_of_lt (by omega)
      refine xw_lload_n dX10_sayWhole_2 rfl ?_
      refine xw_lload_n dX10_sayWhole_3 rfl ?_
      refine xw_ldiv dX10_sayWhole_4 (natL (by omega)) (natL (by decide)) (by decide) ?_
      refine xw_topl ((a / 10 ^ 11 : Nat) : Int) (Int.ofNat_tdiv _ _).symm ?_
      refine xw_ldc2 (z := 9) dX10_sayWhole_5 kl_X10_274 (by decide) ?_
      refine xw_lcmple (tgt := 21) dX10_sayWhole_8 dX10_sayWhole_9 (by decide) (by rw [e0]; unfold inL; omega) (by unfold inL; omega) (fun c_8 => ?_) (fun c_8 => ?_)
      · skip
        refine xw_lload_n dX10_sayWhole_21 rfl ?_
        refine xw_lstore dX10_sayWhole_22 (by decide) ?_
        exact xw_ls [(0, vR 38), (1, vL (a : Int)), (5, vL ((10 ^ 11 : Nat) : Int))] ⟨rfl, rfl, rfl, trivial⟩ (by
          have e9 : TT = 11 := by rw [hTT]; exact dgE_1 (by decide) hd (by omega)
          exact L2 (by omega) 11 P0 f m c (by omega) (by omega) ⟨fr_rf _ _, g38, fun _ _ => rfl⟩ hp g66 (by rw [e9]))
      · skip
        exfalso; omega
    | succ j ih =>
      intro t ht hd
      have b1 := p10_le (t := t) (by omega)
      have b2 := p10_pos t
      have b3 := p10_le (t := t + 1) (by omega)
      refine xw_lload_n dX10_sayWhole_2 rfl ?_
      refine xw_lload_n dX10_sayWhole_3 rfl ?_
      refine xw_ldiv dX10_sayWhole_4 (natL (by omega)) (natL (by omega)) (by omega) ?_
      refine xw_topl ((a / 10 ^ t : Nat) : Int) (Int.ofNat_tdiv _ _).symm ?_
      refine xw_ldc2 (z := 9) dX10_sayWhole_5 kl_X10_274 (by decide) ?_
      refine xw_lcmple (tgt := 21) dX10_sayWhole_8 dX10_sayWhole_9 (by decide) (natL (Nat.le_trans (Nat.div_le_self _ _) (by omega))) (by unfold inL; omega) (fun c_8 => ?_) (fun c_8 => ?_)
      · skip
        refine xw_lload_n dX10_sayWhole_21 rfl ?_
        refine xw_lstore dX10_sayWhole_22 (by decide) ?_
        exact xw_ls [(0, vR 38), (1, vL (a : Int)), (5, vL ((10 ^ t : Nat) : Int))] ⟨rfl, rfl, rfl, trivial⟩ (by
          have e9 : TT = t := by rw [hTT]; exact dgE_1 (by omega) hd (by omega)
          exact L2 (by omega) t P0 f m c (by omega) (by omega) ⟨fr_rf _ _, g38, fun _ _ => rfl⟩ hp g66 (by rw [e9]))
      · skip
        refine xw_lload_n dX10_sayWhole_12 rfl ?_
        refine xw_ldc2 (z := 10) dX10_sayWhole_13 kl_X10_276 (by decide) ?_
        refine xw_lmul dX10_sayWhole_16 ?_
        refine xw_topl ((10 ^ (t + 1) : Nat) : Int) (by rw [Nat.pow_succ, Int.natCast_mul]; rfl) ?_
        refine xw_lstore_n dX10_sayWhole_17 (by decide) ?_
        refine xw_goto (tgt := 2) dX10_sayWhole_18 (by decide) ?_
        exact xw_ls [(0, vR 38), (1, vL (a : Int)), (3, vL ((10 ^ (t + 1) : Nat) : Int))] ⟨rfl, rfl, rfl, trivial⟩ (ih (t + 1) (by omega) (dgE_2 (by omega) hd (fun k => by omega)))
  refine xw_lconst (z := 1) dX10_sayWhole_0 (by decide) ?_
  refine xw_lstore_n dX10_sayWhole_1 (by decide) ?_
  exact xw_ls [(0, vR 38), (1, vL (a : Int)), (3, vL ((10 ^ 0 : Nat) : Int))] ⟨rfl, rfl, rfl, trivial⟩ (L1 11 0 (by omega) (by rw [Nat.pow_zero, Nat.div_one, Nat.zero_add]))
end C95a
section C95
variable {g : xG} {y : xM} {Q : xP} {n : Nat} {f : xH} {th : Int} {bn : Nat} {β : Nat → xBx} {gn : Nat} {σ : Nat → xSt} {d : Nat → Int} {as : List xAc} {ps : Nat} {pb : Nat → Int} {pu : Nat} {pr : Nat → Int}
theorem MS_pg {f1 : xH} {m m1 c : Nat → Int} {ps1 : Nat} {pb1 : Nat → Int} (h : MS f th bn β gn σ d as ps pb pu pr) (hm : mfd m th bn gn σ d as ps pu) (hf : pgF f f1 m m1) (h42 : m1 42 = (ps1 : Int)) (h66 : f1 66 = some (aI 100 c)) (hp1 : ps1 ≤ 40) (hp2 : ∀ j, j < ps1 → c j = pb1 j) : MS f1 th bn β gn σ d as ps1 pb1 pu pr ∧ kC f f1 := by
  obtain ⟨m9, h38, hm9, hbx, hst, hac, hpg, hpr, hsh, h40, hd1, hd2⟩ := h
  obtain ⟨a1, a2, a3, a4, a5, a6, a7, a8, a9, a10⟩ := hm
  have c3 := hf.2.2
  have fk : ∀ k, k ≠ 38 → k ≠ 66 → f1 k = f k := fun k q1 q2 => hf.1 k (by simp only [List.mem_cons, List.not_mem_nil, or_false]; omega)
  refine ⟨⟨m1, hf.2.1, ⟨(c3 0 (by omega)).trans a1, (c3 1 (by omega)).trans a2, (c3 6 (by omega)).trans a3, (c3 7 (by omega)).trans a4, (c3 13 (by omega)).trans a5, (c3 14 (by omega)).trans a6, (c3 15 (by omega)).trans a7, (c3 23 (by omega)).trans a8, h42, (c3 60 (by omega)).trans a10⟩, mbx_fr hbx (fun k a b => fk k (by omega) (by omega)), mst_fr hst (fun k a b => fk k (by omega) (by omega)), mac_fr hac (fun k a b => fk k (by omega) (by omega)), ⟨c, h66, hp1, hp2⟩, mpr_fr hpr (fk 77 (by omega) (by omega)), ?_, h40, hd1, hd2⟩, fun k q => fk k (by omega) (by omega)⟩
  intro p hp
  obtain ⟨c1, h1⟩ := hsh p hp
  have key : ∀ p ∈ shL, p.1 ≠ 38 ∧ p.1 ≠ 66 := by decide
  exact ⟨c1, (fk _ (key p hp).1 (key p hp).2).trans h1⟩
set_option maxHeartbeats 4000000 in
theorem mct_print {a k w : Int} (h : MS f th bn β gn σ d as ps pb pu pr) (ha : inI a) (hk : inI k) (hw9 : inI w)
    (h0 : ∀ (s : Nat) f1, a = (s : Int) → s < gn → hrS (σ s) = 1 → MS f1 0 bn β gn σ d as ps pb pu pr → kC f f1 → ¬ ((0 ≤ k ∧ k < ((mlist d gn σ s).1 : Int)) ∧ (w = 0 ∨ w = 1)) → Q (.inl (some (vI (-1)))) n f1)
    (h1 : ∀ (s : Nat) f1 (c : xC7) (t : Int) (b : Nat) (pb0 : Nat → Int) (r : Nat × (Nat → Int)), a = (s : Int) → s < gn → hrS (σ s) = 1 → (0 ≤ k ∧ k < ((mlist d gn σ s).1 : Int)) → c = (mlist d gn σ s).2 k.toNat → okW c → (w = 0 ∧ t = c.2.2.2.1 ∧ (b : Int) = c.2.2.2.2.1) ∨ (w = 1 ∧ t = c.2.2.2.2.2.1 ∧ (b : Int) = c.2.2.2.2.2.2) → r = frac (decide (t < 0)) (t.natAbs / Nat.gcd t.natAbs b) (b / Nat.gcd t.natAbs b) pb0 → (∀ pb1 : Nat → Int, (∀ j, j < r.1 → r.2 j = pb1 j) → MS f1 0 bn β gn σ d as r.1 pb1 pu pr) → kC f f1 → Q (.inl (some (vI (r.1 : Int)))) n f1)
    (hx1 : ¬ hre gn σ a → ∀ f1, MS f1 1 bn β gn σ d as ps pb pu pr → kC f f1 → Q (.inl (some (vI 0))) n f1) : xct g M_X10_print 0 0 [vR 38, vI a, vI k, vI w] n f Q := by
  refine xct_of rfl rfl (Nat.le_of_ble_eq_true rfl) ?_
  have S : ∀ F, MS F 0 bn β gn σ d as ps pb pu pr → kC f F → xw g M_X10_print Q 0 0 5 [(0, vR 38), (1, vI a), (2, vI k), (3, vI w)] [] n F := by
    intro F hF kF
    obtain ⟨m, hm, hE⟩ := MS_E hF
    obtain ⟨h38, m6, _, hst, _⟩ := id hE
    have m0 : m 0 = 0 := hm.1
    have T9 := MS_th 1 hF h38 hm
    have hsh : msh F := hF.choose_spec.2.2.2.2.2.2.2.1
    have h40 : hc σ gn ≤ 40 := hF.choose_spec.2.2.2.2.2.2.2.2.1
    -- a fraction
    have P : ∀ (s : Nat) (F2 : xH) (m2 : Nat → Int) (c : xC7) (t : Int) (b : Nat), a = (s : Int) → s < gn → hrS (σ s) = 1 → MS F2 0 bn β gn σ d as ps pb pu pr → F2 38 = some (oMd m2) → mfd m2 0 bn gn σ d as ps pu → kC f F2 → (0 ≤ k ∧ k < ((mlist d gn σ s).1 : Int)) → c = (mlist d gn σ s).2 k.toNat → okW c → (w = 0 ∧ t = c.2.2.2.1 ∧ (b : Int) = c.2.2.2.2.1) ∨ (w = 1 ∧ t = c.2.2.2.2.2.1 ∧ (b : Int) = c.2.2.2.2.2.2) → t.natAbs < 100000000000 → 0 < b → b < 100000000000 → xw g M_X10_print Q 0 0 85 [(0, vR 38), (4, vL t), (6, vL (b : Int))] [] n F2 := by
      intro s F2 m2 c t b e1 e2 e3 hM q38 hm2 k2 hkr hc9 hok hw tb b0 bb
      obtain ⟨c0, h66, _⟩ : ∃ c0, F2 66 = some (aI 100 c0) ∧ True := by
        obtain ⟨_, _, _, _, _, _, ⟨c0, q, _⟩, _⟩ := hM
        exact ⟨c0, q, trivial⟩
      obtain ⟨G, hG⟩ : ∃ G, G = Nat.gcd t.natAbs b := ⟨_, rfl⟩
      have hG0 : 0 < G := by rw [hG]; exact Nat.gcd_pos_of_pos_right _ b0
      have hGd : G ≤ b := by rw [hG]; exact Nat.gcd_le_right _ b0
      have hal : t.natAbs / G ≤ t.natAbs := Nat.div_le_self _ _
      have hdl : b / G ≤ b := Nat.div_le_self _ _
      obtain ⟨R, hR⟩ : ∃ R, R = frac (decide (t < 0)) (t.natAbs / G) (b / G) c0 := ⟨_, rfl⟩
      have hEa := dgE_le 12 (t.natAbs / G) (by omega)
      have hEb := dgE_le 12 (b / G) (by omega)
      have Fin : ∀ (F3 : xH) (m3 : Nat → Int), pgF F2 F3 m2 m3 → m3 42 = (R.1 : Int) → F3 66 = some (aI 100 R.2) → R.1 ≤ 40 → Q (.inl (some (vI (R.1 : Int)))) n F3 := by
        intro F3 m3 q1 q2 q3 q4
        refine h1 s F3 c t b c0 R e1 e2 e3 hkr hc9 hok hw (by rw [hR, hG]) (fun pb1 hpb => (MS_pg hM hm2 q1 q2 q3 q4 hpb).1) (kC_tr k2 (MS_pg hM hm2 q1 q2 q3 q4 (pb1 := R.2) (fun _ _ => rfl)).2)
      have T : ∀ (F3 : xH) (m3 : Nat → Int) (p : Nat × (Nat → Int)), p = fr0 (decide (t < 0)) c0 → p.1 ≤ 1 → pgF F2 F3 m2 m3 → m3 42 = (p.1 : Int) → F3 66 = some (aI 100 p.2) → xw g M_X10_print Q 0 0 136 [(0, vR 38), (6, vL (b : Int)), (8, vL (t.natAbs : Int)), (10, vL (G : Int))] [] n F3 := by
        intro F3 m3 p hp hp1 q1 q2 q3
        refine xw_aload_n dX10_print_136 rfl ?_
        refine xw_lload dX10_print_137 rfl ?_
        refine xw_lload dX10_print_139 rfl ?_
        refine xw_ldiv dX10_print_141 (natL (by omega)) (natL (by omega)) (by omega) ?_
        refine xw_topl ((t.natAbs / G : Nat) : Int) (Int.ofNat_tdiv _ _).symm ?_
        refine xw_callV (rc := 0) (rs := 0) (mc2 := 0) (ms2 := 0) (a := 38) (As := [vL ((t.natAbs / G : Nat) : Int)]) (st := []) dX10_print_142 mv_X10_281 q1.2.1 rfl rfl (by decide) (by decide) (Nat.le_of_ble_eq_true rfl) rfl (ct_sayWhole q1.2.1 q3 q2 (by omega) (by omega) (fun F4 m4 r1 r2 r3 => ?_))
        refine xw_lload dX10_print_145 rfl ?_
        refine xw_lload dX10_print_147 rfl ?_
        refine xw_lcmpne (tgt := 158) dX10_print_149 dX10_print_150 (by decide) (natL (by omega)) (natL (by omega)) (fun c_149 => ?_) (fun c_149 => ?_)
        · skip
          refine xw_aload_n dX10_print_158 rfl ?_
          refine xw_getfield dX10_print_159 fl_X10_100 r1.2.1 rfl ?_
          refine xw_aload_n dX10_print_162 rfl ?_
          refine xw_getfield dX10_print_163 fl_X10_278 r1.2.1 rfl ?_
          refine xw_topi ((p.1 + dgE 12 (t.natAbs / G) + 1 : Nat) : Int) r2 ?_
          refine xw_bipush (z := 47) dX10_print_166 (by decide) ?_
          refine xw_iast dX10_print_168 r3 (j := p.1 + dgE 12 (t.natAbs / G) + 1) rfl (by omega) (by decide) ?_
          refine xw_aload_n dX10_print_169 rfl ?_
          refine xw_dup dX10_print_170 rfl ?_
          refine xw_getfield dX10_print_171 fl_X10_278 r1.2.1 rfl ?_
          refine xw_topi ((p.1 + dgE 12 (t.natAbs / G) + 1 : Nat) : Int) r2 ?_
          refine xw_iconst dX10_print_174 ?_
          refine xw_iadd dX10_print_175 ?_
          refine xw_topi ((p.1 + dgE 12 (t.natAbs / G) + 1 + 1 : Nat) : Int) (by omega) ?_
          refine xw_putfield dX10_print_176 (fp_X10_278 _) r1.2.1 rfl rfl ?_
          rw [xmd_42]
          refine xw_aload_n dX10_print_179 rfl ?_
          refine xw_lload dX10_print_180 rfl ?_
          refine xw_lload dX10_print_182 rfl ?_
          refine xw_ldiv dX10_print_184 (natL (by omega)) (natL (by omega)) (by omega) ?_
          refine xw_topl ((b / G : Nat) : Int) (Int.ofNat_tdiv _ _).symm ?_
          refine xw_callV (rc := 0) (rs := 0) (mc2 := 0) (ms2 := 0) (a := 38) (As := [vL ((b / G : Nat) : Int)]) (st := []) dX10_print_185 mv_X10_281 rfl rfl rfl (by decide) (by decide) (Nat.le_of_ble_eq_true rfl) rfl (ct_sayWhole (P0 := p.1 + dgE 12 (t.natAbs / G) + 1 + 1) rfl rfl (xui_s _ _ _) (by omega) (by omega) (fun F5 m5 r4 r5 r6 => ?_))
          have e9 : b / G ≠ 1 := by
            intro e8
            have e7 : G * (b / G) = b := Nat.mul_div_cancel' (by rw [hG]; exact Nat.gcd_dvd_right _ _)
            rw [e8, Nat.mul_one] at e7
            omega
          have eR : R = fr1 (b / G) ((fr1 (t.natAbs / G) p).1 + 1, xui (fr1 (t.natAbs / G) p).2 (fr1 (t.natAbs / G) p).1 47) := by rw [hR]; unfold frac fr2; rw [if_neg e9, ← hp]
          have eR1 : R.1 = p.1 + dgE 12 (t.natAbs / G) + 1 + 1 + dgE 12 (b / G) + 1 := by rw [eR]; rfl
          refine xw_aload_n dX10_print_188 rfl ?_
          refine xw_getfield dX10_print_189 fl_X10_278 r4.2.1 rfl ?_
          refine xw_topi (R.1 : Int) (by rw [eR1]; exact r5) ?_
          exact xw_iret dX10_print_192 rfl (Fin F5 m5 ⟨fr_tr q1.1 (fr_tr r1.1 (fr_tr (fr_up (fr_up (fr_rf _ _) (by decide)) (by decide)) r4.1)), r4.2.1, fun k hk => (r4.2.2 k hk).trans ((xui_n _ _ hk).trans ((r1.2.2 k hk).trans (q1.2.2 k hk)))⟩ (by rw [eR1]; exact r5) (by rw [eR]; exact r6) (by omega))
        · skip
          refine xw_aload_n dX10_print_153 rfl ?_
          refine xw_getfield dX10_print_154 fl_X10_278 r1.2.1 rfl ?_
          refine xw_topi (R.1 : Int) (by
            rw [hR]; unfold frac fr2
            rw [if_pos (by have e9 : b = G := by omega
                           rw [e9]; exact Nat.div_self hG0), ← hp]
            exact r2) ?_
          exact xw_iret dX10_print_157 rfl (by
            have e9 : b / G = 1 := by
              have e8 : b = G := by omega
              rw [e8]; exact Nat.div_self hG0
            have eR : R = fr1 (t.natAbs / G) p := by rw [hR]; unfold frac fr2; rw [if_pos e9, ← hp]
            have eR1 : R.1 = p.1 + dgE 12 (t.natAbs / G) + 1 := by rw [eR]; rfl
            exact Fin F4 m4 ⟨fr_tr q1.1 r1.1, r1.2.1, fun k hk => (r1.2.2 k hk).trans (q1.2.2 k hk)⟩ (by rw [eR1]; exact r2) (by rw [eR]; exact r3) (by omega))
      have E : xw g M_X10_print Q 0 0 102 [(0, vR 38), (4, vL t), (6, vL (b : Int)), (8, vL (t.natAbs : Int))] [] n F2 := by
        refine xw_lload dX10_print_102 rfl ?_
        refine xw_lload dX10_print_104 rfl ?_
        refine xw_callS (rc := 0) (rs := 0) (mc2 := 0) (ms2 := 0) (As := [vL (t.natAbs : Int), vL (b : Int)]) (st := []) dX10_print_106 ms_X10_243 rfl (by decide) (by decide) (Nat.le_of_ble_eq_true rfl) rfl (ct_mgcd (by omega) (by omega) ?_)
        rw [← hG]
        refine xw_lstore dX10_print_109 (by decide) ?_
        refine xw_aload_n dX10_print_111 rfl ?_
        refine xw_iconst dX10_print_112 ?_
        refine xw_putfield dX10_print_113 (fp_X10_278 _) q38 rfl rfl ?_
        rw [xmd_42]
        refine xw_lload dX10_print_116 rfl ?_
        refine xw_lconst (z := 0) dX10_print_118 (by decide) ?_
        refine xw_lcmpge (tgt := 136) dX10_print_119 dX10_print_120 (by decide) (by unfold inL; omega) (by unfold inL; omega) (fun c_119 => ?_) (fun c_119 => ?_)
        · skip
          first
            | exact xw_ls [(0, vR 38), (6, vL (b : Int)), (8, vL (t.natAbs : Int)), (10, vL (G : Int))] ⟨rfl, rfl, rfl, rfl, trivial⟩ (T _ (xui m2 42 0) (0, c0) (by unfold fr0; rw [decide_eq_false (by omega)]; rfl) (Nat.zero_le 1) ⟨fr_up (fr_rf _ _) (by decide), rfl, fun k hk => xui_n _ _ hk⟩ rfl h66)
            | exact xw_ls [(0, vR 38), (6, vL (b : Int)), (8, vL (t.natAbs : Int)), (10, vL (G : Int))] ⟨rfl, rfl, rfl, rfl, trivial⟩ (T _ (xui (xui m2 42 0) 42 1) (1, xui c0 0 45) (by unfold fr0; rw [decide_eq_true (by omega)]; rfl) (Nat.le_refl 1) ⟨fr_up (fr_up (fr_rf _ _) (by decide)) (by decide), rfl, fun k hk => (xui_n _ _ hk).trans (xui_n _ _ hk)⟩ rfl rfl)
        · skip
          refine xw_aload_n dX10_print_123 rfl ?_
          refine xw_getfield dX10_print_124 fl_X10_100 rfl rfl ?_
          refine xw_iconst dX10_print_127 ?_
          refine xw_bipush (z := 45) dX10_print_128 (by decide) ?_
          refine xw_iast dX10_print_130 h66 (j := 0) rfl (by decide) (by decide) ?_
          refine xw_aload_n dX10_print_131 rfl ?_
          refine xw_iconst dX10_print_132 ?_
          refine xw_putfield dX10_print_133 (fp_X10_278 _) rfl rfl rfl ?_
          rw [xmd_42]
          rw [xup_comm _ _ _ (by decide), xup_up]
          first
            | exact xw_ls [(0, vR 38), (6, vL (b : Int)), (8, vL (t.natAbs : Int)), (10, vL (G : Int))] ⟨rfl, rfl, rfl, rfl, trivial⟩ (T _ (xui m2 42 0) (0, c0) (by unfold fr0; rw [decide_eq_false (by omega)]; rfl) (Nat.zero_le 1) ⟨fr_up (fr_rf _ _) (by decide), rfl, fun k hk => xui_n _ _ hk⟩ rfl h66)
            | exact xw_ls [(0, vR 38), (6, vL (b : Int)), (8, vL (t.natAbs : Int)), (10, vL (G : Int))] ⟨rfl, rfl, rfl, rfl, trivial⟩ (T _ (xui (xui m2 42 0) 42 1) (1, xui c0 0 45) (by unfold fr0; rw [decide_eq_true (by omega)]; rfl) (Nat.le_refl 1) ⟨fr_up (fr_up (fr_rf _ _) (by decide)) (by decide), rfl, fun k hk => (xui_n _ _ hk).trans (xui_n _ _ hk)⟩ rfl rfl)
      have E8 : ∀ z : Int, z = (t.natAbs : Int) → xw g M_X10_print Q 0 0 100 [(0, vR 38), (4, vL t), (6, vL (b : Int))] [vL z] n F2 := by
        intro z hz
        subst hz
        refine xw_lstore dX10_print_100 (by decide) ?_
        exact xw_ls [(0, vR 38), (4, vL t), (6, vL (b : Int)), (8, vL (t.natAbs : Int))] ⟨rfl, rfl, rfl, rfl, trivial⟩ E
      refine xw_lload dX10_print_85 rfl ?_
      refine xw_lconst (z := 0) dX10_print_87 (by decide) ?_
      refine xw_lcmpge (tgt := 98) dX10_print_88 dX10_print_89 (by decide) (by unfold inL; omega) (by unfold inL; omega) (fun c_88 => ?_) (fun c_88 => ?_)
      · skip
        refine xw_lload dX10_print_98 rfl ?_
        first
          | exact xw_ls [(0, vR 38), (4, vL t), (6, vL (b : Int))] ⟨rfl, rfl, rfl, trivial⟩ (E8 (-t) (by omega))
          | exact xw_ls [(0, vR 38), (4, vL t), (6, vL (b : Int))] ⟨rfl, rfl, rfl, trivial⟩ (E8 t (by omega))
      · skip
        refine xw_lload dX10_print_92 rfl ?_
        refine xw_lneg dX10_print_94 ?_
        refine xw_goto (tgt := 100) dX10_print_95 (by decide) ?_
        first
          | exact xw_ls [(0, vR 38), (4, vL t), (6, vL (b : Int))] ⟨rfl, rfl, rfl, trivial⟩ (E8 (-t) (by omega))
          | exact xw_ls [(0, vR 38), (4, vL t), (6, vL (b : Int))] ⟨rfl, rfl, rfl, trivial⟩ (E8 t (by omega))
    have D : ∀ (s : Nat) (F2 : xH) (m2 : Nat → Int), a = (s : Int) → s < gn → hrS (σ s) = 1 → fcI F F2 m m2 (mlist d gn σ s) → (mlist d gn σ s).1 ≤ 160 → (0 ≤ k ∧ k < ((mlist d gn σ s).1 : Int)) → (w = 0 ∨ w = 1) → xw g M_X10_print Q 0 0 43 [(0, vR 38), (2, vI k), (3, vI w)] [] n F2 := by
      intro s F2 m2 e1 e2 e3 c1 c2 hkr hw
      have hM := MS_fc hF hm c1
      obtain ⟨⟨d1, d38, d3, d4⟩, ⟨A1, B1, C1, D1, E1, G1, H1, k59, k60, k61, k62, k63, k64, k65, hj⟩, m40, hok⟩ := id c1
      have hJ := hj k.toNat (by omega)
      have hO := hok k.toNat (by omega)
      obtain ⟨c, hc9⟩ : ∃ c, c = (mlist d gn σ s).2 k.toNat := ⟨_, rfl⟩
      rw [← hc9] at hJ hO
      have PP := P s F2 m2 c
      have o1 := hO.2.1
      have o2 := hO.2.2.1
      have o3 := hO.2.2.2.1
      have o4 := hO.2.2.2.2
      rw [← hJ] at o1 o2 o3 o4
      unfold nb at o2 o3 o4
      have o1' : 0 ≤ D1 k.toNat ∧ D1 k.toNat ≤ E1 k.toNat := o1
      have o2' : 0 < E1 k.toNat ∧ (E1 k.toNat).natAbs ≤ 2400000000 := o2
      have o3' : (G1 k.toNat).natAbs ≤ 48000000000 := o3
      have o4' : 0 < H1 k.toNat ∧ (H1 k.toNat).natAbs ≤ 2400000000 := o4
      rcases hw with rfl | rfl
      · skip
        refine xw_iload_n dX10_print_43 rfl ?_
        refine xw_ifne (tgt := 56) dX10_print_44 (by decide) (by first | assumption | (unfold inI; omega) | (unfold inI at *; omega)) (fun c_44 => ?_) (fun c_44 => ?_)
        · skip
          exfalso; omega
        · skip
          refine xw_aload_n dX10_print_47 rfl ?_
          refine xw_getfield dX10_print_48 fl_X10_88 d38 rfl ?_
          refine xw_iload_n dX10_print_51 rfl ?_
          refine xw_lald dX10_print_52 k62 (j := k.toNat) (by omega) (by omega) (by decide) ?_
          refine xw_goto (tgt := 62) dX10_print_53 (by decide) ?_
          refine xw_lstore dX10_print_62 (by decide) ?_
          refine xw_iload_n dX10_print_64 rfl ?_
          refine xw_ifne (tgt := 77) dX10_print_65 (by decide) (by first | assumption | (unfold inI; omega) | (unfold inI at *; omega)) (fun c_65 => ?_) (fun c_65 => ?_)
          · skip
            exfalso; omega
          · skip
            refine xw_aload_n dX10_print_68 rfl ?_
            refine xw_getfield dX10_print_69 fl_X10_91 d38 rfl ?_
            refine xw_iload_n dX10_print_72 rfl ?_
            refine xw_lald dX10_print_73 k63 (j := k.toNat) (by omega) (by omega) (by decide) ?_
            refine xw_goto (tgt := 83) dX10_print_74 (by decide) ?_
            refine xw_topl (((E1 k.toNat).toNat : Nat) : Int) (by omega) ?_
            refine xw_lstore dX10_print_83 (by decide) ?_
            exact xw_ls [(0, vR 38), (4, vL (D1 k.toNat)), (6, vL (((E1 k.toNat).toNat : Nat) : Int))] ⟨rfl, rfl, rfl, trivial⟩ (PP (D1 k.toNat) (E1 k.toNat).toNat e1 e2 e3 hM.1 d38 hM.2.2 (kC_tr kF hM.2.1) hkr hc9 hO (Or.inl ⟨rfl, by rw [← hJ]; rfl, by rw [← hJ]; show _ = E1 k.toNat; omega⟩) (by omega) (by omega) (by omega))
      · skip
        refine xw_iload_n dX10_print_43 rfl ?_
        refine xw_ifne (tgt := 56) dX10_print_44 (by decide) (by first | assumption | (unfold inI; omega) | (unfold inI at *; omega)) (fun c_44 => ?_) (fun c_44 => ?_)
        · skip
          refine xw_aload_n dX10_print_56 rfl ?_
          refine xw_getfield dX10_print_57 fl_X10_94 d38 rfl ?_
          refine xw_iload_n dX10_print_60 rfl ?_
          refine xw_lald dX10_print_61 k64 (j := k.toNat) (by omega) (by omega) (by decide) ?_
          refine xw_lstore dX10_print_62 (by decide) ?_
          refine xw_iload_n dX10_print_64 rfl ?_
          refine xw_ifne (tgt := 77) dX10_print_65 (by decide) (by first | assumption | (unfold inI; omega) | (unfold inI at *; omega)) (fun c_65 => ?_) (fun c_65 => ?_)
          · skip
            refine xw_aload_n dX10_print_77 rfl ?_
            refine xw_getfield dX10_print_78 fl_X10_97 d38 rfl ?_
            refine xw_iload_n dX10_print_81 rfl ?_
            refine xw_lald dX10_print_82 k65 (j := k.toNat) (by omega) (by omega) (by decide) ?_
            refine xw_topl (((H1 k.toNat).toNat : Nat) : Int) (by omega) ?_
            refine xw_lstore dX10_print_83 (by decide) ?_
            exact xw_ls [(0, vR 38), (4, vL (G1 k.toNat)), (6, vL (((H1 k.toNat).toNat : Nat) : Int))] ⟨rfl, rfl, rfl, trivial⟩ (PP (G1 k.toNat) (H1 k.toNat).toNat e1 e2 e3 hM.1 d38 hM.2.2 (kC_tr kF hM.2.1) hkr hc9 hO (Or.inr ⟨rfl, by rw [← hJ]; rfl, by rw [← hJ]; show _ = H1 k.toNat; omega⟩) (by omega) (by omega) (by omega))
          · skip
            exfalso; omega
        · skip
          exfalso; omega
    refine xw_aload_n dX10_print_5 rfl ?_
    refine xw_iload_n dX10_print_6 rfl ?_
    refine xw_callV (rc := 0) (rs := 0) (mc2 := 0) (ms2 := 0) (a := 38) (As := [vI a]) (st := []) dX10_print_7 mv_X10_213 h38 rfl rfl (by decide) (by decide) (Nat.le_of_ble_eq_true rfl) rfl (ct_isThere h38 m0 m6 hst ha (fun s e1 e2 e3 => ?_) (fun q1 => ?_))
    · skip
      refine xw_ifne (tgt := 15) dX10_print_10 (by decide) (by unfold inI; omega) (fun _ => ?_) (fun c => absurd c (by decide))
      refine xw_aload_n dX10_print_15 rfl ?_
      subst e1
      refine xw_iload_n dX10_print_16 rfl ?_
      refine xw_callV (rc := 0) (rs := 0) (mc2 := 0) (ms2 := 0) (a := 38) (As := [vI (s : Int)]) (st := []) dX10_print_17 mv_X10_271 h38 rfl rfl (by decide) (by decide) (Nat.le_of_ble_eq_true rfl) rfl (ct_findC hE e2 h40 (msh_cl hsh) (fun F2 m2 c1 c2 => ?_))
      refine xw_iload_n dX10_print_20 rfl ?_
      refine xw_iflt (tgt := 41) dX10_print_21 (by decide) (by first | assumption | (unfold inI; omega) | (unfold inI at *; omega)) (fun c_21 => ?_) (fun c_21 => ?_)
      · skip
        refine xw_iconst dX10_print_41 ?_
        exact xw_iret dX10_print_42 rfl (h0 s F2 rfl e2 e3 (MS_fc hF hm c1).1 (kC_tr kF (MS_fc hF hm c1).2.1) (by omega))
      · skip
        refine xw_iload_n dX10_print_24 rfl ?_
        refine xw_aload_n dX10_print_25 rfl ?_
        refine xw_getfield dX10_print_26 fl_X10_264 c1.1.2.1 rfl ?_
        refine xw_topi _ c1.2.2.1 ?_
        refine xw_icmpge (tgt := 41) dX10_print_29 (by decide) (by first | assumption | (unfold inI; omega) | (unfold inI at *; omega)) (by first | assumption | (unfold inI; omega) | (unfold inI at *; omega)) (fun c_29 => ?_) (fun c_29 => ?_)
        · skip
          refine xw_iconst dX10_print_41 ?_
          exact xw_iret dX10_print_42 rfl (h0 s F2 rfl e2 e3 (MS_fc hF hm c1).1 (kC_tr kF (MS_fc hF hm c1).2.1) (by omega))
        · skip
          refine xw_iload_n dX10_print_32 rfl ?_
          refine xw_iflt (tgt := 41) dX10_print_33 (by decide) (by first | assumption | (unfold inI; omega) | (unfold inI at *; omega)) (fun c_33 => ?_) (fun c_33 => ?_)
          · skip
            refine xw_iconst dX10_print_41 ?_
            exact xw_iret dX10_print_42 rfl (h0 s F2 rfl e2 e3 (MS_fc hF hm c1).1 (kC_tr kF (MS_fc hF hm c1).2.1) (by omega))
          · skip
            refine xw_iload_n dX10_print_36 rfl ?_
            refine xw_iconst dX10_print_37 ?_
            refine xw_icmple (tgt := 43) dX10_print_38 (by decide) (by first | assumption | (unfold inI; omega) | (unfold inI at *; omega)) (by first | assumption | (unfold inI; omega) | (unfold inI at *; omega)) (fun c_38 => ?_) (fun c_38 => ?_)
            · skip
              exact xw_ls [(0, vR 38), (2, vI k), (3, vI w)] ⟨rfl, rfl, rfl, trivial⟩ (D s F2 m2 rfl e2 e3 c1 c2 (by omega) (by omega))
            · skip
              refine xw_iconst dX10_print_41 ?_
              exact xw_iret dX10_print_42 rfl (h0 s F2 rfl e2 e3 (MS_fc hF hm c1).1 (kC_tr kF (MS_fc hF hm c1).2.1) (by omega))
    · skip
      refine xw_ifne (tgt := 15) dX10_print_10 (by decide) (by unfold inI; omega) (fun c => absurd c (by decide)) (fun _ => ?_)
      refine xw_iconst dX10_print_13 ?_
      exact xw_iret dX10_print_14 rfl (hx1 q1 _ T9.1 (kC_tr kF T9.2))
  obtain ⟨m, h38, hm, _⟩ := id h
  refine xw_aload_n dX10_print_0 rfl ?_
  refine xw_iconst dX10_print_1 ?_
  refine xw_putfield dX10_print_2 (fp_X10_1 _) h38 rfl rfl ?_
  rw [xmd_0]
  exact S _ (MS_th 0 h h38 hm).1 (MS_th 0 h h38 hm).2
end C95
