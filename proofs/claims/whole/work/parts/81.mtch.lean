/-! the two ways of telling whether pieces touch agree -/
theorem prt_iff {D S a n : Int} (hS : 0 < S) (hn : n ≠ 0) (h : D * n = a * S) : prt D S ↔ prtM a n := by
  unfold prt prtM
  rcases Int.lt_or_gt_of_ne hn with q | q
  · -- n < 0
    have e1 : 0 ≤ D ↔ a ≤ 0 := by
      constructor
      · intro k
        have h1 : D * n ≤ 0 := Int.mul_nonpos_of_nonneg_of_nonpos k (by omega)
        rw [h] at h1
        exact Int.le_of_mul_le_mul_right (by rw [Int.zero_mul]; exact h1) hS
      · intro k
        have h1 : a * S ≤ 0 := Int.mul_nonpos_of_nonpos_of_nonneg k (by omega)
        rw [← h] at h1
        rcases (by omega : D < 0 ∨ 0 ≤ D) with k2 | k2
        · have := Int.mul_pos_of_neg_of_neg k2 q; omega
        · exact k2
    have e2 : D ≤ S ↔ n ≤ a := by
      constructor
      · intro k
        have h1 : S * n ≤ D * n := Int.mul_le_mul_of_nonpos_right k (by omega)
        rw [h, Int.mul_comm S n] at h1
        exact Int.le_of_mul_le_mul_right h1 hS
      · intro k
        have h1 : n * S ≤ a * S := Int.mul_le_mul_of_nonneg_right k (by omega)
        rw [← h, Int.mul_comm n S] at h1
        rcases (by omega : S < D ∨ D ≤ S) with k2 | k2
        · have h3 : (S - D) * n > 0 := Int.mul_pos_of_neg_of_neg (by omega) q
          rw [Int.sub_mul] at h3
          omega
        · exact k2
    omega
  · have e1 : 0 ≤ D ↔ 0 ≤ a := by
      constructor
      · intro k
        have h1 : 0 ≤ D * n := Int.mul_nonneg k (by omega)
        rw [h] at h1
        exact Int.le_of_mul_le_mul_right (by rw [Int.zero_mul]; exact h1) hS
      · intro k
        have h1 : 0 ≤ a * S := Int.mul_nonneg k (by omega)
        rw [← h] at h1
        exact Int.le_of_mul_le_mul_right (by rw [Int.zero_mul]; exact h1) q
    have e2 : D ≤ S ↔ a ≤ n := by
      constructor
      · intro k
        have h1 : D * n ≤ S * n := Int.mul_le_mul_of_nonneg_right k (by omega)
        rw [h, Int.mul_comm S n] at h1
        exact Int.le_of_mul_le_mul_right h1 hS
      · intro k
        have h1 : a * S ≤ n * S := Int.mul_le_mul_of_nonneg_right k (by omega)
        rw [← h, Int.mul_comm n S] at h1
        exact Int.le_of_mul_le_mul_right h1 q
    omega
theorem ax_lem (A0 A1 A2 N0 N1 N2 : Int) (h01 : A0 * N1 = A1 * N0) (h02 : A0 * N2 = A2 * N0) (h12 : A1 * N2 = A2 * N1) : (A0 * N0 + A1 * N1 + A2 * N2) * N0 = A0 * (N0 * N0 + N1 * N1 + N2 * N2) ∧ (A0 * N0 + A1 * N1 + A2 * N2) * N1 = A1 * (N0 * N0 + N1 * N1 + N2 * N2) ∧ (A0 * N0 + A1 * N1 + A2 * N2) * N2 = A2 * (N0 * N0 + N1 * N1 + N2 * N2) := by
  refine ⟨by grind, by grind, by grind⟩
theorem sqn (a : Int) : 0 ≤ a * a := by
  rcases (by omega : 0 ≤ a ∨ a ≤ 0) with h | h
  · exact Int.mul_nonneg h h
  · have := Int.mul_nonneg (show 0 ≤ -a by omega) (show 0 ≤ -a by omega)
    rw [Int.neg_mul_neg] at this
    exact this
theorem sq3_pos {a b c : Int} (h : ¬ (a = 0 ∧ b = 0 ∧ c = 0)) : 0 < a * a + b * b + c * c := by
  have h1 : 0 ≤ a * a := sqn a
  have h2 : 0 ≤ b * b := sqn b
  have h3 : 0 ≤ c * c := sqn c
  rcases (by omega : 0 < a * a + b * b + c * c ∨ a * a + b * b + c * c ≤ 0) with q | q
  · exact q
  · exfalso
    have e1 : a * a = 0 := by omega
    have e2 : b * b = 0 := by omega
    have e3 : c * c = 0 := by omega
    exact h ⟨(Int.mul_eq_zero.mp e1).elim id id, (Int.mul_eq_zero.mp e2).elim id id, (Int.mul_eq_zero.mp e3).elim id id⟩
theorem ax1_ne {v : Nat → Int} (h : ¬ z3 v) : v (ax1 v) ≠ 0 ∧ ax1 v < 3 := by
  unfold z3 at h
  unfold ax1
  by_cases h0 : v 0 ≠ 0
  · rw [if_pos h0]; exact ⟨h0, by decide⟩
  · rw [if_neg h0]
    by_cases h1 : v 1 ≠ 0
    · rw [if_pos h1]; exact ⟨h1, by decide⟩
    · rw [if_neg h1]
      refine ⟨fun h2 => h ⟨?_, ?_, h2⟩, by decide⟩
      · exact Decidable.not_not.mp h0
      · exact Decidable.not_not.mp h1
theorem par_ax {u v w : Nat → Int} (hw : dt w (cr u v) = 0) {ax : Nat} (h3 : ax < 3) : dt (cr w v) (cr u v) * cr u v ax = cr w v ax * dt (cr u v) (cr u v) ∧ dt (cr w u) (cr u v) * cr u v ax = cr w u ax * dt (cr u v) (cr u v) := by
  have hw' : w 0 * (u 1 * v 2 - u 2 * v 1) + w 1 * (u 2 * v 0 - u 0 * v 2) + w 2 * (u 0 * v 1 - u 1 * v 0) = 0 := hw
  have k01 : cr w v 0 * cr u v 1 = cr w v 1 * cr u v 0 := by
    show (w 1 * v 2 - w 2 * v 1) * (u 2 * v 0 - u 0 * v 2) = (w 2 * v 0 - w 0 * v 2) * (u 1 * v 2 - u 2 * v 1)
    grind
  have k02 : cr w v 0 * cr u v 2 = cr w v 2 * cr u v 0 := by
    show (w 1 * v 2 - w 2 * v 1) * (u 0 * v 1 - u 1 * v 0) = (w 0 * v 1 - w 1 * v 0) * (u 1 * v 2 - u 2 * v 1)
    grind
  have k12 : cr w v 1 * cr u v 2 = cr w v 2 * cr u v 1 := by
    show (w 2 * v 0 - w 0 * v 2) * (u 0 * v 1 - u 1 * v 0) = (w 0 * v 1 - w 1 * v 0) * (u 2 * v 0 - u 0 * v 2)
    grind
  have l01 : cr w u 0 * cr u v 1 = cr w u 1 * cr u v 0 := by
    show (w 1 * u 2 - w 2 * u 1) * (u 2 * v 0 - u 0 * v 2) = (w 2 * u 0 - w 0 * u 2) * (u 1 * v 2 - u 2 * v 1)
    grind
  have l02 : cr w u 0 * cr u v 2 = cr w u 2 * cr u v 0 := by
    show (w 1 * u 2 - w 2 * u 1) * (u 0 * v 1 - u 1 * v 0) = (w 0 * u 1 - w 1 * u 0) * (u 1 * v 2 - u 2 * v 1)
    grind
  have l12 : cr w u 1 * cr u v 2 = cr w u 2 * cr u v 1 := by
    show (w 2 * u 0 - w 0 * u 2) * (u 0 * v 1 - u 1 * v 0) = (w 0 * u 1 - w 1 * u 0) * (u 2 * v 0 - u 0 * v 2)
    grind
  have a1 := ax_lem _ _ _ _ _ _ k01 k02 k12
  have a2 := ax_lem _ _ _ _ _ _ l01 l02 l12
  rcases lt3 h3 with rfl | rfl | rfl
  · exact ⟨a1.1, a2.1⟩
  · exact ⟨a1.2.1, a2.2.1⟩
  · exact ⟨a1.2.2, a2.2.2⟩
theorem z3_sw {u w : Nat → Int} : z3 (cr u w) ↔ z3 (cr w u) := by
  have e0 : cr w u 0 = -cr u w 0 := by show w 1 * u 2 - w 2 * u 1 = -(u 1 * w 2 - u 2 * w 1); grind
  have e1 : cr w u 1 = -cr u w 1 := by show w 2 * u 0 - w 0 * u 2 = -(u 2 * w 0 - u 0 * w 2); grind
  have e2 : cr w u 2 = -cr u w 2 := by show w 0 * u 1 - w 1 * u 0 = -(u 0 * w 1 - u 1 * w 0); grind
  unfold z3
  rw [e0, e1, e2]
  omega
theorem tch_iff (u v w : Nat → Int) : tchM u v w ↔ tchC u v w := by
  have hdet : de u v w = dt w (cr u v) := by
    show u 0 * (v 1 * w 2 - v 2 * w 1) + u 1 * (v 2 * w 0 - v 0 * w 2) + u 2 * (v 0 * w 1 - v 1 * w 0) = w 0 * (u 1 * v 2 - u 2 * v 1) + w 1 * (u 2 * v 0 - u 0 * v 2) + w 2 * (u 0 * v 1 - u 1 * v 0)
    grind
  unfold tchM tchC
  by_cases hz : z3 (cr u v)
  · constructor
    · rintro (⟨_, h2, h3, h4⟩ | ⟨h1, _⟩)
      · refine Or.inl ⟨hz, z3_sw.mp h2, ?_, ?_⟩
        · split at h3 <;> omega
        · split at h4 <;> omega
      · exact absurd hz h1
    · rintro (⟨_, h2, h3, h4⟩ | ⟨h1, _⟩)
      · refine Or.inl ⟨hz, z3_sw.mpr h2, ?_, ?_⟩
        · split <;> omega
        · split <;> omega
      · exact absurd hz h1
  · have hS : 0 < dt (cr u v) (cr u v) := sq3_pos hz
    obtain ⟨hn, h3⟩ := ax1_ne hz
    constructor
    · rintro (⟨h1, _⟩ | ⟨_, h2, h4, h5⟩)
      · exact absurd h1 hz
      · rw [hdet] at h2
        have hp := par_ax h2 h3
        exact Or.inr ⟨hz, h2, (prt_iff hS hn hp.1).mpr h4, (prt_iff hS hn hp.2).mpr h5⟩
    · rintro (⟨h1, _⟩ | ⟨_, h2, h4, h5⟩)
      · exact absurd h1 hz
      · have hp := par_ax h2 h3
        exact Or.inr ⟨hz, by rw [hdet]; exact h2, (prt_iff hS hn hp.1).mp h4, (prt_iff hS hn hp.2).mp h5⟩
theorem cr_cg {u u1 v v1 : Nat → Int} (hu : ∀ k, k < 3 → u k = u1 k) (hv : ∀ k, k < 3 → v k = v1 k) : cr u v = cr u1 v1 := by
  funext k
  unfold cr
  rw [hu 0 (by decide), hu 1 (by decide), hu 2 (by decide), hv 0 (by decide), hv 1 (by decide), hv 2 (by decide)]
theorem dt_cg {u u1 v v1 : Nat → Int} (hu : ∀ k, k < 3 → u k = u1 k) (hv : ∀ k, k < 3 → v k = v1 k) : dt u v = dt u1 v1 := by
  unfold dt
  rw [hu 0 (by decide), hu 1 (by decide), hu 2 (by decide), hv 0 (by decide), hv 1 (by decide), hv 2 (by decide)]
theorem tchC_cg {u u1 v v1 w w1 : Nat → Int} (hu : ∀ k, k < 3 → u k = u1 k) (hv : ∀ k, k < 3 → v k = v1 k) (hw : ∀ k, k < 3 → w k = w1 k) : tchC u v w ↔ tchC u1 v1 w1 := by
  unfold tchC parT
  rw [cr_cg hu hv, cr_cg hw hu, cr_cg hw hv, dt_cg hw hu, dt_cg hv hu, dt_cg hu hu, dt_cg hw (fun _ _ => rfl)]
theorem dv_cg {A B : Nat → Int} {i : Nat} (hi : i < 2) (h : ∀ j, j < 9 → A j = B j) : ∀ k, k < 3 → dv A i k = dv B i k := fun k hk => by unfold dv; rw [h _ (by omega), h _ (by omega)]
theorem gv_cg {A B A1 B1 : Nat → Int} {i j : Nat} (hi : i < 2) (hj : j < 2) (h : ∀ j, j < 9 → A j = A1 j) (h1 : ∀ j, j < 9 → B j = B1 j) : ∀ k, k < 3 → gv A i B j k = gv A1 i B1 j k := fun k hk => by unfold gv; rw [h _ (by omega), h1 _ (by omega)]
/-- the model's sticks touch as the table's do -/
theorem tMS_iff {K P : Nat → Int} {s o : Nat} {X Y : xSt} (hs : K s = X.1) (ho : K o = Y.1) (hX : ∀ j, j < 9 → P (9 * s + j) = ptS X j) (hY : ∀ j, j < 9 → P (9 * o + j) = ptS Y j) : tMS K P s o ↔ tchS (ptS X) (pcS X) (ptS Y) (pcS Y) := by
  have e1 : pcz (K s) = pcS X := by unfold pcz pcS; rw [hs]
  have e2 : pcz (K o) = pcS Y := by unfold pcz pcS; rw [ho]
  unfold tMS tchS
  rw [e1, e2]
  have p1 := pcS_2 X
  have p2 := pcS_2 Y
  constructor
  · rintro ⟨p, q, h1, h2, h3⟩
    exact ⟨p, q, h1, h2, (tchC_cg (dv_cg (by omega) hX) (dv_cg (by omega) hY) (gv_cg (by omega) (by omega) hX hY)).mp ((tch_iff _ _ _).mp h3)⟩
  · rintro ⟨p, q, h1, h2, h3⟩
    exact ⟨p, q, h1, h2, (tch_iff _ _ _).mpr ((tchC_cg (dv_cg (by omega) hX) (dv_cg (by omega) hY) (gv_cg (by omega) (by omega) hX hY)).mpr h3)⟩
