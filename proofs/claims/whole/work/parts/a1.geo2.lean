/-! the places at which two pieces are seen to cross -/
def sem1 (x y z A B L : Int) : Prop := 0 < L ∧ prt B L ∧ (∃ e, (e = 0 ∨ e = 1) ∧ A = e * L ∧ L * (e * x - z) = B * y) ∧ (y = 0 → B = 0 ∨ B = L)
def Sm (x y z A B L : Int) : Prop := sem1 x y z A B L ∨ sem1 y x (-z) B A L
theorem sem1_sc {x y z x' y' z' A B L : Int} (h1 : x * y' = x' * y) (h2 : x * z' = x' * z) (h3 : y * z' = y' * z) (hz : (x = 0 ∧ y = 0 ∧ z = 0 ∧ x' = 0 ∧ y' = 0 ∧ z' = 0) ∨ ((x ≠ 0 ∨ y ≠ 0) ∧ (x' ≠ 0 ∨ y' ≠ 0))) (h : sem1 x y z A B L) : sem1 x' y' z' A B L := by
  obtain ⟨hL, hB, ⟨e, he, hA, hq⟩, hy⟩ := h
  refine ⟨hL, hB, ⟨e, he, hA, ?_⟩, fun k => ?_⟩
  · rcases hz with ⟨rfl, rfl, rfl, rfl, rfl, rfl⟩ | ⟨k1, k2⟩
    · exact hq
    · by_cases y0 : y = 0
      · subst y0
        have x0 : x ≠ 0 := by omega
        have yy : y' = 0 := zmul (by rw [Int.mul_comm, h1, Int.mul_zero]) x0
        subst yy
        rw [Int.mul_zero] at hq ⊢
        have e1 : e * x - z = 0 := zmul (by rw [Int.mul_comm]; exact hq) (by omega)
        have e2 : (e * x' - z') * x = 0 := by grind
        rw [zmul e2 x0, Int.mul_zero]
      · have e2 : (L * (e * x' - z') - B * y') * y = 0 := by grind
        have := zmul e2 y0
        omega
  · rcases hz with ⟨_, h0, _⟩ | ⟨k1, k2⟩
    · exact hy h0
    · refine hy (Classical.byContradiction (fun y0 => ?_))
      subst k
      rw [Int.mul_zero] at h1
      have : x' = 0 := zmul h1.symm y0
      omega
theorem Sm_sc {x y z x' y' z' A B L : Int} (h1 : x * y' = x' * y) (h2 : x * z' = x' * z) (h3 : y * z' = y' * z) (hz : (x = 0 ∧ y = 0 ∧ z = 0 ∧ x' = 0 ∧ y' = 0 ∧ z' = 0) ∨ ((x ≠ 0 ∨ y ≠ 0) ∧ (x' ≠ 0 ∨ y' ≠ 0))) (h : Sm x y z A B L) : Sm x' y' z' A B L := by
  rcases h with h | h
  · exact Or.inl (sem1_sc h1 h2 h3 hz h)
  · refine Or.inr (sem1_sc (by rw [Int.mul_comm, ← h1, Int.mul_comm]) (by rw [Int.mul_neg, Int.mul_neg, h3]) (by rw [Int.mul_neg, Int.mul_neg, h2]) ?_ h)
    rcases hz with ⟨a, b, c, a', b', c'⟩ | ⟨k1, k2⟩
    · exact Or.inl ⟨b, a, by omega, b', a', by omega⟩
    · exact Or.inr ⟨by omega, by omega⟩
theorem Sm_sw {x y z A B L : Int} (h : Sm x y z A B L) : Sm y x (-z) B A L := by
  rcases h with h | h
  · refine Or.inr ?_
    rw [Int.neg_neg]; exact h
  · exact Or.inl h
theorem Sm_eq {x y z A B L : Int} (h : Sm x y z A B L) : 0 < L ∧ prt A L ∧ prt B L ∧ L * z + B * y - A * x = 0 := by
  have p01 : ∀ e : Int, e = 0 ∨ e = 1 → 0 < L → prt (e * L) L := fun e he hL => by
    rcases he with rfl | rfl
    · rw [Int.zero_mul]; exact ⟨Int.le_refl _, by omega⟩
    · rw [Int.one_mul]; exact ⟨by omega, Int.le_refl _⟩
  rcases h with ⟨hL, hB, ⟨e, he, hA, hq⟩, _⟩ | ⟨hL, hA, ⟨e, he, hB, hq⟩, _⟩
  · exact ⟨hL, by rw [hA]; exact p01 e he hL, hB, by rw [hA]; grind⟩
  · exact ⟨hL, hA, by rw [hB]; exact p01 e he hL, by rw [hB]; grind⟩
theorem par_ij {a b : Nat → Int} (h : z3 (cr a b)) {i j : Nat} (hi : i < 3) (hj : j < 3) : a i * b j = a j * b i := by
  have h0 : a 1 * b 2 - a 2 * b 1 = 0 := h.1
  have h1 : a 2 * b 0 - a 0 * b 2 = 0 := h.2.1
  have h2 : a 0 * b 1 - a 1 * b 0 = 0 := h.2.2
  rcases lt3 hi with rfl | rfl | rfl <;> rcases lt3 hj with rfl | rfl | rfl <;> omega
theorem par_of {a b : Nat → Int} (h : ∀ i j, i < 3 → j < 3 → a i * b j = a j * b i) : z3 (cr a b) := by
  have h0 := h 1 2 (by decide) (by decide)
  have h1 := h 2 0 (by decide) (by decide)
  have h2 := h 0 1 (by decide) (by decide)
  refine ⟨?_, ?_, ?_⟩
  · show a 1 * b 2 - a 2 * b 1 = 0; omega
  · show a 2 * b 0 - a 0 * b 2 = 0; omega
  · show a 0 * b 1 - a 1 * b 0 = 0; omega
theorem z3_at {v : Nat → Int} (h : z3 v) {k : Nat} (hk : k < 3) : v k = 0 := by
  rcases lt3 hk with rfl | rfl | rfl
  · exact h.1
  · exact h.2.1
  · exact h.2.2
theorem par_z {a b : Nat → Int} (h : z3 b) : z3 (cr a b) := par_of (fun i j hi hj => by rw [z3_at h hi, z3_at h hj, Int.mul_zero, Int.mul_zero])
theorem nz_ex {v : Nat → Int} (h : ¬ z3 v) : ∃ k, k < 3 ∧ v k ≠ 0 := by
  refine Classical.byContradiction (fun k => h ⟨?_, ?_, ?_⟩)
  · exact Classical.byContradiction (fun z => k ⟨0, by decide, z⟩)
  · exact Classical.byContradiction (fun z => k ⟨1, by decide, z⟩)
  · exact Classical.byContradiction (fun z => k ⟨2, by decide, z⟩)
theorem par_tr {a b c : Nat → Int} (hb : ¬ z3 b) (h1 : z3 (cr a b)) (h2 : z3 (cr c b)) : z3 (cr a c) := by
  obtain ⟨k, hk, bk⟩ := nz_ex hb
  refine par_of (fun i j hi hj => ?_)
  have e1 := par_ij h1 hi hk
  have e2 := par_ij h1 hj hk
  have e3 := par_ij h2 hi hk
  have e4 := par_ij h2 hj hk
  have bb : b k * b k ≠ 0 := fun z => bk (by rcases Int.mul_eq_zero.mp z with z | z <;> exact z)
  have e5 : (a i * c j - a j * c i) * (b k * b k) = 0 := by grind
  have := zmul e5 bb
  omega
def SymM (d p q w : Nat → Int) : Prop := z3 (cr (cr w d) (cr p d)) ∧ z3 (cr (cr w d) (cr q d)) ∧ (z3 (cr p d) → z3 (cr q d) → z3 (cr w d))
def gax (d p q : Nat → Int) (j : Nat) : Prop := j < 3 ∧ ((z3 (cr p d) ∧ z3 (cr q d)) ∨ cr p d j ≠ 0 ∨ cr q d j ≠ 0)
def Sx (d p q w : Nat → Int) (A B L : Int) : Prop := (de p q d ≠ 0 ∧ 0 < L ∧ prt A L ∧ prt B L ∧ A * de p q d = L * de w q d ∧ B * de p q d = L * de w p d) ∨ (de p q d = 0 ∧ SymM d p q w ∧ ∃ j, gax d p q j ∧ Sm (cr p d j) (cr q d j) (cr w d j) A B L)
theorem Sm_ax {d p q w : Nat → Int} {i j : Nat} {A B L : Int} (hde : de p q d = 0) (hM : SymM d p q w) (hi : gax d p q i) (hj : gax d p q j) (h : Sm (cr p d j) (cr q d j) (cr w d j) A B L) : Sm (cr p d i) (cr q d i) (cr w d i) A B L := by
  have c := crcr_z hde
  refine Sm_sc ?_ ?_ ?_ ?_ h
  · rw [par_ij c hj.1 hi.1]
  · have := par_ij hM.1 hj.1 hi.1
    rw [Int.mul_comm, ← this, Int.mul_comm]
  · have := par_ij hM.2.1 hj.1 hi.1
    rw [Int.mul_comm, ← this, Int.mul_comm]
  · by_cases z : z3 (cr p d) ∧ z3 (cr q d)
    · have w0 := hM.2.2 z.1 z.2
      exact Or.inl ⟨z3_at z.1 hj.1, z3_at z.2 hj.1, z3_at w0 hj.1, z3_at z.1 hi.1, z3_at z.2 hi.1, z3_at w0 hi.1⟩
    · exact Or.inr ⟨by rcases hj.2 with k | k; exact absurd k z; exact k, by rcases hi.2 with k | k; exact absurd k z; exact k⟩
theorem cramer (d p q w : Nat → Int) {i : Nat} (hi : i < 3) : de p q d * w i + de w p d * q i - de w q d * p i = de p q w * d i := by
  unfold de
  rcases lt3 hi with rfl | rfl | rfl <;> grind
theorem PR_cr (d p q w : Nat → Int) (A B L : Int) {i : Nat} (hi : i < 3) : cr (PR p q w A B L) d i = L * cr w d i + B * cr q d i - A * cr p d i := by
  rcases lt3 hi with rfl | rfl | rfl
  · show (L * w 1 + B * q 1 - A * p 1) * d 2 - (L * w 2 + B * q 2 - A * p 2) * d 1 = L * (w 1 * d 2 - w 2 * d 1) + B * (q 1 * d 2 - q 2 * d 1) - A * (p 1 * d 2 - p 2 * d 1)
    grind
  · show (L * w 2 + B * q 2 - A * p 2) * d 0 - (L * w 0 + B * q 0 - A * p 0) * d 2 = L * (w 2 * d 0 - w 0 * d 2) + B * (q 2 * d 0 - q 0 * d 2) - A * (p 2 * d 0 - p 0 * d 2)
    grind
  · show (L * w 0 + B * q 0 - A * p 0) * d 1 - (L * w 1 + B * q 1 - A * p 1) * d 0 = L * (w 0 * d 1 - w 1 * d 0) + B * (q 0 * d 1 - q 1 * d 0) - A * (p 0 * d 1 - p 1 * d 0)
    grind
theorem Sx_D {d p q w : Nat → Int} {A B L : Int} (hA : A * de p q d = L * de w q d) (hB : B * de p q d = L * de w p d) {i : Nat} (hi : i < 3) : de p q d * PR p q w A B L i = L * de p q w * d i := by
  have c := cramer d p q w hi
  unfold PR
  generalize de p q d = D at *
  generalize de w q d = X at *
  generalize de w p d = Y at *
  generalize de p q w = T at *
  grind
theorem Sx_cand {d p q w : Nat → Int} {A B L : Int} (h : Sx d p q w A B L) : cand d p q w A B L := by
  rcases h with ⟨h0, hL, hA, hB, e1, e2⟩ | ⟨h0, hM, j, hj, hs⟩
  · refine ⟨hL, hA, hB, fun i k hi hk => ?_⟩
    have c1 := Sx_D e1 e2 hi
    have c2 := Sx_D e1 e2 hk
    refine Int.eq_of_mul_eq_mul_left h0 ?_
    rw [← Int.mul_assoc, ← Int.mul_assoc, c1, c2]
    grind
  · obtain ⟨hL, hA, hB, hq⟩ := Sm_eq hs
    refine ⟨hL, hA, hB, fun i k hi hk => par_ij (a := PR p q w A B L) ?_ hi hk⟩
    have all : ∀ i, i < 3 → L * cr w d i + B * cr q d i - A * cr p d i = 0 := by
      intro i hi
      have c := crcr_z h0
      rcases hj.2 with ⟨z1, z2⟩ | z | z
      · rw [z3_at (hM.2.2 z1 z2) hi, z3_at z1 hi, z3_at z2 hi, Int.mul_zero, Int.mul_zero, Int.mul_zero]; rfl
      · refine zmul (b := cr p d j) ?_ z
        have a1 := par_ij hM.1 hi hj.1
        have a2 := par_ij c hi hj.1
        generalize cr w d i = Wi at *
        generalize cr w d j = Wj at *
        generalize cr p d i = Pi at *
        generalize cr p d j = Pj at *
        generalize cr q d i = Qi at *
        generalize cr q d j = Qj at *
        grind
      · refine zmul (b := cr q d j) ?_ z
        have a1 := par_ij hM.2.1 hi hj.1
        have a2 := par_ij c hi hj.1
        generalize cr w d i = Wi at *
        generalize cr w d j = Wj at *
        generalize cr p d i = Pi at *
        generalize cr p d j = Pj at *
        generalize cr q d i = Qi at *
        generalize cr q d j = Qj at *
        grind
    exact ⟨by rw [PR_cr _ _ _ _ _ _ _ (by decide)]; exact all 0 (by decide), by rw [PR_cr _ _ _ _ _ _ _ (by decide)]; exact all 1 (by decide), by rw [PR_cr _ _ _ _ _ _ _ (by decide)]; exact all 2 (by decide)⟩
def ngv (w : Nat → Int) : Nat → Int := fun i => -w i
theorem cr_ng (w d : Nat → Int) {i : Nat} (hi : i < 3) : cr (ngv w) d i = -cr w d i := by
  rcases lt3 hi with rfl | rfl | rfl
  · show -w 1 * d 2 - -w 2 * d 1 = -(w 1 * d 2 - w 2 * d 1); grind
  · show -w 2 * d 0 - -w 0 * d 2 = -(w 2 * d 0 - w 0 * d 2); grind
  · show -w 0 * d 1 - -w 1 * d 0 = -(w 0 * d 1 - w 1 * d 0); grind
theorem z3_ng {a b : Nat → Int} (h : ∀ i, i < 3 → a i = -b i) (hb : z3 b) : z3 a := ⟨by rw [h 0 (by decide), hb.1]; rfl, by rw [h 1 (by decide), hb.2.1]; rfl, by rw [h 2 (by decide), hb.2.2]; rfl⟩
theorem par_ng {w d b : Nat → Int} (h : z3 (cr (cr w d) b)) : z3 (cr (cr (ngv w) d) b) := par_of (fun i j hi hj => by
  rw [cr_ng w d hi, cr_ng w d hj, Int.neg_mul, Int.neg_mul, par_ij h hi hj])
theorem PR_sw (p q w : Nat → Int) (A B L : Int) (i : Nat) : PR q p (ngv w) B A L i = -PR p q w A B L i := by unfold PR ngv; grind
theorem Sx_sw {d p q w : Nat → Int} {A B L : Int} (h : Sx d p q w A B L) : Sx d q p (ngv w) B A L := by
  have e1 : de q p d = -de p q d := by unfold de; grind
  have e2 : de (ngv w) p d = -de w p d := by unfold de ngv; grind
  have e3 : de (ngv w) q d = -de w q d := by unfold de ngv; grind
  rcases h with ⟨h0, hL, hA, hB, f1, f2⟩ | ⟨h0, hM, j, hj, hs⟩
  · refine Or.inl ⟨by rw [e1]; omega, hL, hB, hA, ?_, ?_⟩
    · rw [e1, e2, Int.mul_neg, Int.mul_neg, f2]
    · rw [e1, e3, Int.mul_neg, Int.mul_neg, f1]
  · refine Or.inr ⟨by rw [e1, h0]; rfl, ⟨par_ng hM.2.1, par_ng hM.1, fun a b => z3_ng (fun i hi => cr_ng w d hi) (hM.2.2 b a)⟩, j, ⟨hj.1, by rcases hj.2 with k | k | k; exact Or.inl ⟨k.2, k.1⟩; exact Or.inr (Or.inr k); exact Or.inr (Or.inl k)⟩, ?_⟩
    rw [cr_ng w d hj.1]
    exact Sm_sw hs
theorem ngv2 (w : Nat → Int) : ngv (ngv w) = w := funext (fun i => Int.neg_neg (w i))
theorem Sx_swi {d p q w : Nat → Int} {A B L : Int} : Sx d q p (ngv w) B A L ↔ Sx d p q w A B L := ⟨fun h => by have := Sx_sw h; rw [ngv2] at this; exact this, Sx_sw⟩
/-! the best of what is offered -/
def gIv (C : cnd → Prop) (s : ofS) : Prop := (s.1 = 0 ∧ ∀ c, ¬ C c) ∨ (s.1 = 1 ∧ (0 < s.2.2.1 ∧ 0 < s.2.2.2.2) ∧ (∃ c, C c ∧ s.2.1 * c.2.1 = c.1 * s.2.2.1) ∧ (∀ c, C c → s.2.1 * c.2.1 ≤ c.1 * s.2.2.1) ∧ (∃ c, C c ∧ s.2.2.2.1 * c.2.2.2 = c.2.2.1 * s.2.2.2.2) ∧ ∀ c, C c → (s.2.2.2.1.natAbs : Int) * c.2.2.2 ≤ (c.2.2.1.natAbs : Int) * s.2.2.2.2)
theorem fr_le {a l pt pb A L : Int} (hl : 0 < l) (hpb : 0 < pb) (hL : 0 < L) (h1 : a * pb ≤ pt * l) (h2 : pt * L ≤ A * pb) : a * L ≤ A * l := by
  have x1 := Int.mul_le_mul_of_nonneg_right h1 (Int.le_of_lt hL)
  have x2 := Int.mul_le_mul_of_nonneg_right h2 (Int.le_of_lt hl)
  refine Int.le_of_mul_le_mul_right (a := pb) ?_ hpb
  have z1 : a * L * pb = a * pb * L := by grind
  have z2 : A * l * pb = A * pb * l := by grind
  have z3 : pt * l * L = pt * L * l := by grind
  omega
def gst (c : cnd) (t m : Int) (s : ofS) : ofS := (1, ((if s.1 = 0 ∨ c.1 * s.2.2.1 < s.2.1 * c.2.1 then c.1 else s.2.1), ((if s.1 = 0 ∨ c.1 * s.2.2.1 < s.2.1 * c.2.1 then c.2.1 else s.2.2.1), ((if s.1 = 0 ∨ (t.natAbs : Int) * s.2.2.2.2 < (s.2.2.2.1.natAbs : Int) * m then t else s.2.2.2.1), (if s.1 = 0 ∨ (t.natAbs : Int) * s.2.2.2.2 < (s.2.2.2.1.natAbs : Int) * m then m else s.2.2.2.2)))))
theorem gIv_step {C : cnd → Prop} {s : ofS} {c : cnd} {t m : Int} (h : gIv C s) (hC : ∀ c, C c → 0 < c.2.1 ∧ 0 < c.2.2.2) (hc : 0 < c.2.1 ∧ 0 < c.2.2.2) (hm : 0 < m) (ht : t * c.2.2.2 = c.2.2.1 * m) : gIv (fun x => C x ∨ x = c) (gst c t m s) := by
  have ta : (t.natAbs : Int) * c.2.2.2 = (c.2.2.1.natAbs : Int) * m := by
    have e := congrArg (fun z : Int => (z.natAbs : Int)) ht
    simp only [abs_mul] at e
    rw [abs_pos hc.2, abs_pos hm] at e
    exact e
  refine Or.inr ⟨rfl, ?_⟩
  unfold gst
  dsimp only
  rcases h with ⟨h0, hn⟩ | ⟨h1, ⟨p1, p2⟩, ⟨c1, m1, q1⟩, l1, ⟨c2, m2, q2⟩, l2⟩
  · simp only [h0, true_or, if_true]
    refine ⟨⟨hc.1, hm⟩, ⟨c, Or.inr rfl, rfl⟩, fun x hx => ?_, ⟨c, Or.inr rfl, ht⟩, fun x hx => ?_⟩
    · rcases hx with hx | rfl
      · exact absurd hx (hn x)
      · exact Int.le_refl _
    · rcases hx with hx | rfl
      · exact absurd hx (hn x)
      · exact Int.le_of_eq ta
  · have n0 : ¬ s.1 = 0 := by omega
    simp only [n0, false_or]
    have place : (0 < (if c.1 * s.2.2.1 < s.2.1 * c.2.1 then c.2.1 else s.2.2.1)) ∧ (∃ x, (C x ∨ x = c) ∧ (if c.1 * s.2.2.1 < s.2.1 * c.2.1 then c.1 else s.2.1) * x.2.1 = x.1 * (if c.1 * s.2.2.1 < s.2.1 * c.2.1 then c.2.1 else s.2.2.1)) ∧ (∀ x, (C x ∨ x = c) → (if c.1 * s.2.2.1 < s.2.1 * c.2.1 then c.1 else s.2.1) * x.2.1 ≤ x.1 * (if c.1 * s.2.2.1 < s.2.1 * c.2.1 then c.2.1 else s.2.2.1)) := by
      by_cases k : c.1 * s.2.2.1 < s.2.1 * c.2.1
      · simp only [if_pos k]
        refine ⟨hc.1, ⟨c, Or.inr rfl, rfl⟩, fun x hx => ?_⟩
        rcases hx with hx | rfl
        · exact fr_le hc.1 p1 (hC x hx).1 (Int.le_of_lt k) (l1 x hx)
        · exact Int.le_refl _
      · simp only [if_neg k]
        refine ⟨p1, ⟨c1, Or.inl m1, q1⟩, fun x hx => ?_⟩
        rcases hx with hx | rfl
        · exact l1 x hx
        · exact Int.not_lt.mp k
    have height : (0 < (if (t.natAbs : Int) * s.2.2.2.2 < (s.2.2.2.1.natAbs : Int) * m then m else s.2.2.2.2)) ∧ (∃ x, (C x ∨ x = c) ∧ (if (t.natAbs : Int) * s.2.2.2.2 < (s.2.2.2.1.natAbs : Int) * m then t else s.2.2.2.1) * x.2.2.2 = x.2.2.1 * (if (t.natAbs : Int) * s.2.2.2.2 < (s.2.2.2.1.natAbs : Int) * m then m else s.2.2.2.2)) ∧ (∀ x, (C x ∨ x = c) → ((if (t.natAbs : Int) * s.2.2.2.2 < (s.2.2.2.1.natAbs : Int) * m then t else s.2.2.2.1).natAbs : Int) * x.2.2.2 ≤ (x.2.2.1.natAbs : Int) * (if (t.natAbs : Int) * s.2.2.2.2 < (s.2.2.2.1.natAbs : Int) * m then m else s.2.2.2.2)) := by
      by_cases k : (t.natAbs : Int) * s.2.2.2.2 < (s.2.2.2.1.natAbs : Int) * m
      · simp only [if_pos k]
        refine ⟨hm, ⟨c, Or.inr rfl, ht⟩, fun x hx => ?_⟩
        rcases hx with hx | rfl
        · exact fr_le hm p2 (hC x hx).2 (Int.le_of_lt k) (l2 x hx)
        · exact Int.le_of_eq ta
      · simp only [if_neg k]
        refine ⟨p2, ⟨c2, Or.inl m2, q2⟩, fun x hx => ?_⟩
        rcases hx with hx | rfl
        · exact l2 x hx
        · have k' := Int.not_lt.mp k
          exact fr_le p2 hm hc.2 k' (Int.le_of_eq ta)
    exact ⟨⟨place.1, height.1⟩, place.2.1, place.2.2, height.2.1, height.2.2⟩
theorem gIv_cg {C C' : cnd → Prop} {s : ofS} (h : gIv C s) (hc : ∀ c, C c ↔ C' c) : gIv C' s := by
  have : C = C' := funext (fun c => propext (hc c))
  rw [← this]; exact h
/-- what stands for a place -/
def rep (d p q w : Nat → Int) (c : cnd) (A B L : Int) : Prop := c.1 * L = A * c.2.1 ∧ ∀ i, i < 3 → c.2.2.1 * L * d i = c.2.2.2 * PR p q w A B L i
theorem gIv_spec {d p q w : Nat → Int} {C : cnd → Prop} {S : Int → Int → Int → Prop} {s : ofS} (h : gIv C s) (h1 : s.1 = 1) (hC : ∀ c, C c → 0 < c.2.1 ∧ 0 < c.2.2.2) (hL : ∀ A B L, S A B L → 0 < L) (hs : ∀ c, C c → ∃ A B L, S A B L ∧ rep d p q w c A B L) (hp : ∀ A B L, S A B L → ∃ c, C c ∧ rep d p q w c A B L) : spec d p q w S s := by
  rcases h with ⟨h0, _⟩ | ⟨_, ⟨p1, p2⟩, ⟨c1, m1, q1⟩, l1, ⟨c2, m2, q2⟩, l2⟩
  · omega
  refine ⟨⟨p1, p2⟩, ?_, fun A B L hS => ?_, ?_, fun A B L hS i hi => ?_⟩
  · obtain ⟨A, B, L, hS, r⟩ := hs c1 m1
    refine ⟨A, B, L, hS, ?_⟩
    have e := r.1
    have c0 := (hC c1 m1).1
    refine Int.eq_of_mul_eq_mul_right (a := c1.2.1) (by omega) ?_
    grind
  · obtain ⟨c, hc, r⟩ := hp A B L hS
    have e := r.1
    have c0 := (hC c hc).1
    have x := Int.mul_le_mul_of_nonneg_right (l1 c hc) (Int.le_of_lt (hL _ _ _ hS))
    refine Int.le_of_mul_le_mul_right (a := c.2.1) ?_ c0
    have z1 : s.2.1 * L * c.2.1 = s.2.1 * c.2.1 * L := by grind
    have z2 : A * s.2.2.1 * c.2.1 = c.1 * s.2.2.1 * L := by grind
    omega
  · obtain ⟨A, B, L, hS, r⟩ := hs c2 m2
    refine ⟨A, B, L, hS, fun i hi => ?_⟩
    have e := r.2 i hi
    have c0 := (hC c2 m2).2
    refine Int.eq_of_mul_eq_mul_right (a := c2.2.2.2) (by omega) ?_
    generalize PR p q w A B L i = R at *
    grind
  · obtain ⟨c, hc, r⟩ := hp A B L hS
    have c0 := (hC c hc).2
    have L0 := hL _ _ _ hS
    have e := congrArg (fun z : Int => (z.natAbs : Int)) (r.2 i hi)
    simp only [abs_mul] at e
    rw [abs_pos L0, abs_pos c0] at e
    have d0 : (0 : Int) ≤ ((d i).natAbs : Int) := by omega
    have x := Int.mul_le_mul_of_nonneg_right (l2 c hc) (Int.mul_nonneg (Int.le_of_lt L0) d0)
    refine Int.le_of_mul_le_mul_right (a := c.2.2.2) ?_ c0
    generalize ((d i).natAbs : Int) = D at *
    generalize ((PR p q w A B L i).natAbs : Int) = R at *
    generalize (s.2.2.2.1.natAbs : Int) = T at *
    generalize (c.2.2.1.natAbs : Int) = U at *
    generalize s.2.2.2.2 = b at *
    generalize c.2.2.2 = m at *
    have z1 : T * L * D * m = T * m * (L * D) := by grind
    have z2 : b * R * m = U * b * (L * D) := by grind
    omega
