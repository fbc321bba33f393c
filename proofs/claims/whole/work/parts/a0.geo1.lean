/-! crossings as fractions: touching, and the sign of heights -/
def PR (p q w : Nat → Int) (A B L : Int) (i : Nat) : Int := L * w i + B * q i - A * p i
def cand (d p q w : Nat → Int) (A B L : Int) : Prop := 0 < L ∧ prt A L ∧ prt B L ∧ ∀ i j, i < 3 → j < 3 → PR p q w A B L i * d j = PR p q w A B L j * d i
theorem zmul {a b : Int} (h : a * b = 0) (hb : b ≠ 0) : a = 0 := by
  rcases Int.mul_eq_zero.mp h with h | h
  · exact h
  · exact absurd h hb
theorem frac_in {L A D S : Int} (hL : 0 < L) (hA : 0 ≤ A ∧ A ≤ L) (hS : 0 < S) (h : L * D = A * S) : 0 ≤ D ∧ D ≤ S := by
  have a1 := Int.mul_nonneg hA.1 (Int.le_of_lt hS)
  have a2 := Int.mul_le_mul_of_nonneg_right hA.2 (Int.le_of_lt hS)
  refine ⟨Int.not_lt.mp (fun k => ?_), Int.not_lt.mp (fun k => ?_)⟩
  · have := Int.mul_neg_of_pos_of_neg hL k
    omega
  · have := Int.mul_lt_mul_of_pos_left k hL
    omega
theorem pr_cr {p q w : Nat → Int} {A B L : Int} (h : ∀ i, i < 3 → PR p q w A B L i = 0) {k : Nat} (hk : k < 3) : L * cr w p k = B * cr p q k ∧ L * cr w q k = A * cr p q k := by
  have e0 := h 0 (by decide)
  have e1 := h 1 (by decide)
  have e2 := h 2 (by decide)
  unfold PR at e0 e1 e2
  have f0 : L * w 0 = A * p 0 - B * q 0 := by omega
  have f1 : L * w 1 = A * p 1 - B * q 1 := by omega
  have f2 : L * w 2 = A * p 2 - B * q 2 := by omega
  rcases lt3 hk with rfl | rfl | rfl
  · constructor
    · show L * (w 1 * p 2 - w 2 * p 1) = B * (p 1 * q 2 - p 2 * q 1)
      grind
    · show L * (w 1 * q 2 - w 2 * q 1) = A * (p 1 * q 2 - p 2 * q 1)
      grind
  · constructor
    · show L * (w 2 * p 0 - w 0 * p 2) = B * (p 2 * q 0 - p 0 * q 2)
      grind
    · show L * (w 2 * q 0 - w 0 * q 2) = A * (p 2 * q 0 - p 0 * q 2)
      grind
  · constructor
    · show L * (w 0 * p 1 - w 1 * p 0) = B * (p 0 * q 1 - p 1 * q 0)
      grind
    · show L * (w 0 * q 1 - w 1 * q 0) = A * (p 0 * q 1 - p 1 * q 0)
      grind
theorem tch_of {p q w : Nat → Int} {A B L : Int} (hL : 0 < L) (hA : prt A L) (hB : prt B L) (h : ∀ i, i < 3 → PR p q w A B L i = 0) : tchC p q w := by
  have e0 := h 0 (by decide)
  have e1 := h 1 (by decide)
  have e2 := h 2 (by decide)
  unfold PR at e0 e1 e2
  have c0 := pr_cr h (show 0 < 3 by decide)
  have c1 := pr_cr h (show 1 < 3 by decide)
  have c2 := pr_cr h (show 2 < 3 by decide)
  have hL0 : L ≠ 0 := by omega
  obtain ⟨hB1, hB2⟩ := hB
  by_cases hz : z3 (cr p q)
  · obtain ⟨z0, z1, z2⟩ := hz
    rw [z0, Int.mul_zero] at c0
    rw [z1, Int.mul_zero] at c1
    rw [z2, Int.mul_zero] at c2
    have es : L * dt w p = A * dt p p - B * dt q p := by unfold dt; grind
    have hn : 0 ≤ dt p p := by unfold dt; have := sqn (p 0); have := sqn (p 1); have := sqn (p 2); omega
    have g1 : L * dt w p + B * dt q p = (L - B) * dt w p + B * (dt w p + dt q p) := by grind
    have g2 : L * dt p p = (L - B) * dt p p + B * dt p p := by grind
    have a1 := Int.mul_nonneg hA.1 hn
    have a2 := Int.mul_le_mul_of_nonneg_right hA.2 hn
    refine Or.inl ⟨⟨z0, z1, z2⟩, ⟨?_, ?_, ?_⟩, ?_, ?_⟩
    · exact zmul (by rw [Int.mul_comm]; exact c0.1) hL0
    · exact zmul (by rw [Int.mul_comm]; exact c1.1) hL0
    · exact zmul (by rw [Int.mul_comm]; exact c2.1) hL0
    · refine Classical.byContradiction (fun k => ?_)
      have k1 : dt w p < 0 := by omega
      have k2 : dt w p + dt q p < 0 := by omega
      by_cases hb : B = 0
      · have := Int.mul_neg_of_pos_of_neg hL k1
        rw [hb] at g1 es
        omega
      · have x1 := Int.mul_neg_of_pos_of_neg (show 0 < B by omega) k2
        have x2 : (L - B) * dt w p ≤ 0 := by
          have := Int.mul_le_mul_of_nonneg_left (Int.le_of_lt k1) (show 0 ≤ L - B by omega)
          rw [Int.mul_zero] at this
          exact this
        omega
    · refine Classical.byContradiction (fun k => ?_)
      have k1 : dt p p < dt w p := by omega
      have k2 : dt p p < dt w p + dt q p := by omega
      by_cases hb : B = 0
      · have := Int.mul_lt_mul_of_pos_left k1 hL
        rw [hb] at g1 es
        omega
      · have x1 := Int.mul_lt_mul_of_pos_left k2 (show 0 < B by omega)
        have x2 := Int.mul_le_mul_of_nonneg_left (Int.le_of_lt k1) (show 0 ≤ L - B by omega)
        omega
  · have hS : 0 < dt (cr p q) (cr p q) := sq3_pos hz
    have g1 : L * dt w (cr p q) = 0 := by
      have e : dt p (cr p q) = 0 := by show p 0 * (p 1 * q 2 - p 2 * q 1) + p 1 * (p 2 * q 0 - p 0 * q 2) + p 2 * (p 0 * q 1 - p 1 * q 0) = 0; grind
      have e' : dt q (cr p q) = 0 := by show q 0 * (p 1 * q 2 - p 2 * q 1) + q 1 * (p 2 * q 0 - p 0 * q 2) + q 2 * (p 0 * q 1 - p 1 * q 0) = 0; grind
      have : L * dt w (cr p q) = A * dt p (cr p q) - B * dt q (cr p q) := by
        generalize cr p q = N at *
        unfold dt
        grind
      rw [this, e, e', Int.mul_zero, Int.mul_zero]
      rfl
    refine Or.inr ⟨hz, zmul (by rw [Int.mul_comm]; exact g1) hL0, ?_, ?_⟩
    · refine frac_in hL hA hS ?_
      generalize cr p q = N at *
      generalize cr w q = M at *
      unfold dt
      grind
    · refine frac_in hL ⟨hB1, hB2⟩ hS ?_
      generalize cr p q = N at *
      generalize cr w p = M at *
      unfold dt
      grind
/-- somewhere the two are at one point -/
def TS (p q w : Nat → Int) : Prop := ∃ A B L : Int, 0 < L ∧ prt A L ∧ prt B L ∧ ∀ i, i < 3 → PR p q w A B L i = 0
theorem TS_t {p q w : Nat → Int} (h : TS p q w) : tchC p q w := by obtain ⟨A, B, L, h1, h2, h3, h4⟩ := h; exact tch_of h1 h2 h3 h4
theorem PR_lin (p q w : Nat → Int) (a b A B L A' B' L' : Int) (i : Nat) : PR p q w (a * A + b * A') (a * B + b * B') (a * L + b * L') i = a * PR p q w A B L i + b * PR p q w A' B' L' i := by unfold PR; grind
theorem PR_0 {d p q w : Nat → Int} {A B L : Int} (h : cand d p q w A B L) {k : Nat} (hk : k < 3) (hd : d k ≠ 0) (hx : PR p q w A B L k = 0) : TS p q w := by
  refine ⟨A, B, L, h.1, h.2.1, h.2.2.1, fun i hi => ?_⟩
  have e := h.2.2.2 i k hi hk
  rw [hx, Int.zero_mul] at e
  exact zmul e hd
theorem PR_mix {d p q w : Nat → Int} {A B L A' B' L' : Int} (h : cand d p q w A B L) (h' : cand d p q w A' B' L') {k : Nat} (hk : k < 3) (hd : d k ≠ 0) (hx : 0 < PR p q w A B L k) (hx' : PR p q w A' B' L' k < 0) : TS p q w := by
  have y1 : 0 < -PR p q w A' B' L' k := by omega
  refine ⟨(-PR p q w A' B' L' k) * A + PR p q w A B L k * A', (-PR p q w A' B' L' k) * B + PR p q w A B L k * B', (-PR p q w A' B' L' k) * L + PR p q w A B L k * L', ?_, ?_, ?_, fun i hi => ?_⟩
  · have a := Int.mul_pos y1 h.1
    have b := Int.mul_pos hx h'.1
    omega
  · have a1 := Int.mul_nonneg (Int.le_of_lt y1) h.2.1.1
    have a2 := Int.mul_le_mul_of_nonneg_left h.2.1.2 (Int.le_of_lt y1)
    have b1 := Int.mul_nonneg (Int.le_of_lt hx) h'.2.1.1
    have b2 := Int.mul_le_mul_of_nonneg_left h'.2.1.2 (Int.le_of_lt hx)
    exact ⟨by omega, by omega⟩
  · have a1 := Int.mul_nonneg (Int.le_of_lt y1) h.2.2.1.1
    have a2 := Int.mul_le_mul_of_nonneg_left h.2.2.1.2 (Int.le_of_lt y1)
    have b1 := Int.mul_nonneg (Int.le_of_lt hx) h'.2.2.1.1
    have b2 := Int.mul_le_mul_of_nonneg_left h'.2.2.1.2 (Int.le_of_lt hx)
    exact ⟨by omega, by omega⟩
  · rw [PR_lin]
    have e := h.2.2.2 i k hi hk
    have e' := h'.2.2.2 i k hi hk
    refine zmul (b := d k) ?_ hd
    generalize PR p q w A B L i = u at *
    generalize PR p q w A B L k = uk at *
    generalize PR p q w A' B' L' i = u' at *
    generalize PR p q w A' B' L' k = uk' at *
    grind
/-- where nothing touches, all heights have one sign -/
theorem PR_sg {d p q w : Nat → Int} (hn : ¬ TS p q w) {A B L A' B' L' : Int} (h : cand d p q w A B L) (h' : cand d p q w A' B' L') {k : Nat} (hk : k < 3) (hd : d k ≠ 0) : (0 < PR p q w A B L k ∧ 0 < PR p q w A' B' L' k) ∨ (PR p q w A B L k < 0 ∧ PR p q w A' B' L' k < 0) := by
  have a : PR p q w A B L k ≠ 0 := fun e => hn (PR_0 h hk hd e)
  have b : PR p q w A' B' L' k ≠ 0 := fun e => hn (PR_0 h' hk hd e)
  have c : 0 < PR p q w A B L k → ¬ PR p q w A' B' L' k < 0 := fun e1 e2 => hn (PR_mix h h' hk hd e1 e2)
  have c' : 0 < PR p q w A' B' L' k → ¬ PR p q w A B L k < 0 := fun e1 e2 => hn (PR_mix h' h hk hd e1 e2)
  by_cases e1 : 0 < PR p q w A B L k
  · have : ¬ PR p q w A' B' L' k < 0 := c e1
    omega
  · by_cases e2 : 0 < PR p q w A' B' L' k
    · have : ¬ PR p q w A B L k < 0 := c' e2
      omega
    · omega
/-- a sight's numbers over a set of places -/
def spec (d p q w : Nat → Int) (S : Int → Int → Int → Prop) (s : ofS) : Prop := (0 < s.2.2.1 ∧ 0 < s.2.2.2.2) ∧ (∃ A B L, S A B L ∧ s.2.1 * L = A * s.2.2.1) ∧ (∀ A B L, S A B L → s.2.1 * L ≤ A * s.2.2.1) ∧
  (∃ A B L, S A B L ∧ ∀ i, i < 3 → s.2.2.2.1 * L * d i = s.2.2.2.2 * PR p q w A B L i) ∧ ∀ A B L, S A B L → ∀ i, i < 3 → (s.2.2.2.1.natAbs : Int) * L * ((d i).natAbs : Int) ≤ s.2.2.2.2 * ((PR p q w A B L i).natAbs : Int)
theorem abs_mul (a b : Int) : (((a * b).natAbs : Nat) : Int) = (a.natAbs : Int) * (b.natAbs : Int) := by rw [Int.natAbs_mul]; exact Int.natCast_mul _ _
theorem abs_pos {a : Int} (h : 0 < a) : ((a.natAbs : Nat) : Int) = a := by omega
theorem spec_le {d p q w : Nat → Int} {S : Int → Int → Int → Prop} {s t : ofS} (hS : ∀ A B L, S A B L → cand d p q w A B L) {k : Nat} (hk : k < 3) (hd : d k ≠ 0) (h : spec d p q w S s) (h' : spec d p q w S t) : t.2.1 * s.2.2.1 ≤ s.2.1 * t.2.2.1 ∧ (t.2.2.2.1.natAbs : Int) * s.2.2.2.2 ≤ (s.2.2.2.1.natAbs : Int) * t.2.2.2.2 := by
  obtain ⟨⟨p1, p2⟩, ⟨A, B, L, m1, e1⟩, _, ⟨A2, B2, L2, m2, e2⟩, _⟩ := h
  obtain ⟨⟨q1, q2⟩, _, l1, _, l2⟩ := h'
  have L0 := (hS _ _ _ m1).1
  have L20 := (hS _ _ _ m2).1
  constructor
  · have x := l1 A B L m1
    have y := Int.mul_le_mul_of_nonneg_right x (Int.le_of_lt p1)
    refine Int.le_of_mul_le_mul_right (a := L) ?_ L0
    have z1 : t.2.1 * s.2.2.1 * L = t.2.1 * L * s.2.2.1 := by rw [Int.mul_assoc, Int.mul_comm s.2.2.1 L, ← Int.mul_assoc]
    have z2 : s.2.1 * t.2.2.1 * L = A * t.2.2.1 * s.2.2.1 := by
      rw [Int.mul_assoc, Int.mul_comm t.2.2.1 L, ← Int.mul_assoc, e1, Int.mul_assoc, Int.mul_comm s.2.2.1, ← Int.mul_assoc]
    omega
  · have x := l2 A2 B2 L2 m2 k hk
    have y := Int.mul_le_mul_of_nonneg_right x (Int.le_of_lt p2)
    have e := congrArg (fun z : Int => (z.natAbs : Int)) (e2 k hk)
    simp only [abs_mul] at e
    rw [abs_pos L20, abs_pos p2] at e
    have dp : (0 : Int) < ((d k).natAbs : Int) := by omega
    have Ld := Int.mul_pos L20 dp
    refine Int.le_of_mul_le_mul_right (a := L2 * ((d k).natAbs : Int)) ?_ Ld
    generalize ((d k).natAbs : Int) = D at *
    generalize ((PR p q w A2 B2 L2 k).natAbs : Int) = R at *
    generalize (t.2.2.2.1.natAbs : Int) = T at *
    generalize (s.2.2.2.1.natAbs : Int) = U at *
    generalize s.2.2.2.2 = b at *
    generalize t.2.2.2.2 = c at *
    have z1 : T * b * (L2 * D) = T * L2 * D * b := by grind
    have z2 : U * c * (L2 * D) = c * R * b := by grind
    omega
/-- two sights over the same places tell the same -/
theorem spec_eq {d p q w : Nat → Int} {S : Int → Int → Int → Prop} {s t : ofS} (hS : ∀ A B L, S A B L → cand d p q w A B L) (hn : ¬ TS p q w) {k : Nat} (hk : k < 3) (hd : d k ≠ 0) (h : spec d p q w S s) (h' : spec d p q w S t) : s.2.1 * t.2.2.1 = t.2.1 * s.2.2.1 ∧ s.2.2.2.1 * t.2.2.2.2 = t.2.2.2.1 * s.2.2.2.2 ∧ s.2.2.2.1 ≠ 0 ∧ t.2.2.2.1 ≠ 0 := by
  have a := spec_le hS hk hd h h'
  have b := spec_le hS hk hd h' h
  obtain ⟨⟨p1, p2⟩, _, _, ⟨A, B, L, m, e⟩, _⟩ := h
  obtain ⟨⟨q1, q2⟩, _, _, ⟨A', B', L', m', e'⟩, _⟩ := h'
  have c := PR_sg hn (hS _ _ _ m) (hS _ _ _ m') hk hd
  have L0 := (hS _ _ _ m).1
  have L0' := (hS _ _ _ m').1
  have ek := e k hk
  have ek' := e' k hk
  -- one sign
  have sg : (0 < s.2.2.2.1 ∧ 0 < t.2.2.2.1) ∨ (s.2.2.2.1 < 0 ∧ t.2.2.2.1 < 0) := by
    have aux : ∀ (T l x b : Int), 0 < l → 0 < b → T * l * d k = b * x → x ≠ 0 → (0 < T ↔ 0 < x * d k) ∧ T ≠ 0 := by
      intro T l x b hl hb hq hx
      have T0 : T ≠ 0 := fun z => by
        rw [z, Int.zero_mul, Int.zero_mul] at hq
        exact hx (zmul (by rw [Int.mul_comm]; exact hq.symm) (by omega))
      have dd : 0 < d k * d k := by
        rcases Int.lt_or_gt_of_ne hd with z | z
        · exact Int.mul_pos_of_neg_of_neg z z
        · exact Int.mul_pos z z
      have q2 : T * (l * (d k * d k)) = b * (x * d k) := by rw [← Int.mul_assoc, ← Int.mul_assoc, hq, Int.mul_assoc]
      have ldd := Int.mul_pos hl dd
      refine ⟨⟨fun z => ?_, fun z => ?_⟩, T0⟩
      · have := Int.mul_pos z ldd
        rw [q2] at this
        exact Int.pos_of_mul_pos_right this hb
      · have := Int.mul_pos hb z
        rw [← q2] at this
        exact Int.pos_of_mul_pos_left this ldd
    have u := aux _ _ _ _ L0 p2 ek (by omega)
    have u' := aux _ _ _ _ L0' q2 ek' (by omega)
    have key : (0 < PR p q w A B L k * d k ↔ 0 < PR p q w A' B' L' k * d k) := by
      rcases Int.lt_or_gt_of_ne hd with z | z
      · rcases c with ⟨c1, c2⟩ | ⟨c1, c2⟩
        · have := Int.mul_neg_of_pos_of_neg c1 z; have := Int.mul_neg_of_pos_of_neg c2 z; omega
        · have := Int.mul_pos_of_neg_of_neg c1 z; have := Int.mul_pos_of_neg_of_neg c2 z; omega
      · rcases c with ⟨c1, c2⟩ | ⟨c1, c2⟩
        · have := Int.mul_pos c1 z; have := Int.mul_pos c2 z; omega
        · have := Int.mul_neg_of_neg_of_pos c1 z; have := Int.mul_neg_of_neg_of_pos c2 z; omega
    omega
  refine ⟨by omega, ?_, by omega, by omega⟩
  rcases sg with ⟨s1, s2⟩ | ⟨s1, s2⟩
  · rw [abs_pos s1, abs_pos s2] at a b
    omega
  · have n1 : ((s.2.2.2.1.natAbs : Nat) : Int) = -s.2.2.2.1 := by omega
    have n2 : ((t.2.2.2.1.natAbs : Nat) : Int) = -t.2.2.2.1 := by omega
    rw [n1, n2, Int.neg_mul, Int.neg_mul] at a b
    omega
