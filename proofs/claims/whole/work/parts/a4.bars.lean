/-! who bars whom: the class's table and the model's are one -/
theorem sg_aux {D T l x b : Int} (hd : D ≠ 0) (hl : 0 < l) (hb : 0 < b) (hq : T * l * D = b * x) (hx : x ≠ 0) : (0 < T ↔ 0 < x * D) ∧ T ≠ 0 := by
  have T0 : T ≠ 0 := fun z => by
    rw [z, Int.zero_mul, Int.zero_mul] at hq
    exact hx (zmul (by rw [Int.mul_comm]; exact hq.symm) (by omega))
  have dd : 0 < D * D := by
    rcases Int.lt_or_gt_of_ne hd with z | z
    · exact Int.mul_pos_of_neg_of_neg z z
    · exact Int.mul_pos z z
  have q2 : T * (l * (D * D)) = b * (x * D) := by rw [← Int.mul_assoc, ← Int.mul_assoc, hq, Int.mul_assoc]
  have ldd := Int.mul_pos hl dd
  refine ⟨⟨fun z => ?_, fun z => ?_⟩, T0⟩
  · have := Int.mul_pos z ldd
    rw [q2] at this
    exact Int.pos_of_mul_pos_right this hb
  · have := Int.mul_pos hb z
    rw [← q2] at this
    exact Int.pos_of_mul_pos_left this ldd
theorem sg_pr {x y D : Int} (hd : D ≠ 0) (h : (0 < x ∧ 0 < y) ∨ (x < 0 ∧ y < 0)) : (0 < x * D ↔ 0 < y * D) ∧ (0 < x * D ↔ ¬ 0 < -y * D) := by
  rw [Int.neg_mul]
  rcases Int.lt_or_gt_of_ne hd with z | z
  · rcases h with ⟨c1, c2⟩ | ⟨c1, c2⟩
    · have := Int.mul_neg_of_pos_of_neg c1 z; have := Int.mul_neg_of_pos_of_neg c2 z; omega
    · have := Int.mul_pos_of_neg_of_neg c1 z; have := Int.mul_pos_of_neg_of_neg c2 z; omega
  · rcases h with ⟨c1, c2⟩ | ⟨c1, c2⟩
    · have := Int.mul_pos c1 z; have := Int.mul_pos c2 z; omega
    · have := Int.mul_neg_of_neg_of_pos c1 z; have := Int.mul_neg_of_neg_of_pos c2 z; omega
theorem h_sign {d p q w : Nat → Int} {s : ofS} (hn : ¬ TS p q w) {k : Nat} (hk : k < 3) (hd : d k ≠ 0) (h : spec d p q w (Sx d p q w) s) {A B L : Int} (hx : Sx d p q w A B L) : (0 < s.2.2.2.1 ↔ 0 < PR p q w A B L k * d k) ∧ PR p q w A B L k ≠ 0 := by
  obtain ⟨⟨_, p2⟩, _, _, ⟨A', B', L', m, e⟩, _⟩ := h
  have c := PR_sg hn (Sx_cand m) (Sx_cand hx) hk hd
  have a := sg_aux hd (Sx_cand m).1 p2 (e k hk) (by omega)
  exact ⟨a.1.trans (sg_pr hd c).1, by omega⟩
theorem see_eq {d p q w : Nat → Int} (hz : ¬ z3 d) (hn : ¬ TS p q w) : (sb d p q w (wide d) ↔ mCs d p q w ≠ []) ∧ (sb d p q w (wide d) → (sv d p q w (wide d)).2.1 * (mcV d p q w).2.2.1 = (mcV d p q w).2.1 * (sv d p q w (wide d)).2.2.1 ∧ (sv d p q w (wide d)).2.2.2.1 * (mcV d p q w).2.2.2.2 = (mcV d p q w).2.2.2.1 * (sv d p q w (wide d)).2.2.2.2 ∧ (0 < (sv d p q w (wide d)).2.2.2.1 ↔ 0 < (mcV d p q w).2.2.2.1)) := by
  have c := cls_x (p := p) (q := q) (w := w) hz
  have m := mod_x (u := p) (v := q) (w := w) hz
  have hk := wide_lt d
  have hdk : d (wide d) ≠ 0 := fun z => hz (wide_z z)
  refine ⟨c.1.trans m.1.symm, fun h => ?_⟩
  obtain ⟨A, B, L, hx⟩ := c.1.1 h
  have s1 := c.2 h
  have s2 := m.2 ((c.1.trans m.1.symm).1 h)
  have e := spec_eq (fun A B L hx => Sx_cand hx) hn hk hdk s1 s2
  exact ⟨e.1, e.2.1, (h_sign hn hk hdk s1 hx).1.trans (h_sign hn hk hdk s2 hx).1.symm⟩
theorem TS_sw {p q w : Nat → Int} (h : TS p q w) : TS q p (ngv w) := by
  obtain ⟨A, B, L, h1, h2, h3, h4⟩ := h
  exact ⟨B, A, L, h1, h3, h2, fun i hi => by rw [PR_sw, h4 i hi]; rfl⟩
theorem TS_sw2 {p q w : Nat → Int} (h : TS q p (ngv w)) : TS p q w := by have := TS_sw h; rw [ngv2] at this; exact this
theorem see_sw {d p q w : Nat → Int} (hz : ¬ z3 d) (hn : ¬ TS p q w)  : (sb d q p (ngv w) (wide d) ↔ mCs d p q w ≠ []) ∧ (sb d q p (ngv w) (wide d) → (¬ 0 < (sv d q p (ngv w) (wide d)).2.2.2.1 ↔ 0 < (mcV d p q w).2.2.2.1)) := by
  have hn' : ¬ TS q p (ngv w) := fun k => hn (TS_sw2 k)
  have c := cls_x (p := q) (q := p) (w := ngv w) hz
  have m := mod_x (u := p) (v := q) (w := w) hz
  have hk := wide_lt d
  have hdk : d (wide d) ≠ 0 := fun z => hz (wide_z z)
  have ex : (∃ A B L, Sx d q p (ngv w) A B L) ↔ ∃ A B L, Sx d p q w A B L := ⟨fun ⟨A, B, L, h⟩ => ⟨B, A, L, Sx_swi.1 h⟩, fun ⟨A, B, L, h⟩ => ⟨B, A, L, Sx_swi.2 h⟩⟩
  have e0 := (c.1.trans ex).trans m.1.symm
  refine ⟨e0, fun h => ?_⟩
  obtain ⟨A, B, L, hx⟩ := m.1.1 (e0.1 h)
  have s1 := c.2 h
  have s2 := m.2 (e0.1 h)
  have a1 := h_sign hn' hk hdk s1 (Sx_swi.2 hx)
  have a2 := h_sign hn hk hdk s2 hx
  rw [PR_sw] at a1
  have n := a2.2
  rw [a1.1, a2.1]
  exact (sg_pr (x := PR p q w A B L (wide d)) (y := PR p q w A B L (wide d)) hdk (by omega)).2.symm
/-- nothing on the table touches -/
def NT (gn : Nat) (σ : Nat → xSt) : Prop := ∀ s t, s < gn → t < gn → s ≠ t → hrS (σ s) = 1 → hrS (σ t) = 1 → ∀ i j, i < pcS (σ s) → j < pcS (σ t) → ¬ TS (dv (ptS (σ s)) i) (dv (ptS (σ t)) j) (gv (ptS (σ s)) i (ptS (σ t)) j)
theorem NT_p {gn : Nat} {σ : Nat → xSt} (h : NT gn σ) {s t i j : Nat} (hs : s < gn) (ht : t < gn) (hst : s ≠ t) (h1 : hrS (σ s) = 1) (h2 : hrS (σ t) = 1) (hi : i < pcS (σ s)) (hj : j < pcS (σ t)) : ¬ TS (dv (ptS (σ s)) i) (dv (ptS (σ t)) j) (gv (ptS (σ s)) i (ptS (σ t)) j) := h s t hs ht hst h1 h2 i j hi hj
theorem gv_ng (A B : Nat → Int) (i j : Nat) : gv B j A i = ngv (gv A i B j) := by
  funext k
  show A (3 * i + k) - B (3 * j + k) = -(B (3 * j + k) - A (3 * i + k))
  omega
theorem seB_x {gn : Nat} {σ : Nat → xSt} {d : Nat → Int} (hz : ¬ z3 d) (h : NT gn σ) {s t i j : Nat} (hs : s < gn) (ht : t < gn) (hst : s ≠ t) (h1 : hrS (σ s) = 1) (h2 : hrS (σ t) = 1) (hi : i < pcS (σ s)) (hj : j < pcS (σ t)) : (seB d (σ s) i (σ t) j ↔ xB d (σ s) i (σ t) j) ∧ (seB d (σ s) i (σ t) j → (seV d (σ s) i (σ t) j).2.1 * (xVl d (σ s) i (σ t) j).2.2.1 = (xVl d (σ s) i (σ t) j).2.1 * (seV d (σ s) i (σ t) j).2.2.1 ∧ (seV d (σ s) i (σ t) j).2.2.2.1 * (xVl d (σ s) i (σ t) j).2.2.2.2 = (xVl d (σ s) i (σ t) j).2.2.2.1 * (seV d (σ s) i (σ t) j).2.2.2.2 ∧ (0 < (seV d (σ s) i (σ t) j).2.2.2.1 ↔ 0 < (xVl d (σ s) i (σ t) j).2.2.2.1)) :=
  see_eq hz (NT_p h hs ht hst h1 h2 hi hj)
theorem seB_sw {gn : Nat} {σ : Nat → xSt} {d : Nat → Int} (hz : ¬ z3 d) (h : NT gn σ) {s t i j : Nat} (hs : s < gn) (ht : t < gn) (hst : s ≠ t) (h1 : hrS (σ s) = 1) (h2 : hrS (σ t) = 1) (hi : i < pcS (σ s)) (hj : j < pcS (σ t)) : (seB d (σ t) j (σ s) i ↔ xB d (σ s) i (σ t) j) ∧ (seB d (σ t) j (σ s) i → (¬ 0 < (seV d (σ t) j (σ s) i).2.2.2.1 ↔ 0 < (xVl d (σ s) i (σ t) j).2.2.2.1)) := by
  have a := see_sw (p := dv (ptS (σ s)) i) (q := dv (ptS (σ t)) j) (w := gv (ptS (σ s)) i (ptS (σ t)) j) hz (NT_p h hs ht hst h1 h2 hi hj)
  rw [← gv_ng] at a
  exact a
theorem AB_bar {gn : Nat} {σ : Nat → xSt} {d : Nat → Int} {sz : Nat} {N : Nat → Nat} (hz : ¬ z3 d) (h : NT gn σ) (hN : onO gn σ sz N) {p q : Nat} (hp : p < sz) (hq : q < sz) : AB d σ N p q ↔ mBar d σ (N q) (N p) := by
  have np := hN.2 p hp
  have nq := hN.2 q hq
  constructor
  · rintro (⟨hlt, i, j, hi, hj, hb, hu⟩ | ⟨hlt, i, j, hi, hj, hb, hu⟩)
    · have ne := onO_lt hN hlt hq
      have a := seB_x hz h np.1 nq.1 (by omega) np.2.1 nq.2.1 hi hj
      exact ⟨by omega, i, j, hi, hj, a.1.1 hb, (a.2 hb).2.2.1 hu⟩
    · have ne := onO_lt hN hlt hp
      have a := seB_sw hz h np.1 nq.1 (by omega) np.2.1 nq.2.1 hj hi
      exact ⟨by omega, j, i, hj, hi, a.1.1 hb, (a.2 hb).1 hu⟩
  · rintro ⟨hne, i, j, hi, hj, hb, hu⟩
    rcases Nat.lt_trichotomy p q with k | k | k
    · have a := seB_x hz h np.1 nq.1 (fun e => hne e.symm) np.2.1 nq.2.1 hi hj
      have hb' := a.1.2 hb
      exact Or.inl ⟨k, i, j, hi, hj, hb', (a.2 hb').2.2.2 hu⟩
    · subst k; exact absurd rfl hne
    · have a := seB_sw hz h np.1 nq.1 (fun e => hne e.symm) np.2.1 nq.2.1 hi hj
      have hb' := a.1.2 hb
      exact Or.inr ⟨k, j, i, hj, hi, hb', (a.2 hb').2 hu⟩
theorem tgG_av {gn : Nat} {σ : Nat → xSt} {d : Nat → Int} {sz : Nat} {N : Nat → Nat} {c w : Nat → Int} {av bv : Nat → Nat} (hz : ¬ z3 d) (h : NT gn σ) (hG : tgG gn σ d sz N c w av bv) : onO gn σ sz N ∧ avR sz av (fun i j => mBar d σ (N i) (N j)) ∧ (∀ i j, i < sz → ((bv i).testBit j = true ↔ (j < sz ∧ mBar d σ (N i) (N j)))) ∧ (∀ p, p < sz → c p = (N p : Int)) ∧ ∀ p, p < sz → w p = woS (σ (N p)) := by
  obtain ⟨h1, h2, h3, h4, h5⟩ := hG
  have hN : onO gn σ sz N := ⟨h1, fun p hp => ⟨(h3 p hp).1, (h3 p hp).2.1, (h3 p hp).2.2.1⟩⟩
  refine ⟨hN, fun i j hi => ?_, fun i j hi => ?_, fun p hp => (h3 p hp).2.2.2.1, fun p hp => (h3 p hp).2.2.2.2⟩
  · rw [h4 i j hi]
    exact ⟨fun k => ⟨k.1, (AB_bar hz h hN hi k.1).1 k.2⟩, fun k => ⟨k.1, (AB_bar hz h hN hi k.1).2 k.2⟩⟩
  · rw [h5 i j hi]
    exact ⟨fun k => ⟨k.1, (AB_bar hz h hN k.1 hi).1 k.2⟩, fun k => ⟨k.1, (AB_bar hz h hN k.1 hi).2 k.2⟩⟩
