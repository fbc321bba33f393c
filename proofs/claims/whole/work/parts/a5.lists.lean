/-! the crossings of a stick: the class's list and the model's -/
def precP (c d : xC7) : Prop := c.1 < d.1 ∨ (c.1 = d.1 ∧ (c.2.2.2.1 * d.2.2.2.2.1 < d.2.2.2.1 * c.2.2.2.2.1 ∨ (c.2.2.2.1 * d.2.2.2.2.1 = d.2.2.2.1 * c.2.2.2.2.1 ∧ (c.2.1 < d.2.1 ∨ (c.2.1 = d.2.1 ∧ c.2.2.1 < d.2.2.1)))))
theorem prec_iff (c d : xC7) : prec c d = true ↔ precP c d := by
  unfold prec precP
  by_cases h1 : c.1 = d.1
  · rw [if_neg (fun k => k h1)]
    by_cases h2 : c.2.2.2.1 * d.2.2.2.2.1 = d.2.2.2.1 * c.2.2.2.2.1
    · rw [if_neg (fun k => k h2)]
      by_cases h3 : c.2.1 = d.2.1
      · rw [if_neg (fun k => k h3), decide_eq_true_eq]
        omega
      · rw [if_pos h3, decide_eq_true_eq]
        omega
    · rw [if_pos h2, decide_eq_true_eq]
      omega
  · rw [if_pos h1, decide_eq_true_eq]
    omega
def ps7 (c : xC7) : Prop := 0 < c.2.2.2.2.1 ∧ 0 < c.2.2.2.2.2.2
theorem fr_lt1 {a l pt pb A L : Int} (hl : 0 < l) (hpb : 0 < pb) (hL : 0 < L) (h1 : a * pb < pt * l) (h2 : pt * L ≤ A * pb) : a * L < A * l := by
  have x1 := Int.mul_lt_mul_of_pos_right h1 hL
  have x2 := Int.mul_le_mul_of_nonneg_right h2 (Int.le_of_lt hl)
  refine Int.lt_of_mul_lt_mul_right (a := pb) ?_ (Int.le_of_lt hpb)
  have z1 : a * L * pb = a * pb * L := by grind
  have z2 : A * l * pb = A * pb * l := by grind
  have z3 : pt * l * L = pt * L * l := by grind
  omega
theorem fr_lt2 {a l pt pb A L : Int} (hl : 0 < l) (hpb : 0 < pb) (hL : 0 < L) (h1 : a * pb ≤ pt * l) (h2 : pt * L < A * pb) : a * L < A * l := by
  have x1 := Int.mul_le_mul_of_nonneg_right h1 (Int.le_of_lt hL)
  have x2 := Int.mul_lt_mul_of_pos_right h2 hl
  refine Int.lt_of_mul_lt_mul_right (a := pb) ?_ (Int.le_of_lt hpb)
  have z1 : a * L * pb = a * pb * L := by grind
  have z2 : A * l * pb = A * pb * l := by grind
  have z3 : pt * l * L = pt * L * l := by grind
  omega
theorem fr_eq {a l pt pb A L : Int} (hpb : 0 < pb) (h1 : a * pb = pt * l) (h2 : pt * L = A * pb) : a * L = A * l := by
  refine Int.eq_of_mul_eq_mul_right (a := pb) (by omega) ?_
  grind
theorem prec_tr {a b c : xC7} (ha : ps7 a) (hb : ps7 b) (hc : ps7 c) (h1 : precP a b) (h2 : precP b c) : precP a c := by
  rcases h1 with h1 | ⟨h1, g1⟩
  · rcases h2 with h2 | ⟨h2, _⟩
    · exact Or.inl (by omega)
    · exact Or.inl (by omega)
  · rcases h2 with h2 | ⟨h2, g2⟩
    · exact Or.inl (by omega)
    · refine Or.inr ⟨by omega, ?_⟩
      rcases g1 with g1 | ⟨g1, k1⟩
      · rcases g2 with g2 | ⟨g2, _⟩
        · exact Or.inl (fr_lt1 ha.1 hb.1 hc.1 g1 (Int.le_of_lt g2))
        · exact Or.inl (fr_lt1 ha.1 hb.1 hc.1 g1 (Int.le_of_eq g2))
      · rcases g2 with g2 | ⟨g2, k2⟩
        · exact Or.inl (fr_lt2 ha.1 hb.1 hc.1 (Int.le_of_eq g1) g2)
        · exact Or.inr ⟨fr_eq hb.1 g1 g2, by omega⟩
theorem prec_as {a b : xC7} (h1 : precP a b) (h2 : precP b a) : False := by
  unfold precP at h1 h2
  omega
theorem prec_tot {a b : xC7} (h : a.1 ≠ b.1 ∨ a.2.1 ≠ b.2.1 ∨ a.2.2.1 ≠ b.2.2.1) : precP a b ∨ precP b a := by
  unfold precP
  omega
def rwE (c c' : xC7) : Prop := c.1 = c'.1 ∧ c.2.1 = c'.2.1 ∧ c.2.2.1 = c'.2.2.1 ∧ c.2.2.2.1 * c'.2.2.2.2.1 = c'.2.2.2.1 * c.2.2.2.2.1 ∧ c.2.2.2.2.2.1 * c'.2.2.2.2.2.2 = c'.2.2.2.2.2.1 * c.2.2.2.2.2.2
theorem rwE_sy {c c' : xC7} (h : rwE c c') : rwE c' c := ⟨h.1.symm, h.2.1.symm, h.2.2.1.symm, h.2.2.2.1.symm, h.2.2.2.2.symm⟩
theorem prec_cg {a b a' b' : xC7} (ha : ps7 a) (hb : ps7 b) (ha' : ps7 a') (hb' : ps7 b') (e : rwE a a') (e' : rwE b b') (h : precP a b) : precP a' b' := by
  obtain ⟨e1, e2, e3, e4, _⟩ := e
  obtain ⟨f1, f2, f3, f4, _⟩ := e'
  rcases h with h | ⟨h, g⟩
  · exact Or.inl (by omega)
  · refine Or.inr ⟨by omega, ?_⟩
    rcases g with g | ⟨g, k⟩
    · refine Or.inl ?_
      have x := fr_lt2 ha'.1 ha.1 hb.1 (Int.le_of_eq e4.symm) g
      exact fr_lt1 ha'.1 hb.1 hb'.1 x (Int.le_of_eq f4)
    · refine Or.inr ⟨?_, by omega⟩
      have x := fr_eq ha.1 e4.symm g
      exact fr_eq hb.1 x f4
/-- a list that holds these rows, in their order -/
def srtL (l : xLs) : Prop := ∀ a b, a < b → b < l.1 → precP (l.2 a) (l.2 b)
def memL (l : xLs) (T : Nat → Nat → Nat → Prop) (V : Nat → Nat → Nat → ofS) : Prop := (∀ a, a < l.1 → ∃ i o j, T i o j ∧ l.2 a = crOf (i : Int) (o : Int) (j : Int) (V i o j)) ∧ ∀ i o j, T i o j → ∃ a, a < l.1 ∧ l.2 a = crOf (i : Int) (o : Int) (j : Int) (V i o j)
def posV (T : Nat → Nat → Nat → Prop) (V : Nat → Nat → Nat → ofS) : Prop := ∀ i o j, T i o j → 0 < (V i o j).2.2.1 ∧ 0 < (V i o j).2.2.2.2
theorem memL_ps {l : xLs} {T : Nat → Nat → Nat → Prop} {V : Nat → Nat → Nat → ofS} (h : memL l T V) (hp : posV T V) {a : Nat} (ha : a < l.1) : ps7 (l.2 a) := by
  obtain ⟨i, o, j, ht, e⟩ := h.1 a ha
  rw [e]; exact hp i o j ht
theorem insP_sp (c : xC7) (L : Nat → xC7) : ∀ k, (∀ j, insP c L k ≤ j → j < k → precP c (L j)) ∧ (insP c L k = 0 ∨ ¬ precP c (L (insP c L k - 1))) := by
  intro k
  induction k with
  | zero => exact ⟨fun j _ h => absurd h (Nat.not_lt_zero _), Or.inl rfl⟩
  | succ k ih =>
    have le := insP_le c L k
    rw [insP]
    by_cases h : prec c (L k) = true
    · rw [if_pos h]
      refine ⟨fun j h1 h2 => ?_, ih.2⟩
      by_cases e : j = k
      · subst e; exact (prec_iff _ _).1 h
      · exact ih.1 j h1 (by omega)
    · rw [if_neg h]
      refine ⟨fun j h1 h2 => by omega, Or.inr ?_⟩
      rw [Nat.add_sub_cancel]
      exact fun z => h ((prec_iff _ _).2 z)
theorem ins_ok {l : xLs} {T : Nat → Nat → Nat → Prop} {V : Nat → Nat → Nat → ofS} {i o j : Nat} (hs : srtL l) (hm : memL l T V) (hp : posV T V) (hV : 0 < (V i o j).2.2.1 ∧ 0 < (V i o j).2.2.2.2) (hn : ¬ T i o j) : srtL (insT (crOf (i : Int) (o : Int) (j : Int) (V i o j)) l) ∧ memL (insT (crOf (i : Int) (o : Int) (j : Int) (V i o j)) l) (fun i' o' j' => T i' o' j' ∨ (i' = i ∧ o' = o ∧ j' = j)) V := by
  obtain ⟨c, hc⟩ : ∃ c, c = crOf (i : Int) (o : Int) (j : Int) (V i o j) := ⟨_, rfl⟩
  rw [← hc]
  have pc : ps7 c := by rw [hc]; exact hV
  have sp := insP_sp c l.2 l.1
  have le := insP_le c l.2 l.1
  have tot : ∀ a, a < l.1 → precP c (l.2 a) ∨ precP (l.2 a) c := by
    intro a ha
    obtain ⟨i', o', j', ht, e⟩ := hm.1 a ha
    refine prec_tot ?_
    rw [e, hc]
    show (i : Int) ≠ (i' : Int) ∨ (o : Int) ≠ (o' : Int) ∨ (j : Int) ≠ (j' : Int)
    refine Classical.byContradiction (fun z => hn ?_)
    have e1 : i = i' := by omega
    have e2 : o = o' := by omega
    have e3 : j = j' := by omega
    rw [e1, e2, e3]; exact ht
  have lo : ∀ a, a < insP c l.2 l.1 → precP (l.2 a) c := by
    intro a ha
    have q := sp.2
    have hl : precP (l.2 (insP c l.2 l.1 - 1)) c := by
      rcases tot (insP c l.2 l.1 - 1) (by omega) with k | k
      · rcases q with q | q
        · omega
        · exact absurd k q
      · exact k
    by_cases e : a = insP c l.2 l.1 - 1
    · rw [e]; exact hl
    · exact prec_tr (memL_ps hm hp (by omega)) (memL_ps hm hp (by omega)) pc (hs a _ (by omega) (by omega)) hl
  constructor
  · intro a b hab hb
    have hb' : b < l.1 + 1 := hb
    show precP (insL l.2 (insP c l.2 l.1) c a) (insL l.2 (insP c l.2 l.1) c b)
    unfold insL
    by_cases e1 : b < insP c l.2 l.1
    · rw [if_pos (by omega), if_pos e1]; exact hs a b hab (by omega)
    · rw [if_neg e1]
      by_cases e2 : b = insP c l.2 l.1
      · rw [if_pos e2, if_pos (by omega)]; exact lo a (by omega)
      · rw [if_neg e2]
        by_cases e3 : a < insP c l.2 l.1
        · rw [if_pos e3]
          exact hs a (b - 1) (by omega) (by omega)
        · rw [if_neg e3]
          by_cases e4 : a = insP c l.2 l.1
          · rw [if_pos e4]; exact sp.1 (b - 1) (by omega) (by omega)
          · rw [if_neg e4]; exact hs (a - 1) (b - 1) (by omega) (by omega)
  · constructor
    · intro a ha
      have ha' : a < l.1 + 1 := ha
      show ∃ i' o' j', _ ∧ insL l.2 (insP c l.2 l.1) c a = _
      unfold insL
      by_cases e1 : a < insP c l.2 l.1
      · rw [if_pos e1]
        obtain ⟨i', o', j', ht, e⟩ := hm.1 a (by omega)
        exact ⟨i', o', j', Or.inl ht, e⟩
      · rw [if_neg e1]
        by_cases e2 : a = insP c l.2 l.1
        · rw [if_pos e2]; exact ⟨i, o, j, Or.inr ⟨rfl, rfl, rfl⟩, hc⟩
        · rw [if_neg e2]
          obtain ⟨i', o', j', ht, e⟩ := hm.1 (a - 1) (by omega)
          exact ⟨i', o', j', Or.inl ht, e⟩
    · rintro i' o' j' (ht | ⟨rfl, rfl, rfl⟩)
      · obtain ⟨a, ha, e⟩ := hm.2 i' o' j' ht
        by_cases e1 : a < insP c l.2 l.1
        · refine ⟨a, by show a < l.1 + 1; omega, ?_⟩
          show insL l.2 (insP c l.2 l.1) c a = _
          unfold insL
          rw [if_pos e1]; exact e
        · refine ⟨a + 1, by show a + 1 < l.1 + 1; omega, ?_⟩
          show insL l.2 (insP c l.2 l.1) c (a + 1) = _
          unfold insL
          rw [if_neg (by omega), if_neg (by omega)]; exact e
      · refine ⟨insP c l.2 l.1, by show _ < l.1 + 1; omega, ?_⟩
        show insL l.2 (insP c l.2 l.1) c (insP c l.2 l.1) = _
        unfold insL
        rw [if_neg (by omega), if_pos rfl]; exact hc
theorem memL_cg {l : xLs} {T T' : Nat → Nat → Nat → Prop} {V : Nat → Nat → Nat → ofS} (h : memL l T V) (e : ∀ i o j, T i o j ↔ T' i o j) : memL l T' V := ⟨fun a ha => by obtain ⟨i, o, j, ht, q⟩ := h.1 a ha; exact ⟨i, o, j, (e i o j).1 ht, q⟩, fun i o j ht => h.2 i o j ((e i o j).2 ht)⟩
/-- what the class's list comes to -/
def tC (d : Nat → Int) (σ : Nat → xSt) (s : Nat) (i o j : Nat) : Prop := i < pcS (σ s) ∧ (o ≠ s ∧ hrS (σ o) = 1) ∧ j < pcS (σ o) ∧ seB d (σ s) i (σ o) j
theorem lcJ_ok {d : Nat → Int} {σ : Nat → xSt} {s o i : Nat} (hV : ∀ j, j < pcS (σ o) → seB d (σ s) i (σ o) j → 0 < (seV d (σ s) i (σ o) j).2.2.1 ∧ 0 < (seV d (σ s) i (σ o) j).2.2.2.2) : ∀ (m j : Nat) (l : xLs) (T : Nat → Nat → Nat → Prop), j + m = pcS (σ o) → srtL l → memL l T (fun i o j => seV d (σ s) i (σ o) j) → posV T (fun i o j => seV d (σ s) i (σ o) j) → (∀ j', j ≤ j' → ¬ T i o j') →
    srtL (lcJ d (σ s) o (σ o) i m j l) ∧ memL (lcJ d (σ s) o (σ o) i m j l) (fun i' o' j' => T i' o' j' ∨ (i' = i ∧ o' = o ∧ (j ≤ j' ∧ j' < pcS (σ o)) ∧ seB d (σ s) i (σ o) j')) (fun i o j => seV d (σ s) i (σ o) j) := by
  intro m
  induction m with
  | zero =>
    intro j l T hj h1 h2 h3 h4
    exact ⟨h1, memL_cg h2 (fun i' o' j' => ⟨Or.inl, fun k => by rcases k with k | k; exact k; omega⟩)⟩
  | succ m ih =>
    intro j l T hj h1 h2 h3 h4
    unfold lcJ
    by_cases hb : seB d (σ s) i (σ o) j
    · rw [lcP_y hb]
      have a := ins_ok (V := fun i o j => seV d (σ s) i (σ o) j) h1 h2 h3 (hV j (by omega) hb) (h4 j (Nat.le_refl _))
      have r := ih (j + 1) _ _ (by omega) a.1 a.2 (fun i' o' j' k => by
        rcases k with k | ⟨rfl, rfl, rfl⟩
        · exact h3 i' o' j' k
        · exact hV j' (by omega) hb) (fun j' hj' k => by
        rcases k with k | ⟨_, _, k⟩
        · exact h4 j' (by omega) k
        · omega)
      refine ⟨r.1, memL_cg r.2 (fun i' o' j' => ⟨?_, ?_⟩)⟩
      · rintro ((k | ⟨k1, k2, k3⟩) | ⟨k1, k2, k3, k4⟩)
        · exact Or.inl k
        · exact Or.inr ⟨k1, k2, ⟨by omega, by omega⟩, by rw [k3]; exact hb⟩
        · exact Or.inr ⟨k1, k2, ⟨by omega, by omega⟩, k4⟩
      · rintro (k | ⟨k1, k2, k3, k4⟩)
        · exact Or.inl (Or.inl k)
        · by_cases e : j' = j
          · exact Or.inl (Or.inr ⟨k1, k2, e⟩)
          · exact Or.inr ⟨k1, k2, ⟨by omega, by omega⟩, k4⟩
    · rw [lcP_n hb]
      have r := ih (j + 1) l T (by omega) h1 h2 h3 (fun j' hj' => h4 j' (by omega))
      refine ⟨r.1, memL_cg r.2 (fun i' o' j' => ⟨?_, ?_⟩)⟩
      · rintro (k | ⟨k1, k2, k3, k4⟩)
        · exact Or.inl k
        · exact Or.inr ⟨k1, k2, ⟨by omega, by omega⟩, k4⟩
      · rintro (k | ⟨k1, k2, k3, k4⟩)
        · exact Or.inl k
        · by_cases e : j' = j
          · rw [e] at k4; exact absurd k4 hb
          · exact Or.inr ⟨k1, k2, ⟨by omega, by omega⟩, k4⟩
theorem lcI_ok {d : Nat → Int} {σ : Nat → xSt} {s o : Nat} (hV : ∀ i j, i < pcS (σ s) → j < pcS (σ o) → seB d (σ s) i (σ o) j → 0 < (seV d (σ s) i (σ o) j).2.2.1 ∧ 0 < (seV d (σ s) i (σ o) j).2.2.2.2) : ∀ (m i : Nat) (l : xLs) (T : Nat → Nat → Nat → Prop), i + m = pcS (σ s) → srtL l → memL l T (fun i o j => seV d (σ s) i (σ o) j) → posV T (fun i o j => seV d (σ s) i (σ o) j) → (∀ i' j', i ≤ i' → ¬ T i' o j') →
    srtL (lcI d (σ s) o (σ o) m i l) ∧ memL (lcI d (σ s) o (σ o) m i l) (fun i' o' j' => T i' o' j' ∨ (o' = o ∧ (i ≤ i' ∧ i' < pcS (σ s)) ∧ j' < pcS (σ o) ∧ seB d (σ s) i' (σ o) j')) (fun i o j => seV d (σ s) i (σ o) j) := by
  intro m
  induction m with
  | zero =>
    intro i l T hi h1 h2 h3 h4
    exact ⟨h1, memL_cg h2 (fun i' o' j' => ⟨Or.inl, fun k => by rcases k with k | k; exact k; omega⟩)⟩
  | succ m ih =>
    intro i l T hi h1 h2 h3 h4
    unfold lcI
    have a := lcJ_ok (fun j hj hb => hV i j (by omega) hj hb) (pcS (σ o)) 0 l T (by omega) h1 h2 h3 (fun j' _ => h4 i j' (Nat.le_refl _))
    have r := ih (i + 1) _ _ (by omega) a.1 a.2 (fun i' o' j' k => by
      rcases k with k | ⟨rfl, rfl, k, k4⟩
      · exact h3 i' o' j' k
      · exact hV i' j' (by omega) (by omega) k4) (fun i' j' hi' k => by
      rcases k with k | ⟨k, _⟩
      · exact h4 i' j' (by omega) k
      · omega)
    refine ⟨r.1, memL_cg r.2 (fun i' o' j' => ⟨?_, ?_⟩)⟩
    · rintro ((k | ⟨k1, k2, k3, k4⟩) | ⟨k1, k2, k3, k4⟩)
      · exact Or.inl k
      · exact Or.inr ⟨k2, ⟨by omega, by omega⟩, k3.2, by rw [k1]; exact k4⟩
      · exact Or.inr ⟨k1, ⟨by omega, by omega⟩, k3, k4⟩
    · rintro (k | ⟨k1, k2, k3, k4⟩)
      · exact Or.inl (Or.inl k)
      · by_cases e : i' = i
        · exact Or.inl (Or.inr ⟨e, k1, ⟨Nat.zero_le _, k3⟩, by rw [e] at k4; exact k4⟩)
        · exact Or.inr ⟨k1, ⟨by omega, by omega⟩, k3, k4⟩
theorem lcO_ok {d : Nat → Int} {σ : Nat → xSt} {s gn : Nat} (hV : ∀ i o j, o < gn → tC d σ s i o j → 0 < (seV d (σ s) i (σ o) j).2.2.1 ∧ 0 < (seV d (σ s) i (σ o) j).2.2.2.2) : ∀ (m o : Nat) (l : xLs) (T : Nat → Nat → Nat → Prop), o + m = gn → srtL l → memL l T (fun i o j => seV d (σ s) i (σ o) j) → posV T (fun i o j => seV d (σ s) i (σ o) j) → (∀ i' o' j', o ≤ o' → ¬ T i' o' j') →
    srtL (lcO d σ s m o l) ∧ memL (lcO d σ s m o l) (fun i' o' j' => T i' o' j' ∨ ((o ≤ o' ∧ o' < gn) ∧ tC d σ s i' o' j')) (fun i o j => seV d (σ s) i (σ o) j) := by
  intro m
  induction m with
  | zero =>
    intro o l T ho h1 h2 h3 h4
    exact ⟨h1, memL_cg h2 (fun i' o' j' => ⟨Or.inl, fun k => by rcases k with k | k; exact k; omega⟩)⟩
  | succ m ih =>
    intro o l T ho h1 h2 h3 h4
    unfold lcO
    by_cases hc : o ≠ s ∧ hrS (σ o) = 1
    · rw [if_pos hc]
      have a := lcI_ok (fun i j hi hj hb => hV i o j (by omega) ⟨hi, hc, hj, hb⟩) (pcS (σ s)) 0 l T (by omega) h1 h2 h3 (fun i' j' _ => h4 i' o j' (Nat.le_refl _))
      have r := ih (o + 1) _ _ (by omega) a.1 a.2 (fun i' o' j' k => by
        rcases k with k | ⟨rfl, k2, k3, k4⟩
        · exact h3 i' o' j' k
        · exact hV i' o' j' (by omega) ⟨k2.2, hc, k3, k4⟩) (fun i' o' j' hi' k => by
        rcases k with k | ⟨k, _⟩
        · exact h4 i' o' j' (by omega) k
        · omega)
      refine ⟨r.1, memL_cg r.2 (fun i' o' j' => ⟨?_, ?_⟩)⟩
      · rintro ((k | ⟨k1, k2, k3, k4⟩) | ⟨k1, k2⟩)
        · exact Or.inl k
        · subst k1; exact Or.inr ⟨⟨by omega, by omega⟩, k2.2, hc, k3, k4⟩
        · exact Or.inr ⟨⟨by omega, by omega⟩, k2⟩
      · rintro (k | ⟨k1, k2⟩)
        · exact Or.inl (Or.inl k)
        · by_cases e : o' = o
          · subst e; exact Or.inl (Or.inr ⟨rfl, ⟨Nat.zero_le _, k2.1⟩, k2.2.2.1, k2.2.2.2⟩)
          · exact Or.inr ⟨⟨by omega, by omega⟩, k2⟩
    · rw [if_neg hc]
      have r := ih (o + 1) l T (by omega) h1 h2 h3 (fun i' o' j' hi' => h4 i' o' j' (by omega))
      refine ⟨r.1, memL_cg r.2 (fun i' o' j' => ⟨?_, ?_⟩)⟩
      · rintro (k | ⟨k1, k2⟩)
        · exact Or.inl k
        · exact Or.inr ⟨⟨by omega, by omega⟩, k2⟩
      · rintro (k | ⟨k1, k2⟩)
        · exact Or.inl k
        · by_cases e : o' = o
          · subst e; exact absurd k2.2.1 hc
          · exact Or.inr ⟨⟨by omega, by omega⟩, k2⟩
theorem clist_ok {d : Nat → Int} {σ : Nat → xSt} {s gn : Nat} (hV : ∀ i o j, o < gn → tC d σ s i o j → 0 < (seV d (σ s) i (σ o) j).2.2.1 ∧ 0 < (seV d (σ s) i (σ o) j).2.2.2.2) : srtL (clist d gn σ s) ∧ memL (clist d gn σ s) (fun i o j => o < gn ∧ tC d σ s i o j) (fun i o j => seV d (σ s) i (σ o) j) := by
  have r := lcO_ok hV gn 0 (0, fun _ => c00) (fun _ _ _ => False) (by omega) (fun a b _ hb => absurd hb (Nat.not_lt_zero _)) ⟨fun a ha => absurd ha (Nat.not_lt_zero _), fun _ _ _ h => h.elim⟩ (fun _ _ _ h => h.elim) (fun _ _ _ _ h => h)
  refine ⟨r.1, memL_cg r.2 (fun i o j => ⟨?_, fun k => Or.inr ⟨⟨Nat.zero_le _, k.1⟩, k.2⟩⟩)⟩
  rintro (k | ⟨k1, k2⟩)
  · exact k.elim
  · exact ⟨k1.2, k2⟩
/-- two lists of the same rows are the same -/
theorem lists_eq {l l' : xLs} {T : Nat → Nat → Nat → Prop} {V V' : Nat → Nat → Nat → ofS} (h1 : srtL l) (h2 : srtL l') (m1 : memL l T V) (m2 : memL l' T V') (p1 : posV T V) (p2 : posV T V') (hE : ∀ i o j, T i o j → rwE (crOf (i : Int) (o : Int) (j : Int) (V i o j)) (crOf (i : Int) (o : Int) (j : Int) (V' i o j))) : l.1 = l'.1 ∧ ∀ a, a < l.1 → rwE (l.2 a) (l'.2 a) := by
  have f1 : ∀ a, a < l.1 → ∃ b, b < l'.1 ∧ rwE (l.2 a) (l'.2 b) := by
    intro a ha
    obtain ⟨i, o, j, ht, e⟩ := m1.1 a ha
    obtain ⟨b, hb, e'⟩ := m2.2 i o j ht
    exact ⟨b, hb, by rw [e, e']; exact hE i o j ht⟩
  have f2 : ∀ b, b < l'.1 → ∃ a, a < l.1 ∧ rwE (l.2 a) (l'.2 b) := by
    intro b hb
    obtain ⟨i, o, j, ht, e⟩ := m2.1 b hb
    obtain ⟨a, ha, e'⟩ := m1.2 i o j ht
    exact ⟨a, ha, by rw [e, e']; exact hE i o j ht⟩
  have P := fun {a} (ha : a < l.1) => memL_ps m1 p1 ha
  have P' := fun {a} (ha : a < l'.1) => memL_ps m2 p2 ha
  -- an order kept
  have mono : ∀ a b a' b', a < l.1 → b < l.1 → a' < l'.1 → b' < l'.1 → rwE (l.2 a) (l'.2 a') → rwE (l.2 b) (l'.2 b') → (a < b ↔ a' < b') := by
    intro a b a' b' ha hb ha' hb' e e'
    constructor
    · intro k
      have x := prec_cg (P ha) (P hb) (P' ha') (P' hb') e e' (h1 a b k hb)
      refine Nat.lt_of_not_le (fun z => ?_)
      by_cases q : b' = a'
      · subst q; exact prec_as x x
      · exact prec_as x (h2 b' a' (by omega) ha')
    · intro k
      have x := prec_cg (P' ha') (P' hb') (P ha) (P hb) (rwE_sy e) (rwE_sy e') (h2 a' b' k hb')
      refine Nat.lt_of_not_le (fun z => ?_)
      by_cases q : b = a
      · subst q; exact prec_as x x
      · exact prec_as x (h1 b a (by omega) ha)
  have all : ∀ n a, a < n → (a < l.1 → a < l'.1 ∧ rwE (l.2 a) (l'.2 a)) ∧ (a < l'.1 → a < l.1) := by
    intro n
    induction n with
    | zero => intro a h; omega
    | succ n ih =>
      intro a han
      have below : ∀ c, c < a → c < l.1 → c < l'.1 ∧ rwE (l.2 c) (l'.2 c) := fun c hc h => (ih c (by omega)).1 h
      have lt1 : a < l.1 → a < l'.1 ∧ rwE (l.2 a) (l'.2 a) := by
        intro ha
        obtain ⟨b, hb, e⟩ := f1 a ha
        have g1 : ¬ b < a := by
          intro k
          have c := below b k (by omega)
          have := (mono b a b b (by omega) ha c.1 hb c.2 e).1 k
          omega
        have g2 : ¬ a < b := by
          intro k
          obtain ⟨c, hc, e'⟩ := f2 a (by omega)
          have x := (mono c a a b hc ha (by omega) hb e' e).2 k
          have y := below c x hc
          have := (mono c a c b hc ha y.1 hb y.2 e).1 x
          have z := (mono c c c a hc hc y.1 (by omega) y.2 e').2 (by omega)
          omega
        have : b = a := by omega
        subst this
        exact ⟨hb, e⟩
      refine ⟨lt1, fun ha' => Nat.lt_of_not_le (fun k => ?_)⟩
      obtain ⟨c, hc, e⟩ := f2 a ha'
      have y := below c (by omega) hc
      have := (mono c c c a hc hc y.1 ha' y.2 e).2 (by omega)
      omega
  refine ⟨Nat.le_antisymm (Nat.le_of_not_lt (fun k => ?_)) (Nat.le_of_not_lt (fun k => ?_)), fun a ha => ((all (a + 1) a (by omega)).1 ha).2⟩
  · have := ((all (l'.1 + 1) l'.1 (by omega)).1 k).1
    omega
  · have := (all (l.1 + 1) l.1 (by omega)).2 k
    omega
