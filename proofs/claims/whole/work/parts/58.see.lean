/-! what a sight of two pieces tells, whatever was seen before -/
abbrev s00 : ofS := (0, (0, (0, (0, 0))))
def sv (d p q w : Nat → Int) (k : Nat) : ofS := if de p q d = 0 then ofL d p q w k s00 else seeN d p q w s00
def sb (d p q w : Nat → Int) (k : Nat) : Prop := (de p q d = 0 ∧ lineM d p q w ∧ (ofL d p q w k s00).1 = 1) ∨ (de p q d ≠ 0 ∧ seeP d p q w)
def sq (s t : ofS) : Prop := (s.1 = 0 ∧ t.1 = 0) ∨ s = t
theorem sq_ofr {D W P Qq onP onQ whole : Int} {s t : ofS} (h : sq s t) : sq (ofr D W P Qq onP onQ whole s) (ofr D W P Qq onP onQ whole t) := by
  rcases h with ⟨h1, h2⟩ | rfl
  · refine Or.inr ?_
    unfold ofr
    simp only [h1, h2, true_or, if_true]
  · exact Or.inr rfl
theorem sq_E {c : v4} {ofP e own other shift : Int} {s t : ofS} (h : sq s t) : sq (ofE c ofP e own other shift s) (ofE c ofP e own other shift t) := by
  unfold ofE ofP4
  split
  · split
    · exact sq_ofr (sq_ofr h)
    · exact h
  · split
    · exact sq_ofr h
    · exact h
theorem sq_L (d p q w : Nat → Int) (k : Nat) (s t : ofS) : sq (ofL d p q w k s) (ofL d p q w k t) := by
  unfold ofL ofLa ofL2
  exact sq_E (sq_E (sq_E (sq_E (Or.inl ⟨rfl, rfl⟩))))
theorem seeR_1 {d p q w : Nat → Int} {k : Nat} {s s' : ofS} (h : seeR d p q w k s 1 s') : sb d p q w k ∧ s'.2 = (sv d p q w k).2 := by
  rcases h with ⟨h0, ⟨_, h1, _⟩ | ⟨h1, h2, h3⟩⟩ | ⟨h0, ⟨h1, _, h2⟩ | ⟨_, h1, _⟩⟩
  · exact absurd h1 (by decide)
  · rcases sq_L d p q w k s s00 with ⟨e1, _⟩ | e
    · rw [h2, e1] at h3; exact absurd h3 (by decide)
    · refine ⟨Or.inl ⟨h0, h1, by rw [← e, ← h2]; exact h3.symm⟩, ?_⟩
      unfold sv; rw [if_pos h0, h2, e]
  · refine ⟨Or.inr ⟨h0, h1⟩, ?_⟩
    unfold sv; rw [if_neg h0, h2]; rfl
  · exact absurd h1 (by decide)
theorem seeR_0 {d p q w : Nat → Int} {k : Nat} {s s' : ofS} (h : seeR d p q w k s 0 s') : ¬ sb d p q w k := by
  rintro (⟨g0, g1, g2⟩ | ⟨g0, g1⟩)
  · rcases h with ⟨h0, ⟨h1, _, _⟩ | ⟨h1, h2, h3⟩⟩ | ⟨h0, _⟩
    · exact h1 g1
    · rcases sq_L d p q w k s s00 with ⟨_, e1⟩ | e
      · rw [e1] at g2; exact absurd g2 (by decide)
      · rw [← e, ← h2, ← h3] at g2; exact absurd g2 (by decide)
    · exact h0 g0
  · rcases h with ⟨h0, _⟩ | ⟨h0, ⟨_, h1, _⟩ | ⟨h1, _, _⟩⟩
    · exact g0 h0
    · exact absurd h1 (by decide)
    · exact h1 g1
/-- the numbers of a sight that was had -/
def okV (s : ofS) : Prop := (0 ≤ s.2.1 ∧ s.2.1 ≤ s.2.2.1) ∧ (0 < s.2.2.1 ∧ nb s.2.2.1 2400000000) ∧ nb s.2.2.2.1 48000000000 ∧ (0 < s.2.2.2.2 ∧ nb s.2.2.2.2 2400000000)
def psS (s : ofS) : Prop := s.1 = 0 ∨ (s.1 = 1 ∧ (0 ≤ s.2.1 ∧ s.2.1 ≤ s.2.2.1) ∧ 0 < s.2.2.1 ∧ 0 < s.2.2.2.2)
theorem ofBot_pos {D whole : Int} (hD : D ≠ 0) (hw : 0 < whole) : 0 < ofBot D whole := by
  unfold ofBot
  rw [show sgn D * whole * D = whole * (sgn D * D) by rw [Int.mul_comm (sgn D) whole, Int.mul_assoc], sgn_ab]
  exact Int.mul_pos hw (by omega)
theorem psS_ofr {D W P Qq onP onQ whole : Int} {s : ofS} (h : psS s) (hD : D ≠ 0) (h1 : 0 ≤ onP ∧ onP ≤ whole) (hw : 0 < whole) : psS (ofr D W P Qq onP onQ whole s) := by
  have b := ofBot_pos hD hw
  refine Or.inr ⟨rfl, ?_⟩
  unfold ofr
  dsimp only
  rcases h with h0 | ⟨_, h2, h3, h4⟩
  · rw [if_pos (Or.inl h0), if_pos (Or.inl h0), if_pos (Or.inl h0)]
    exact ⟨h1, hw, b⟩
  · refine ⟨?_, ?_, ?_⟩
    · split
      · exact h1
      · exact h2
    · split
      · exact hw
      · exact h3
    · split
      · exact b
      · exact h4
theorem psS_E {c : v4} {ofP e own other shift : Int} {s : ofS} (h : psS s) (hD : c.1 ≠ 0) (he : e = 0 ∨ e = 1) (hP : ofP = 0 ∨ ofP = 1) : psS (ofE c ofP e own other shift s) := by
  have e1 : 0 ≤ e ∧ e ≤ 1 := by omega
  unfold ofE ofP4
  split
  · split
    · refine psS_ofr (psS_ofr h hD ?_ (by decide)) hD ?_ (by decide)
      · split <;> omega
      · split <;> omega
    · exact h
  · next ho =>
    split
    · next hp =>
      have hs : 0 < sgn other * other := by rw [sgn_ab]; omega
      refine psS_ofr h hD ?_ hs
      split
      · exact hp
      · rcases he with rfl | rfl
        · omega
        · omega
    · exact h
theorem psS_L {d p q w : Nat → Int} {k : Nat} {s : ofS} (hD : d k ≠ 0) : psS (ofL d p q w k s) := by
  unfold ofL ofLa ofL2
  exact psS_E (psS_E (psS_E (psS_E (Or.inl rfl) hD (Or.inl rfl) (Or.inr rfl)) hD (Or.inl rfl) (Or.inl rfl)) hD (Or.inr rfl) (Or.inr rfl)) hD (Or.inr rfl) (Or.inl rfl)
theorem wide_3 (d : Nat → Int) : wide d < 3 := by
  unfold wide
  by_cases h : ab (d (wide1 d)) < ab (d 2)
  · rw [if_pos h]; decide
  · rw [if_neg h]; unfold wide1
    by_cases h1 : ab (d 0) < ab (d 1)
    · rw [if_pos h1]; decide
    · rw [if_neg h1]; decide
theorem wide_ne {d : Nat → Int} (h : ¬ z3 d) : wide d < 3 ∧ d (wide d) ≠ 0 := by
  unfold z3 at h
  refine ⟨wide_3 d, ?_⟩
  unfold wide wide1 ab
  · by_cases h1 : (if 0 < d 0 then d 0 else -d 0) < (if 0 < d 1 then d 1 else -d 1)
    · rw [if_pos h1]
      by_cases h2 : (if 0 < d 1 then d 1 else -d 1) < (if 0 < d 2 then d 2 else -d 2)
      · rw [if_pos h2]; intro e; rw [e] at h2; split at h2 <;> (simp at h2; omega)
      · rw [if_neg h2]; intro e; rw [e] at h1; split at h1 <;> (simp at h1; omega)
    · rw [if_neg h1]
      by_cases h2 : (if 0 < d 0 then d 0 else -d 0) < (if 0 < d 2 then d 2 else -d 2)
      · rw [if_pos h2]; intro e; rw [e] at h2; split at h2 <;> (simp at h2; omega)
      · rw [if_neg h2]
        intro e
        rw [e] at h1 h2
        simp at h1 h2
        apply h
        refine ⟨e, ?_, ?_⟩
        · split at h1 <;> omega
        · split at h2 <;> omega
theorem okV_sv {d p q w : Nat → Int} (hd : bd d 100) (hz : ¬ z3 d) (hp : bd p 2000) (hq : bd q 2000) (hw : bd w 2000) (h : sb d p q w (wide d)) : okV (sv d p q w (wide d)) := by
  have hk := wide_ne hz
  rcases h with ⟨h0, h1, h2⟩ | ⟨h0, h1⟩
  · unfold sv
    rw [if_pos h0]
    have b1 : bd (cr p d) 400000 := bd_cr hp hd (by decide)
    have b2 : bd (cr q d) 400000 := bd_cr hq hd (by decide)
    have b3 : bd (cr w d) 400000 := bd_cr hw hd (by decide)
    have hl : wide (lnv d p q) < 3 := wide_3 _
    have hs : okS (ofL d p q w (wide d) s00) := okS_La (s := s00) ⟨nb_bd hd hk.1, nb_bd hw hk.1, nb_bd hp hk.1, nb_bd hq hk.1⟩ (by show inL 0; unfold inL; omega) (nb_bd b1 hl) (nb_bd b2 hl) (nb_bd b3 hl)
    have hp := psS_L (d := d) (p := p) (q := q) (w := w) (k := wide d) (s := s00) hk.2
    rcases hp with hp | ⟨_, g1, g2, g3⟩
    · rw [hp] at h2; exact absurd h2 (by decide)
    · rcases hs.2 with hs | ⟨_, m1, m2, m3, m4⟩
      · rw [hs] at h2; exact absurd h2 (by decide)
      · exact ⟨g1, ⟨g2, nb_le m2 (by decide)⟩, nb_le m3 (by decide), ⟨g3, nb_le m4 (by decide)⟩⟩
  · unfold sv
    rw [if_neg h0]
    have B1 : nb (de p q d) 2400000000 := bd_de hp hq hd
    have B2 : nb (de p q w) 48000000000 := bd_de hp hq hw
    have e1 : de p q d * sgn (de p q d) = ((de p q d).natAbs : Int) := by rw [Int.mul_comm, sgn_ab]
    have h3 := h1.1
    unfold prt at h3
    have B4 : nb (de p q d * sgn (de p q d)) 2400000000 := by rw [e1]; exact nb_cast B1
    have B5 : 0 < de p q d * sgn (de p q d) := by rw [e1]; omega
    exact ⟨h3, ⟨B5, B4⟩, nb_sg B2 _, ⟨B5, B4⟩⟩
