/-! the model's list of crossings, and that it is the class's -/
theorem mip_ins {c : xC7} {L : Nat → xC7} : ∀ k, (∀ a, a < k → (L a).1 ≤ c.1 ∧ ((L a).1 = c.1 → ((L a).2.1 < c.2.1 ∨ ((L a).2.1 = c.2.1 ∧ (L a).2.2.1 < c.2.2.1)))) → mip c L k = insP c L k := by
  intro k
  induction k with
  | zero => intro _; rfl
  | succ k ih =>
    intro h
    have hk := h k (by omega)
    have e := ih (fun a ha => h a (by omega))
    rw [mip, insP, e]
    by_cases q : (L k).1 = c.1 ∧ c.2.2.2.1 * (L k).2.2.2.2.1 < (L k).2.2.2.1 * c.2.2.2.2.1
    · rw [if_pos q, if_pos ((prec_iff _ _).2 (by unfold precP; omega))]
    · rw [if_neg q, if_neg (fun z => by have z := (prec_iff _ _).1 z; unfold precP at z; omega)]
theorem minT_ins {l : xLs} {T : Nat → Nat → Nat → Prop} {V : Nat → Nat → Nat → ofS} {i o j : Nat} {s : ofS} (hm : memL l T V) (hT : ∀ i' o' j', T i' o' j' → i' < i ∨ (i' = i ∧ (o' < o ∨ (o' = o ∧ j' < j)))) : minT (crOf (i : Int) (o : Int) (j : Int) s) l = insT (crOf (i : Int) (o : Int) (j : Int) s) l := by
  unfold minT insT
  rw [mip_ins l.1 (fun a ha => ?_)]
  obtain ⟨i', o', j', ht, e⟩ := hm.1 a ha
  have k := hT i' o' j' ht
  rw [e]
  show (i' : Int) ≤ (i : Int) ∧ ((i' : Int) = (i : Int) → ((o' : Int) < (o : Int) ∨ ((o' : Int) = (o : Int) ∧ (j' : Int) < (j : Int))))
  omega
def tM (d : Nat → Int) (σ : Nat → xSt) (s : Nat) (i o j : Nat) : Prop := i < pcS (σ s) ∧ (o ≠ s ∧ hrS (σ o) = 1) ∧ j < pcS (σ o) ∧ xB d (σ s) i (σ o) j
theorem mlQ_ok {d : Nat → Int} {σ : Nat → xSt} {s p o : Nat} (hV : ∀ j, j < pcS (σ o) → xB d (σ s) p (σ o) j → 0 < (xVl d (σ s) p (σ o) j).2.2.1 ∧ 0 < (xVl d (σ s) p (σ o) j).2.2.2.2) : ∀ (m j : Nat) (l : xLs) (T : Nat → Nat → Nat → Prop), j + m = pcS (σ o) → srtL l → memL l T (fun i o j => xVl d (σ s) i (σ o) j) → posV T (fun i o j => xVl d (σ s) i (σ o) j) → (∀ i' o' j', T i' o' j' → i' < p ∨ (i' = p ∧ (o' < o ∨ (o' = o ∧ j' < j)))) →
    srtL (mlQ d (σ s) p o (σ o) m j l) ∧ memL (mlQ d (σ s) p o (σ o) m j l) (fun i' o' j' => T i' o' j' ∨ (i' = p ∧ o' = o ∧ (j ≤ j' ∧ j' < pcS (σ o)) ∧ xB d (σ s) p (σ o) j')) (fun i o j => xVl d (σ s) i (σ o) j) := by
  intro m
  induction m with
  | zero =>
    intro j l T hj h1 h2 h3 h4
    exact ⟨h1, memL_cg h2 (fun i' o' j' => ⟨Or.inl, fun k => by rcases k with k | k; exact k; omega⟩)⟩
  | succ m ih =>
    intro j l T hj h1 h2 h3 h4
    unfold mlQ
    by_cases hb : xB d (σ s) p (σ o) j
    · rw [cite_t hb, minT_ins h2 h4]
      have a := ins_ok (V := fun i o j => xVl d (σ s) i (σ o) j) h1 h2 h3 (hV j (by omega) hb) (fun k => by have := h4 p o j k; omega)
      have r := ih (j + 1) _ _ (by omega) a.1 a.2 (fun i' o' j' k => by
        rcases k with k | ⟨rfl, rfl, rfl⟩
        · exact h3 i' o' j' k
        · exact hV j' (by omega) hb) (fun i' o' j' k => by
        rcases k with k | k
        · have := h4 i' o' j' k; omega
        · omega)
      refine ⟨r.1, memL_cg r.2 (fun i' o' j' => ⟨?_, ?_⟩)⟩
      · rintro ((k | ⟨k1, k2, k3⟩) | ⟨k1, k2, k3, k4⟩)
        · exact Or.inl k
        · exact Or.inr ⟨k1, k2, ⟨by omega, by omega⟩, by rw [k3]; exact hb⟩
        · exact Or.inr ⟨k1, k2, ⟨by omega, by omega⟩, k4⟩
      · rintro (k | ⟨k1, k2, k3, k4⟩)
        · exact Or.inl (Or.inl k)
        · by_cases e : j' = j
          · exact Or.inl (Or.inr ⟨k1, k2, e⟩)
          · exact Or.inr ⟨k1, k2, ⟨by omega, by omega⟩, k4⟩
    · rw [cite_f hb]
      have r := ih (j + 1) l T (by omega) h1 h2 h3 (fun i' o' j' k => by have := h4 i' o' j' k; omega)
      refine ⟨r.1, memL_cg r.2 (fun i' o' j' => ⟨?_, ?_⟩)⟩
      · rintro (k | ⟨k1, k2, k3, k4⟩)
        · exact Or.inl k
        · exact Or.inr ⟨k1, k2, ⟨by omega, by omega⟩, k4⟩
      · rintro (k | ⟨k1, k2, k3, k4⟩)
        · exact Or.inl k
        · by_cases e : j' = j
          · rw [e] at k4; exact absurd k4 hb
          · exact Or.inr ⟨k1, k2, ⟨by omega, by omega⟩, k4⟩
theorem mlO_ok {d : Nat → Int} {σ : Nat → xSt} {s p gn : Nat} (hp : p < pcS (σ s)) (hV : ∀ i o j, o < gn → tM d σ s i o j → 0 < (xVl d (σ s) i (σ o) j).2.2.1 ∧ 0 < (xVl d (σ s) i (σ o) j).2.2.2.2) : ∀ (m o : Nat) (l : xLs) (T : Nat → Nat → Nat → Prop), o + m = gn → srtL l → memL l T (fun i o j => xVl d (σ s) i (σ o) j) → posV T (fun i o j => xVl d (σ s) i (σ o) j) → (∀ i' o' j', T i' o' j' → i' < p ∨ (i' = p ∧ o' < o)) →
    srtL (mlO d σ s p m o l) ∧ memL (mlO d σ s p m o l) (fun i' o' j' => T i' o' j' ∨ (i' = p ∧ (o ≤ o' ∧ o' < gn) ∧ tM d σ s p o' j')) (fun i o j => xVl d (σ s) i (σ o) j) := by
  intro m
  induction m with
  | zero =>
    intro o l T ho h1 h2 h3 h4
    exact ⟨h1, memL_cg h2 (fun i' o' j' => ⟨Or.inl, fun k => by rcases k with k | k; exact k; omega⟩)⟩
  | succ m ih =>
    intro o l T ho h1 h2 h3 h4
    unfold mlO
    by_cases hc : hrS (σ o) = 1 ∧ o ≠ s
    · rw [if_pos hc]
      have a := mlQ_ok (fun j hj hb => hV p o j (by omega) ⟨hp, ⟨hc.2, hc.1⟩, hj, hb⟩) (pcS (σ o)) 0 l T (by omega) h1 h2 h3 (fun i' o' j' k => by have := h4 i' o' j' k; omega)
      have r := ih (o + 1) _ _ (by omega) a.1 a.2 (fun i' o' j' k => by
        rcases k with k | ⟨rfl, rfl, k3, k4⟩
        · exact h3 i' o' j' k
        · exact hV i' o' j' (by omega) ⟨hp, ⟨hc.2, hc.1⟩, k3.2, k4⟩) (fun i' o' j' k => by
        rcases k with k | k
        · have := h4 i' o' j' k; omega
        · omega)
      refine ⟨r.1, memL_cg r.2 (fun i' o' j' => ⟨?_, ?_⟩)⟩
      · rintro ((k | ⟨k1, k2, k3, k4⟩) | ⟨k1, k2, k3⟩)
        · exact Or.inl k
        · subst k2; exact Or.inr ⟨k1, ⟨by omega, by omega⟩, hp, ⟨hc.2, hc.1⟩, k3.2, k4⟩
        · exact Or.inr ⟨k1, ⟨by omega, by omega⟩, k3⟩
      · rintro (k | ⟨k1, k2, k3⟩)
        · exact Or.inl (Or.inl k)
        · by_cases e : o' = o
          · subst e; exact Or.inl (Or.inr ⟨k1, rfl, ⟨Nat.zero_le _, k3.2.2.1⟩, k3.2.2.2⟩)
          · exact Or.inr ⟨k1, ⟨by omega, by omega⟩, k3⟩
    · rw [if_neg hc]
      have r := ih (o + 1) l T (by omega) h1 h2 h3 (fun i' o' j' k => by have := h4 i' o' j' k; omega)
      refine ⟨r.1, memL_cg r.2 (fun i' o' j' => ⟨?_, ?_⟩)⟩
      · rintro (k | ⟨k1, k2, k3⟩)
        · exact Or.inl k
        · exact Or.inr ⟨k1, ⟨by omega, by omega⟩, k3⟩
      · rintro (k | ⟨k1, k2, k3⟩)
        · exact Or.inl k
        · by_cases e : o' = o
          · subst e; exact absurd ⟨k3.2.1.2, k3.2.1.1⟩ hc
          · exact Or.inr ⟨k1, ⟨by omega, by omega⟩, k3⟩
theorem mlP_ok {d : Nat → Int} {σ : Nat → xSt} {s gn : Nat} (hV : ∀ i o j, o < gn → tM d σ s i o j → 0 < (xVl d (σ s) i (σ o) j).2.2.1 ∧ 0 < (xVl d (σ s) i (σ o) j).2.2.2.2) : ∀ (m p : Nat) (l : xLs) (T : Nat → Nat → Nat → Prop), p + m = pcS (σ s) → srtL l → memL l T (fun i o j => xVl d (σ s) i (σ o) j) → posV T (fun i o j => xVl d (σ s) i (σ o) j) → (∀ i' o' j', T i' o' j' → i' < p) →
    srtL (mlP d gn σ s m p l) ∧ memL (mlP d gn σ s m p l) (fun i' o' j' => T i' o' j' ∨ (p ≤ i' ∧ o' < gn ∧ tM d σ s i' o' j')) (fun i o j => xVl d (σ s) i (σ o) j) := by
  intro m
  induction m with
  | zero =>
    intro p l T hp h1 h2 h3 h4
    exact ⟨h1, memL_cg h2 (fun i' o' j' => ⟨Or.inl, fun k => by rcases k with k | k; exact k; have := k.2.2.1; omega⟩)⟩
  | succ m ih =>
    intro p l T hp h1 h2 h3 h4
    unfold mlP
    have a := mlO_ok (show p < pcS (σ s) by omega) hV gn 0 l T (by omega) h1 h2 h3 (fun i' o' j' k => by have := h4 i' o' j' k; omega)
    have r := ih (p + 1) _ _ (by omega) a.1 a.2 (fun i' o' j' k => by
      rcases k with k | ⟨rfl, k2, k3⟩
      · exact h3 i' o' j' k
      · exact hV i' o' j' k2.2 k3) (fun i' o' j' k => by
      rcases k with k | k
      · have := h4 i' o' j' k; omega
      · omega)
    refine ⟨r.1, memL_cg r.2 (fun i' o' j' => ⟨?_, ?_⟩)⟩
    · rintro ((k | ⟨k1, k2, k3⟩) | ⟨k1, k2⟩)
      · exact Or.inl k
      · subst k1; exact Or.inr ⟨Nat.le_refl _, k2.2, k3⟩
      · exact Or.inr ⟨by omega, k2⟩
    · rintro (k | ⟨k1, k2, k3⟩)
      · exact Or.inl (Or.inl k)
      · by_cases e : i' = p
        · subst e; exact Or.inl (Or.inr ⟨rfl, ⟨Nat.zero_le _, k2⟩, k3⟩)
        · exact Or.inr ⟨by omega, k2, k3⟩
theorem mlist_ok {d : Nat → Int} {σ : Nat → xSt} {s gn : Nat} (hV : ∀ i o j, o < gn → tM d σ s i o j → 0 < (xVl d (σ s) i (σ o) j).2.2.1 ∧ 0 < (xVl d (σ s) i (σ o) j).2.2.2.2) : srtL (mlist d gn σ s) ∧ memL (mlist d gn σ s) (fun i o j => o < gn ∧ tM d σ s i o j) (fun i o j => xVl d (σ s) i (σ o) j) := by
  have r := mlP_ok hV (pcS (σ s)) 0 (0, fun _ => c00) (fun _ _ _ => False) (by omega) (fun a b _ hb => absurd hb (Nat.not_lt_zero _)) ⟨fun a ha => absurd ha (Nat.not_lt_zero _), fun _ _ _ h => h.elim⟩ (fun _ _ _ h => h.elim) (fun _ _ _ h => h.elim)
  refine ⟨r.1, memL_cg r.2 (fun i o j => ⟨?_, fun k => Or.inr ⟨Nat.zero_le _, k⟩⟩)⟩
  rintro (k | ⟨_, k⟩)
  · exact k.elim
  · exact k
theorem lists_same {gn : Nat} {σ : Nat → xSt} {d : Nat → Int} {s : Nat} (hz : ¬ z3 d) (h : NT gn σ) (hs : s < gn) (hr : hrS (σ s) = 1) : (clist d gn σ s).1 = (mlist d gn σ s).1 ∧ ∀ a, a < (clist d gn σ s).1 → rwE ((clist d gn σ s).2 a) ((mlist d gn σ s).2 a) := by
  have iff : ∀ i o j, (o < gn ∧ tM d σ s i o j) ↔ (o < gn ∧ tC d σ s i o j) := by
    intro i o j
    constructor
    · rintro ⟨k1, k2, k3, k4, k5⟩
      exact ⟨k1, k2, k3, k4, (seB_x hz h hs k1 (Ne.symm k3.1) hr k3.2 k2 k4).1.2 k5⟩
    · rintro ⟨k1, k2, k3, k4, k5⟩
      exact ⟨k1, k2, k3, k4, (seB_x hz h hs k1 (Ne.symm k3.1) hr k3.2 k2 k4).1.1 k5⟩
  have pC : ∀ i o j, o < gn → tC d σ s i o j → 0 < (seV d (σ s) i (σ o) j).2.2.1 ∧ 0 < (seV d (σ s) i (σ o) j).2.2.2.2 := fun i o j _ k => ((cls_x hz).2 k.2.2.2).1
  have pM : ∀ i o j, o < gn → tM d σ s i o j → 0 < (xVl d (σ s) i (σ o) j).2.2.1 ∧ 0 < (xVl d (σ s) i (σ o) j).2.2.2.2 := fun i o j _ k => ((mod_x hz).2 k.2.2.2).1
  have a := clist_ok pC
  have b := mlist_ok pM
  refine lists_eq a.1 b.1 a.2 (memL_cg b.2 iff) (fun i o j k => pC i o j k.1 k.2) (fun i o j k => pM i o j k.1 ((iff i o j).2 k).2) (fun i o j k => ?_)
  have e := (seB_x hz h hs k.1 (Ne.symm k.2.2.1.1) hr k.2.2.1.2 k.2.1 k.2.2.2.1).2 k.2.2.2.2
  exact ⟨rfl, rfl, rfl, e.1, e.2.1⟩
theorem sg_fr {t b t' b' : Int} (hb : 0 < b) (hb' : 0 < b') (h : t * b' = t' * b) : (0 < t ↔ 0 < t') ∧ (t < 0 ↔ t' < 0) := by
  refine ⟨⟨fun k => ?_, fun k => ?_⟩, ⟨fun k => ?_, fun k => ?_⟩⟩
  · have := Int.mul_pos k hb'; rw [h] at this; exact Int.pos_of_mul_pos_left this hb
  · have := Int.mul_pos k hb; rw [← h] at this; exact Int.pos_of_mul_pos_left this hb'
  · have := Int.mul_neg_of_neg_of_pos k hb'
    refine Int.not_le.mp (fun z => ?_)
    have := Int.mul_nonneg z (Int.le_of_lt hb)
    omega
  · have := Int.mul_neg_of_neg_of_pos k hb
    refine Int.not_le.mp (fun z => ?_)
    have := Int.mul_nonneg z (Int.le_of_lt hb')
    omega
theorem red_eq {a b a' b' : Nat} (hb : 0 < b) (hb' : 0 < b') (h : a * b' = a' * b) : a / Nat.gcd a b = a' / Nat.gcd a' b' ∧ b / Nat.gcd a b = b' / Nat.gcd a' b' := by
  have g0 := Nat.gcd_pos_of_pos_right a hb
  have g0' := Nat.gcd_pos_of_pos_right a' hb'
  have e : Nat.gcd a b * b' = Nat.gcd a' b' * b := by rw [← Nat.gcd_mul_right, ← Nat.gcd_mul_right, h, Nat.mul_comm b b']
  obtain ⟨m, hm⟩ : ∃ m, m = a / Nat.gcd a b := ⟨_, rfl⟩
  obtain ⟨k, hk⟩ : ∃ k, k = b / Nat.gcd a b := ⟨_, rfl⟩
  obtain ⟨m', hm'⟩ : ∃ m, m = a' / Nat.gcd a' b' := ⟨_, rfl⟩
  obtain ⟨k', hk'⟩ : ∃ k, k = b' / Nat.gcd a' b' := ⟨_, rfl⟩
  have e1 : m * Nat.gcd a b = a := by rw [hm]; exact Nat.div_mul_cancel (Nat.gcd_dvd_left _ _)
  have e2 : k * Nat.gcd a b = b := by rw [hk]; exact Nat.div_mul_cancel (Nat.gcd_dvd_right _ _)
  have e3 : m' * Nat.gcd a' b' = a' := by rw [hm']; exact Nat.div_mul_cancel (Nat.gcd_dvd_left _ _)
  have e4 : k' * Nat.gcd a' b' = b' := by rw [hk']; exact Nat.div_mul_cancel (Nat.gcd_dvd_right _ _)
  rw [← hm, ← hk, ← hm', ← hk']
  generalize Nat.gcd a b = G at *
  generalize Nat.gcd a' b' = G' at *
  have kk : k = k' := by
    refine Nat.eq_of_mul_eq_mul_left (Nat.mul_pos g0 g0') ?_
    rw [← e4, ← e2] at e
    grind
  have kp : 0 < k := Nat.pos_of_ne_zero (fun z => by rw [z, Nat.zero_mul] at e2; omega)
  refine ⟨?_, kk⟩
  refine Nat.eq_of_mul_eq_mul_left (Nat.mul_pos (Nat.mul_pos g0 g0') kp) ?_
  rw [← e4, ← e2, ← e1, ← e3, ← kk] at h
  grind
theorem red_z {t t' : Int} {b b' : Nat} (hb : 0 < b) (hb' : 0 < b') (h : t * (b' : Int) = t' * (b : Int)) : decide (t < 0) = decide (t' < 0) ∧ t.natAbs / Nat.gcd t.natAbs b = t'.natAbs / Nat.gcd t'.natAbs b' ∧ b / Nat.gcd t.natAbs b = b' / Nat.gcd t'.natAbs b' := by
  have s := sg_fr (show (0 : Int) < (b : Int) by omega) (show (0 : Int) < (b' : Int) by omega) h
  have e := congrArg Int.natAbs h
  rw [Int.natAbs_mul, Int.natAbs_mul, Int.natAbs_natCast, Int.natAbs_natCast] at e
  refine ⟨by by_cases k : t < 0; rw [decide_eq_true k, decide_eq_true (s.2.1 k)]; rw [decide_eq_false k, decide_eq_false (fun z => k (s.2.2 z))], red_eq hb hb' e⟩
theorem crsA_eq {c c' : xC7} {w r : Int} (h : ps7 c) (h' : ps7 c') (e : rwE c c') (k : crsA c w r) : crsA c' w r := by
  obtain ⟨e1, e2, e3, _, e5⟩ := e
  have s := (sg_fr h.2 h'.2 e5).1
  rcases k with k | k | k | ⟨k1, k2⟩ | k
  · exact Or.inl ⟨k.1, by rw [← e1]; exact k.2⟩
  · exact Or.inr (Or.inl ⟨k.1, by rw [← e2]; exact k.2⟩)
  · exact Or.inr (Or.inr (Or.inl ⟨k.1, by rw [← e3]; exact k.2⟩))
  · refine Or.inr (Or.inr (Or.inr (Or.inl ⟨k1, ?_⟩)))
    rw [k2]
    by_cases z : 0 < c.2.2.2.2.2.1
    · rw [if_pos z, if_pos (s.1 z)]
    · rw [if_neg z, if_neg (fun q => z (s.2 q))]
  · exact Or.inr (Or.inr (Or.inr (Or.inr k)))
theorem crsA_u {c : xC7} {w r r' : Int} (h : crsA c w r) (h' : crsA c w r') : r = r' := by
  unfold crsA at h h'
  generalize (if 0 < c.2.2.2.2.2.1 then (1 : Int) else 0) = q at *
  omega
