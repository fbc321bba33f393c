/-! layers, rings, members: the class's and the model's -/
theorem lund_sp (ly : Nat → Int) (b : Nat) : ∀ k, 0 ≤ lund ly b k ∧ (∀ j, j < k → b.testBit j = true → ly j + 1 ≤ lund ly b k) ∧ (lund ly b k = 0 ∨ ∃ j, j < k ∧ b.testBit j = true ∧ lund ly b k = ly j + 1) := by
  intro k
  induction k with
  | zero => exact ⟨Int.le_refl _, fun j h => absurd h (Nat.not_lt_zero _), Or.inl rfl⟩
  | succ k ih =>
    obtain ⟨a, b9, c⟩ := ih
    rw [lund]
    by_cases h : b.testBit k = true
    · rw [if_pos h]
      by_cases h2 : lund ly b k < ly k + 1
      · rw [if_pos h2]
        refine ⟨by omega, fun j hj hb => ?_, Or.inr ⟨k, by omega, h, rfl⟩⟩
        by_cases e : j = k
        · subst e; exact Int.le_refl _
        · have := b9 j (by omega) hb; omega
      · rw [if_neg h2]
        refine ⟨a, fun j hj hb => ?_, ?_⟩
        · by_cases e : j = k
          · subst e; omega
          · exact b9 j (by omega) hb
        · rcases c with c | ⟨j, c1, c2⟩
          · exact Or.inl c
          · exact Or.inr ⟨j, by omega, c2⟩
    · rw [if_neg h]
      refine ⟨a, fun j hj hb => ?_, ?_⟩
      · by_cases e : j = k
        · subst e; exact absurd hb h
        · exact b9 j (by omega) hb
      · rcases c with c | ⟨j, c1, c2⟩
        · exact Or.inl c
        · exact Or.inr ⟨j, by omega, c2⟩
theorem and_bit {a b i : Nat} : (a &&& b).testBit i = true ↔ (a.testBit i = true ∧ b.testBit i = true) := by rw [Nat.testBit_and, Bool.and_eq_true]
theorem nz_bit {x : Nat} (h : x ≠ 0) : ∃ i, x.testBit i = true := Nat.exists_testBit_of_ne_zero h
/-- without rings something is free -/
theorem free_ex {av rv : Nat → Nat} {sz L : Nat} {B : Nat → Nat → Prop} (hav : avR sz av B) (hrv : ∀ j, j < sz → ∀ q, (rv j).testBit q = true ↔ WP av sz q j) (hac : ∀ p, p < sz → ¬ WP av sz p p) : ∀ (n p : Nat), p < sz → L.testBit p = true → cnt (rv p &&& L) sz ≤ n → ∃ q, q < sz ∧ L.testBit q = true ∧ av q &&& L = 0 := by
  intro n
  induction n with
  | zero =>
    intro p hp hL hc
    by_cases e : av p &&& L = 0
    · exact ⟨p, hp, hL, e⟩
    · obtain ⟨q, hq⟩ := nz_bit e
      have b := and_bit.1 hq
      have a := (hav p q hp).1 b.1
      have w := pth_WP hav 0 p ⟨q, rfl, a.1, hp, a.2⟩
      have := cnt_0 sz (Nat.le_zero.1 hc) q a.1
      rw [and_bit.2 ⟨(hrv p hp q).2 w, b.2⟩] at this
      cases this
  | succ n ih =>
    intro p hp hL hc
    by_cases e : av p &&& L = 0
    · exact ⟨p, hp, hL, e⟩
    · obtain ⟨q, hq⟩ := nz_bit e
      have b := and_bit.1 hq
      have a := (hav p q hp).1 b.1
      have w := pth_WP hav 0 p ⟨q, rfl, a.1, hp, a.2⟩
      refine ih q a.1 b.2 ?_
      have := cnt_sub1 (x := rv q &&& L) (y := rv p &&& L) (p := q) (k := sz) (fun i hi z => by
        have z := and_bit.1 z
        exact and_bit.2 ⟨(hrv p hp i).2 (WP_t a.1 ((hrv q a.1 i).1 z.1) w), z.2⟩) a.1 (and_bit.2 ⟨(hrv p hp q).2 w, b.2⟩) (by
        cases z : (rv q &&& L).testBit q
        · rfl
        · exact absurd ((hrv q a.1 q).1 (and_bit.1 z).1) (hac q a.1))
      omega
def lyI (sz : Nat) (av : Nat → Nat) (L : Nat) (ly : Nat → Int) : Prop := ∀ j, j < sz → L.testBit j = false → 0 ≤ ly j ∧ (∀ i, (av j).testBit i = true → L.testBit i = false ∧ ly i + 1 ≤ ly j) ∧ (ly j = 0 ∨ ∃ i, i < sz ∧ (av j).testBit i = true ∧ ly j = ly i + 1)
theorem lio_all {av rv : Nat → Nat} {sz : Nat} {B : Nat → Nat → Prop} (hav : avR sz av B) (hrv : ∀ j, j < sz → ∀ q, (rv j).testBit q = true ↔ WP av sz q j) (hac : ∀ p, p < sz → ¬ WP av sz p p) (hir : ∀ p, ¬ B p p) : ∀ (m t L : Nat) (lf ly : Nat → Int), cnt L sz = m → L < 2 ^ sz → lyI sz av L ly → lyI sz av 0 (lio av sz m t L lf ly).2.2 := by
  intro m
  induction m with
  | zero =>
    intro t L lf ly hc hL hI
    have e : L = 0 := bit0 hL (cnt_0 sz hc)
    subst e
    exact hI
  | succ m ih =>
    intro t L lf ly hc hL hI
    rw [lio]
    have ex : ∃ p, p < sz ∧ L.testBit p = true := by
      refine Classical.byContradiction (fun k => ?_)
      have := cnt_sub (x := L) (y := 0) sz (fun i hi z => absurd ⟨i, hi, z⟩ k)
      rw [cnt_z] at this
      omega
    obtain ⟨p0, hp0, hL0⟩ := ex
    obtain ⟨q0, hq0, hL1, hf⟩ := free_ex (L := L) hav hrv hac _ p0 hp0 hL0 (Nat.le_refl _)
    rcases lfree_in av L sz 0 with ⟨h, hn⟩ | ⟨p, _, h2, h3, ⟨h4, h5⟩, _⟩
    · exact absurd ⟨hL1, hf⟩ (hn q0 (Nat.zero_le _) (by omega))
    · have hp : p < sz := by omega
      rw [if_neg (by omega), h3, Int.toNat_natCast]
      have cc := cnt_clr sz hp h4
      refine ih (t + 1) (xclr L p) _ _ (by omega) (Nat.lt_of_le_of_lt (xclr_le L p) hL) (fun j hj hb => ?_)
      have pre : ∀ i, (av p).testBit i = true → L.testBit i = false := fun i hi => and0 h5 hi
      have npre : ∀ i, (av p).testBit i = true → i ≠ p := fun i hi e => by
        rw [e] at hi
        exact hir p ((hav p p hp).1 hi).2
      have cb : ∀ i, (xclr L p).testBit i = false ↔ (L.testBit i = false ∨ i = p) := fun i => by
        rw [xclr_bit]
        by_cases e : i = p
        · subst e; simp
        · simp [e]
      by_cases e : j = p
      · subst e
        have sp := lund_sp ly (av j) sz
        refine ⟨by rw [xui_s]; exact sp.1, fun i hi => ⟨(cb i).2 (Or.inl (pre i hi)), ?_⟩, ?_⟩
        · rw [xui_s, xui_n _ _ (npre i hi)]
          exact sp.2.1 i ((hav j i hj).1 hi).1 hi
        · rw [xui_s]
          rcases sp.2.2 with z | ⟨i, z1, z2, z3⟩
          · exact Or.inl z
          · exact Or.inr ⟨i, z1, z2, by rw [xui_n _ _ (npre i z2)]; exact z3⟩
      · have hb' : L.testBit j = false := by rcases (cb j).1 hb with z | z; exact z; exact absurd z e
        obtain ⟨a, b, c⟩ := hI j hj hb'
        have np : ∀ i, (av j).testBit i = true → i ≠ p := fun i hi z => by
          have := (b i hi).1
          rw [z, h4] at this
          cases this
        refine ⟨by rw [xui_n _ _ e]; exact a, fun i hi => ⟨(cb i).2 (Or.inl (b i hi).1), ?_⟩, ?_⟩
        · rw [xui_n _ _ e, xui_n _ _ (np i hi)]; exact (b i hi).2
        · rw [xui_n _ _ e]
          rcases c with z | ⟨i, z1, z2, z3⟩
          · exact Or.inl z
          · exact Or.inr ⟨i, z1, z2, by rw [xui_n _ _ (np i z2)]; exact z3⟩
theorem lyOK_of {av rv : Nat → Nat} {sz : Nat} {B : Nat → Nat → Prop} {lf0 ly0 : Nat → Int} (hav : avR sz av B) (hrv : ∀ j, j < sz → ∀ q, (rv j).testBit q = true ↔ WP av sz q j) (hac : ∀ p, p < sz → ¬ WP av sz p p) (hir : ∀ p, ¬ B p p) (h40 : ∀ j, j < sz → 0 ≤ (lio av sz sz 0 (2 ^ sz - 1) lf0 ly0).2.2 j ∧ (lio av sz sz 0 (2 ^ sz - 1) lf0 ly0).2.2 j ≤ 40) : lyOK sz B (fun j => ((lio av sz sz 0 (2 ^ sz - 1) lf0 ly0).2.2 j).toNat) := by
  have pp := Nat.two_pow_pos sz
  have a := lio_all hav hrv hac hir sz 0 (2 ^ sz - 1) lf0 ly0 (cnt_all sz sz (Nat.le_refl _)) (by omega) (fun j hj hb => by rw [Nat.testBit_two_pow_sub_one, decide_eq_true hj] at hb; cases hb)
  refine ⟨fun i j hi hj hB => ?_, fun j hj hn => ?_, fun j hj => ?_⟩
  · have x := (a j hj (Nat.zero_testBit j)).2.1 i ((hav j i hj).2 ⟨hi, hB⟩)
    have y := h40 i hi
    show ((lio av sz sz 0 (2 ^ sz - 1) lf0 ly0).2.2 i).toNat < ((lio av sz sz 0 (2 ^ sz - 1) lf0 ly0).2.2 j).toNat
    omega
  · have hn' : ((lio av sz sz 0 (2 ^ sz - 1) lf0 ly0).2.2 j).toNat ≠ 0 := hn
    rcases (a j hj (Nat.zero_testBit j)).2.2 with x | ⟨i, x1, x2, x3⟩
    · rw [x] at hn'; exact absurd rfl hn'
    · have y := h40 i x1
      refine ⟨i, x1, ((hav j i hj).1 x2).2, ?_⟩
      show ((lio av sz sz 0 (2 ^ sz - 1) lf0 ly0).2.2 i).toNat + 1 = ((lio av sz sz 0 (2 ^ sz - 1) lf0 ly0).2.2 j).toNat
      omega
  · have y := h40 j hj
    show ((lio av sz sz 0 (2 ^ sz - 1) lf0 ly0).2.2 j).toNat ≤ 40
    omega
/-! members of a set of places -/
theorem xnth_cg {s s' : Nat → Bool} {i : Int} : ∀ (k a : Nat) (c : Int), (∀ j, a ≤ j → j < a + k → s j = s' j) → xnth s i c a k = xnth s' i c a k := by
  intro k
  induction k with
  | zero => intro a c _; rfl
  | succ k ih =>
    intro a c h
    rw [xnth, xnth, h a (Nat.le_refl _) (by omega), ih (a + 1) (c + 1) (fun j h1 h2 => h j (by omega) (by omega)), ih (a + 1) c (fun j h1 h2 => h j (by omega) (by omega))]
theorem xnth_hi {s : Nat → Bool} {i : Int} : ∀ (k a : Nat) (c : Int) (m : Nat), (∀ j, a + k ≤ j → s j = false) → xnth s i c a (k + m) = xnth s i c a k := by
  intro k
  induction k with
  | zero =>
    intro a c m h
    rw [Nat.zero_add]
    have : ∀ (m a : Nat) (c : Int), (∀ j, a ≤ j → s j = false) → xnth s i c a m = -1 := by
      intro m
      induction m with
      | zero => intro a c _; rfl
      | succ m ih =>
        intro a c h
        rw [xnth, if_neg (by rw [h a (Nat.le_refl _)]; decide)]
        exact ih (a + 1) c (fun j hj => h j (by omega))
    exact this m a c h
  | succ k ih =>
    intro a c m h
    rw [show k + 1 + m = (k + m) + 1 by omega, xnth, xnth, ih (a + 1) (c + 1) m (fun j hj => h j (by omega)), ih (a + 1) c m (fun j hj => h j (by omega))]
theorem knN_eq {N : Nat → Nat} {sz : Nat} {kn c : Nat → Int} {k i : Int} {S : Nat} (h40 : sz ≤ 40) (hc : ∀ p, p < sz → c p = (N p : Int)) (hS : ∀ p, S.testBit p = true ↔ (p < sz ∧ kn p = k)) : xnum c sz (xnth (fun p => S.testBit p) i 0 0 40) = knN N sz kn k i := by
  have e1 : xnth (fun p => S.testBit p) i 0 0 40 = xnth (fun p => S.testBit p) i 0 0 sz := by
    have := xnth_hi (s := fun p => S.testBit p) (i := i) sz 0 0 (40 - sz) (fun j hj => by
      cases z : S.testBit j
      · rfl
      · have := ((hS j).1 z).1; omega)
    rw [show sz + (40 - sz) = 40 by omega] at this
    exact this
  have e2 : xnth (fun p => S.testBit p) i 0 0 sz = xnth (fun p => decide (kn p = k)) i 0 0 sz := xnth_cg sz 0 0 (fun j _ hj => by
    by_cases z : kn j = k
    · rw [decide_eq_true z]; exact (hS j).2 ⟨by omega, z⟩
    · rw [decide_eq_false z]
      cases q : S.testBit j
      · rfl
      · exact absurd ((hS j).1 q).2 z)
  rw [e1, e2]
  unfold knN xnum
  rcases xnth_in (fun p => decide (kn p = k)) i sz 0 0 with h | ⟨p, _, h2, h3, _⟩
  · rw [h, if_pos rfl]; rfl
  · rw [h3, if_pos (by omega), if_neg (by omega), Int.toNat_natCast, hc p (by omega)]
theorem few_eq {N : Nat → Nat} {sz P : Nat} {c : Nat → Int} {i : Int} (hc : ∀ p, p < sz → c p = (N p : Int)) (hP : ∀ p, P.testBit p = true → p < sz) : xnum c sz (xnth (fun p => P.testBit p) i 0 0 40) = fewA N P i := by
  unfold fewA xnum
  rcases xnth_in (fun p => P.testBit p) i 40 0 0 with h | ⟨p, _, h2, h3, h4⟩
  · rw [h, if_pos rfl]; rfl
  · have := hP p h4
    rw [h3, if_pos (by omega), if_neg (by omega), Int.toNat_natCast, hc p (by omega)]
theorem rmd_bits {av : Nat → Nat} {wo : Nat → Int} {sz : Nat} {ks : Nat → Nat} : ∀ (m k : Nat) (w : Int) (P : Nat), (∀ q, P.testBit q = true → q < sz) → ∀ q, (rmd av wo sz ks m k w P).2.testBit q = true → q < sz := by
  intro m
  induction m with
  | zero => intro k w P h; exact h
  | succ m ih =>
    intro k w P h q
    rw [rmd]
    split
    · intro z; rw [Nat.zero_testBit] at z; cases z
    · exact ih _ _ _ (fun q hq => by
        rcases (plc_bit _).1 hq with z | ⟨j, z1, _, z3⟩
        · exact h q z
        · rw [← z3]; exact (hpc_in z1).1) q
/-! rings -/
theorem wlk_bit {bv : Nat → Nat} {sz p : Nat} {B : Nat → Nat → Prop} (hbv : ∀ i j, i < sz → ((bv i).testBit j = true ↔ (j < sz ∧ B i j))) (hp : p < sz) : ∀ (v j : Nat), (wlk bv sz p v).testBit j = true ↔ pth (Ez sz B) p v j := by
  have bb : ∀ (s k j : Nat), k ≤ sz → ((bba bv s k).testBit j = true ↔ ∃ i, i < k ∧ s.testBit i = true ∧ j < sz ∧ B i j) := by
    intro s k
    induction k with
    | zero => intro j _; rw [bba, Nat.zero_testBit]; exact ⟨fun h => (by cases h), fun ⟨i, h, _⟩ => absurd h (Nat.not_lt_zero _)⟩
    | succ k ih =>
      intro j hk
      rw [bba]
      by_cases e : s.testBit k = true
      · rw [if_pos e, Nat.testBit_or, Bool.or_eq_true, ih j (by omega), hbv k j (by omega)]
        constructor
        · rintro (⟨i, a, b⟩ | a)
          · exact ⟨i, by omega, b⟩
          · exact ⟨k, by omega, e, a⟩
        · rintro ⟨i, a, b, c⟩
          by_cases q : i = k
          · subst q; exact Or.inr c
          · exact Or.inl ⟨i, by omega, b, c⟩
      · rw [if_neg e, ih j (by omega)]
        constructor
        · rintro ⟨i, a, b⟩; exact ⟨i, by omega, b⟩
        · rintro ⟨i, a, b, c⟩
          by_cases q : i = k
          · subst q; exact absurd b e
          · exact ⟨i, by omega, b, c⟩
  intro v
  induction v with
  | zero =>
    intro j
    show (2 ^ p).testBit j = true ↔ j = p
    rw [Nat.testBit_two_pow, decide_eq_true_eq]
    exact eq_comm
  | succ v ih =>
    intro j
    show (bba bv (wlk bv sz p v) sz).testBit j = true ↔ ∃ i, pth (Ez sz B) p v i ∧ Ez sz B i j
    rw [bb _ _ _ (Nat.le_refl _)]
    constructor
    · rintro ⟨i, a, b, c⟩; exact ⟨i, (ih i).1 b, a, c⟩
    · rintro ⟨i, a, b⟩; exact ⟨i, b.1, (ih i).2 a, b.2⟩
theorem pth_mono {E E' : Nat → Nat → Prop} (h : ∀ i j, E i j → E' i j) {p : Nat} : ∀ (v j : Nat), pth E p v j → pth E' p v j := by
  intro v
  induction v with
  | zero => intro j k; exact k
  | succ v ih => intro j ⟨i, a, b⟩; exact ⟨i, ih i a, h i j b⟩
theorem kE_Ez {sz : Nat} {kn : Nat → Int} {k : Int} {B : Nat → Nat → Prop} : ∀ i j, kE sz kn k B i j → Ez sz B i j := fun _ _ h => ⟨h.1.1, h.2.1.1, h.2.2⟩
/-- a shortest ring meets nobody twice -/
theorem SH_cnt {sz S : Nat} {kn : Nat → Int} {k : Int} {B : Nat → Nat → Prop} {p v : Nat} (hS : ∀ j, S.testBit j = true ↔ (j < sz ∧ kn j = k)) (hp : p < sz ∧ kn p = k) (h : SH (kE sz kn k B) p v) : v ≤ cnt S sz := by
  obtain ⟨h1, h2, h3⟩ := h
  -- the places of the walk, from its end
  have cut : ∀ (u : Nat) (j : Nat), pth (kE sz kn k B) p u j → ∃ x : Nat → Nat, x u = j ∧ x 0 = p ∧ ∀ t, t < u → pth (kE sz kn k B) p t (x t) ∧ kE sz kn k B (x t) (x (t + 1)) := by
    intro u
    induction u with
    | zero => intro j hj; exact ⟨fun _ => p, (show j = p from hj).symm, rfl, fun t ht => absurd ht (Nat.not_lt_zero _)⟩
    | succ u ih =>
      rintro j ⟨i, a, b⟩
      obtain ⟨x, x1, x2, x3⟩ := ih i a
      refine ⟨fun t => if t = u + 1 then j else x t, if_pos rfl, by show (if 0 = u + 1 then j else x 0) = p; rw [if_neg (by omega)]; exact x2, fun t ht => ?_⟩
      show pth (kE sz kn k B) p t (if t = u + 1 then j else x t) ∧ kE sz kn k B (if t = u + 1 then j else x t) (if t + 1 = u + 1 then j else x (t + 1))
      rw [if_neg (by omega)]
      by_cases e : t = u
      · subst e
        rw [if_pos rfl, x1]; exact ⟨a, b⟩
      · rw [if_neg (by omega)]; exact x3 t (by omega)
  obtain ⟨x, x1, x2, x3⟩ := cut v p h2
  have rest : ∀ (d t : Nat), t + d = v → pth (kE sz kn k B) (x t) d p := by
    intro d
    induction d with
    | zero => intro t ht; rw [show t = v by omega]; exact x1.symm
    | succ d ih =>
      intro t ht
      have a := ih (t + 1) (by omega)
      have := pth_app (p := x t) d (u := 1) ⟨x t, rfl, (x3 t (by omega)).2⟩ a
      rw [show 1 + d = d + 1 by omega] at this
      exact this
  refine cnt_inj v S x (fun t ht => ?_) (fun t u htu hu e => ?_)
  · have := (x3 t ht).2.1
    exact ⟨this.1, (hS _).2 this⟩
  · have a := (x3 t (by omega)).1
    have b := rest (v - u) u (by omega)
    rw [e] at a
    have c := pth_app _ a b
    exact h3 (t + (v - u)) (by omega) (by omega) c
