/-! the class's sights and the model's tell of the same places -/
def oc (D W P Qq A B L : Int) : cnd := (A, (L, (ofTop D W P Qq A B L, ofBot D L)))
theorem ofr_inv {C : cnd → Prop} {s : ofS} {D W P Qq A B L : Int} (h : gIv C s) (hC : ∀ c, C c → 0 < c.2.1 ∧ 0 < c.2.2.2) (hL : 0 < L) (hD : D ≠ 0) : gIv (fun x => C x ∨ x = oc D W P Qq A B L) (ofr D W P Qq A B L s) :=
  gIv_step (c := oc D W P Qq A B L) (t := ofTop D W P Qq A B L) (m := ofBot D L) h hC ⟨hL, ofBot_pos hD hL⟩ (ofBot_pos hD hL) rfl
def t1 (e own other shift A B L : Int) : Prop := (other = 0 ∧ e * own + shift = 0 ∧ A = e ∧ (B = 0 ∨ B = 1) ∧ L = 1) ∨ (other ≠ 0 ∧ prt (sgn other * (e * own + shift)) (sgn other * other) ∧ A = e * (sgn other * other) ∧ B = sgn other * (e * own + shift) ∧ L = sgn other * other)
theorem sg_pos {z : Int} (h : z ≠ 0) : 0 < sgn z * z := by rw [sgn_ab]; omega
theorem t1_L {e own other shift A B L : Int} (h : t1 e own other shift A B L) : 0 < L := by
  rcases h with ⟨_, _, _, _, h⟩ | ⟨h, _, _, _, h1⟩
  · omega
  · rw [h1]; exact sg_pos h
theorem oc_pos {C : Int → Int → Int → Prop} {D W P Qq : Int} (hD : D ≠ 0) (hC : ∀ A B L, C A B L → 0 < L) : ∀ c, (∃ A B L, C A B L ∧ c = oc D W P Qq A B L) → 0 < c.2.1 ∧ 0 < c.2.2.2 := by
  rintro c ⟨A, B, L, h, rfl⟩
  exact ⟨hC A B L h, ofBot_pos hD (hC A B L h)⟩
theorem ofE1 {C : Int → Int → Int → Prop} {s : ofS} {c : v4} {e own other shift : Int} (hD : c.1 ≠ 0) (hC : ∀ A B L, C A B L → 0 < L) (h : gIv (fun x => ∃ A B L, C A B L ∧ x = oc c.1 c.2.1 c.2.2.1 c.2.2.2 A B L) s) : gIv (fun x => ∃ A B L, (C A B L ∨ t1 e own other shift A B L) ∧ x = oc c.1 c.2.1 c.2.2.1 c.2.2.2 A B L) (ofE c 1 e own other shift s) := by
  have hp := oc_pos (W := c.2.1) (P := c.2.2.1) (Qq := c.2.2.2) hD hC
  unfold ofE ofP4
  rw [if_neg (show ¬ (1 : Int) = 0 by decide), if_neg (show ¬ (1 : Int) = 0 by decide)]
  simp only [if_neg (show ¬ (1 : Int) = 0 by decide)]
  by_cases k : other = 0
  · rw [if_pos k]
    by_cases k2 : e * own + shift = 0
    · rw [if_pos k2]
      have a := ofr_inv (W := c.2.1) (P := c.2.2.1) (Qq := c.2.2.2) (A := e) (B := 0) (L := 1) h hp (by decide) hD
      have b := ofr_inv (W := c.2.1) (P := c.2.2.1) (Qq := c.2.2.2) (A := e) (B := 1) (L := 1) a (fun x hx => by
        rcases hx with hx | rfl
        · exact hp x hx
        · exact ⟨by show (0 : Int) < 1; decide, ofBot_pos hD (by decide)⟩) (by decide) hD
      refine gIv_cg b (fun x => ⟨?_, ?_⟩)
      · rintro ((⟨A, B, L, hx, rfl⟩ | rfl) | rfl)
        · exact ⟨A, B, L, Or.inl hx, rfl⟩
        · exact ⟨e, 0, 1, Or.inr (Or.inl ⟨k, k2, rfl, Or.inl rfl, rfl⟩), rfl⟩
        · exact ⟨e, 1, 1, Or.inr (Or.inl ⟨k, k2, rfl, Or.inr rfl, rfl⟩), rfl⟩
      · rintro ⟨A, B, L, hx | ⟨_, _, rfl, rfl | rfl, rfl⟩ | ⟨hx, _⟩, rfl⟩
        · exact Or.inl (Or.inl ⟨A, B, L, hx, rfl⟩)
        · exact Or.inl (Or.inr rfl)
        · exact Or.inr rfl
        · exact absurd k hx
    · rw [if_neg k2]
      refine gIv_cg h (fun x => ⟨?_, ?_⟩)
      · rintro ⟨A, B, L, hx, rfl⟩
        exact ⟨A, B, L, Or.inl hx, rfl⟩
      · rintro ⟨A, B, L, hx | ⟨_, hx, _⟩ | ⟨hx, _⟩, rfl⟩
        · exact ⟨A, B, L, hx, rfl⟩
        · exact absurd hx k2
        · exact absurd k hx
  · rw [if_neg k]
    by_cases k2 : 0 ≤ sgn other * (e * own + shift) ∧ sgn other * (e * own + shift) ≤ sgn other * other
    · rw [if_pos k2]
      have b := ofr_inv (W := c.2.1) (P := c.2.2.1) (Qq := c.2.2.2) (A := e * (sgn other * other)) (B := sgn other * (e * own + shift)) (L := sgn other * other) h hp (sg_pos k) hD
      refine gIv_cg b (fun x => ⟨?_, ?_⟩)
      · rintro (⟨A, B, L, hx, rfl⟩ | rfl)
        · exact ⟨A, B, L, Or.inl hx, rfl⟩
        · exact ⟨_, _, _, Or.inr (Or.inr ⟨k, k2, rfl, rfl, rfl⟩), rfl⟩
      · rintro ⟨A, B, L, hx | ⟨hx, _⟩ | ⟨_, _, rfl, rfl, rfl⟩, rfl⟩
        · exact Or.inl ⟨A, B, L, hx, rfl⟩
        · exact absurd hx k
        · exact Or.inr rfl
    · rw [if_neg k2]
      refine gIv_cg h (fun x => ⟨?_, ?_⟩)
      · rintro ⟨A, B, L, hx, rfl⟩
        exact ⟨A, B, L, Or.inl hx, rfl⟩
      · rintro ⟨A, B, L, hx | ⟨hx, _⟩ | ⟨_, hx, _⟩, rfl⟩
        · exact ⟨A, B, L, hx, rfl⟩
        · exact absurd hx k
        · exact absurd hx k2
theorem ofE0 {C : Int → Int → Int → Prop} {s : ofS} {c : v4} {e own other shift : Int} (hD : c.1 ≠ 0) (hC : ∀ A B L, C A B L → 0 < L) (h : gIv (fun x => ∃ A B L, C A B L ∧ x = oc c.1 c.2.1 c.2.2.1 c.2.2.2 A B L) s) : gIv (fun x => ∃ A B L, (C A B L ∨ t1 e own other shift B A L) ∧ x = oc c.1 c.2.1 c.2.2.1 c.2.2.2 A B L) (ofE c 0 e own other shift s) := by
  have hp := oc_pos (W := c.2.1) (P := c.2.2.1) (Qq := c.2.2.2) hD hC
  unfold ofE ofP4
  simp only [if_true]
  by_cases k : other = 0
  · rw [if_pos k]
    by_cases k2 : e * own + shift = 0
    · rw [if_pos k2]
      have a := ofr_inv (W := c.2.1) (P := c.2.2.1) (Qq := c.2.2.2) (A := 0) (B := e) (L := 1) h hp (by decide) hD
      have b := ofr_inv (W := c.2.1) (P := c.2.2.1) (Qq := c.2.2.2) (A := 1) (B := e) (L := 1) a (fun x hx => by
        rcases hx with hx | rfl
        · exact hp x hx
        · exact ⟨by show (0 : Int) < 1; decide, ofBot_pos hD (by decide)⟩) (by decide) hD
      refine gIv_cg b (fun x => ⟨?_, ?_⟩)
      · rintro ((⟨A, B, L, hx, rfl⟩ | rfl) | rfl)
        · exact ⟨A, B, L, Or.inl hx, rfl⟩
        · exact ⟨0, e, 1, Or.inr (Or.inl ⟨k, k2, rfl, Or.inl rfl, rfl⟩), rfl⟩
        · exact ⟨1, e, 1, Or.inr (Or.inl ⟨k, k2, rfl, Or.inr rfl, rfl⟩), rfl⟩
      · rintro ⟨A, B, L, hx | ⟨_, _, rfl, rfl | rfl, rfl⟩ | ⟨hx, _⟩, rfl⟩
        · exact Or.inl (Or.inl ⟨A, B, L, hx, rfl⟩)
        · exact Or.inl (Or.inr rfl)
        · exact Or.inr rfl
        · exact absurd k hx
    · rw [if_neg k2]
      refine gIv_cg h (fun x => ⟨?_, ?_⟩)
      · rintro ⟨A, B, L, hx, rfl⟩
        exact ⟨A, B, L, Or.inl hx, rfl⟩
      · rintro ⟨A, B, L, hx | ⟨_, hx, _⟩ | ⟨hx, _⟩, rfl⟩
        · exact ⟨A, B, L, hx, rfl⟩
        · exact absurd hx k2
        · exact absurd k hx
  · rw [if_neg k]
    by_cases k2 : 0 ≤ sgn other * (e * own + shift) ∧ sgn other * (e * own + shift) ≤ sgn other * other
    · rw [if_pos k2]
      have b := ofr_inv (W := c.2.1) (P := c.2.2.1) (Qq := c.2.2.2) (B := e * (sgn other * other)) (A := sgn other * (e * own + shift)) (L := sgn other * other) h hp (sg_pos k) hD
      refine gIv_cg b (fun x => ⟨?_, ?_⟩)
      · rintro (⟨A, B, L, hx, rfl⟩ | rfl)
        · exact ⟨A, B, L, Or.inl hx, rfl⟩
        · exact ⟨_, _, _, Or.inr (Or.inr ⟨k, k2, rfl, rfl, rfl⟩), rfl⟩
      · rintro ⟨A, B, L, hx | ⟨hx, _⟩ | ⟨_, _, rfl, rfl, rfl⟩, rfl⟩
        · exact Or.inl ⟨A, B, L, hx, rfl⟩
        · exact absurd hx k
        · exact Or.inr rfl
    · rw [if_neg k2]
      refine gIv_cg h (fun x => ⟨?_, ?_⟩)
      · rintro ⟨A, B, L, hx, rfl⟩
        exact ⟨A, B, L, Or.inl hx, rfl⟩
      · rintro ⟨A, B, L, hx | ⟨hx, _⟩ | ⟨_, hx, _⟩, rfl⟩
        · exact ⟨A, B, L, hx, rfl⟩
        · exact absurd hx k
        · exact absurd hx k2
def cls (x y z A B L : Int) : Prop := (((t1 0 x y (-z) A B L ∨ t1 0 y x z B A L) ∨ t1 1 x y (-z) A B L) ∨ t1 1 y x z B A L)
theorem ofLa_inv {c : v4} {x y z : Int} {s : ofS} (hD : c.1 ≠ 0) : gIv (fun u => ∃ A B L, cls x y z A B L ∧ u = oc c.1 c.2.1 c.2.2.1 c.2.2.2 A B L) (ofLa c x y z s) := by
  unfold ofLa ofL2
  have h0 : gIv (fun u => ∃ A B L, (fun _ _ _ : Int => False) A B L ∧ u = oc c.1 c.2.1 c.2.2.1 c.2.2.2 A B L) ((0, s.2) : ofS) := Or.inl ⟨rfl, fun u hu => by obtain ⟨_, _, _, hu, _⟩ := hu; exact hu⟩
  have h1 := ofE1 (e := 0) (own := x) (other := y) (shift := -z) hD (fun _ _ _ hx => hx.elim) h0
  have h2 := ofE0 (e := 0) (own := y) (other := x) (shift := z) hD (fun A B L hx => by rcases hx with hx | hx; exact hx.elim; exact t1_L hx) h1
  have h3 := ofE1 (e := 1) (own := x) (other := y) (shift := -z) hD (fun A B L hx => by rcases hx with (hx | hx) | hx; exact hx.elim; exact t1_L hx; exact t1_L hx) h2
  have h4 := ofE0 (e := 1) (own := y) (other := x) (shift := z) hD (fun A B L hx => by rcases hx with ((hx | hx) | hx) | hx; exact hx.elim; exact t1_L hx; exact t1_L hx; exact t1_L hx) h3
  refine gIv_cg h4 (fun u => ⟨?_, ?_⟩)
  · rintro ⟨A, B, L, hx, rfl⟩
    refine ⟨A, B, L, ?_, rfl⟩
    rcases hx with ((((hx | hx) | hx) | hx) | hx)
    · exact hx.elim
    · exact Or.inl (Or.inl (Or.inl hx))
    · exact Or.inl (Or.inl (Or.inr hx))
    · exact Or.inl (Or.inr hx)
    · exact Or.inr hx
  · rintro ⟨A, B, L, hx, rfl⟩
    refine ⟨A, B, L, ?_, rfl⟩
    rcases hx with (((hx | hx) | hx) | hx)
    · exact Or.inl (Or.inl (Or.inl (Or.inr hx)))
    · exact Or.inl (Or.inl (Or.inr hx))
    · exact Or.inl (Or.inr hx)
    · exact Or.inr hx
theorem t1_sem {e a b sh A B L : Int} (he : e = 0 ∨ e = 1) (h : t1 e a b sh A B L) : sem1 a b (-sh) A B L := by
  rcases h with ⟨h0, h1, rfl, h2, rfl⟩ | ⟨h0, h1, rfl, rfl, rfl⟩
  · refine ⟨by decide, by rcases h2 with rfl | rfl <;> exact ⟨by decide, by decide⟩, ⟨A, he, by omega, ?_⟩, fun _ => h2⟩
    rw [h0, Int.mul_zero, Int.one_mul]
    omega
  · refine ⟨sg_pos h0, h1, ⟨e, he, rfl, by rw [Int.sub_neg]; grind⟩, fun k => absurd k h0⟩
theorem sem_t1 {a b z A B L : Int} (h : sem1 a b z A B L) : ∃ e A' B' L', (e = 0 ∨ e = 1) ∧ t1 e a b (-z) A' B' L' ∧ A * L' = A' * L ∧ B * L' = B' * L := by
  obtain ⟨hL, hB, ⟨e, he, hA, hq⟩, hy⟩ := h
  by_cases b0 : b = 0
  · have e0 : e * a - z = 0 := zmul (by rw [Int.mul_comm, hq, b0, Int.mul_zero]) (show L ≠ 0 by omega)
    rcases hy b0 with k | k
    · exact ⟨e, e, 0, 1, he, Or.inl ⟨b0, by omega, rfl, Or.inl rfl, rfl⟩, by omega, by omega⟩
    · exact ⟨e, e, 1, 1, he, Or.inl ⟨b0, by omega, rfl, Or.inr rfl, rfl⟩, by omega, by omega⟩
  · have e1 : e * a + -z = e * a - z := by omega
    refine ⟨e, _, _, _, he, Or.inr ⟨b0, ?_, rfl, rfl, rfl⟩, ?_, ?_⟩
    · rw [e1]
      exact frac_in hL hB (sg_pos b0) (by grind)
    · rw [hA]; grind
    · rw [e1]; grind
theorem cls_Sm {x y z A B L : Int} (h : cls x y z A B L) : Sm x y z A B L := by
  rcases h with ((h | h) | h) | h
  · have := t1_sem (Or.inl rfl) h
    rw [Int.neg_neg] at this
    exact Or.inl this
  · exact Or.inr (t1_sem (Or.inl rfl) h)
  · have := t1_sem (Or.inr rfl) h
    rw [Int.neg_neg] at this
    exact Or.inl this
  · exact Or.inr (t1_sem (Or.inr rfl) h)
theorem Sm_cls {x y z A B L : Int} (h : Sm x y z A B L) : ∃ A' B' L', cls x y z A' B' L' ∧ A * L' = A' * L ∧ B * L' = B' * L := by
  rcases h with h | h
  · obtain ⟨e, A', B', L', he, ht, e1, e2⟩ := sem_t1 h
    refine ⟨A', B', L', ?_, e1, e2⟩
    rcases he with rfl | rfl
    · exact Or.inl (Or.inl (Or.inl ht))
    · exact Or.inl (Or.inr ht)
  · obtain ⟨e, B', A', L', he, ht, e1, e2⟩ := sem_t1 h
    rw [Int.neg_neg] at ht
    refine ⟨A', B', L', ?_, e2, e1⟩
    rcases he with rfl | rfl
    · exact Or.inl (Or.inl (Or.inr ht))
    · exact Or.inr ht
theorem PR_eqv {p q w : Nat → Int} {A B L A' B' L' : Int} (h1 : A * L' = A' * L) (h2 : B * L' = B' * L) (i : Nat) : PR p q w A B L i * L' = PR p q w A' B' L' i * L := by unfold PR; grind
theorem rep_oc {d p q w : Nat → Int} {A B L A' B' L' : Int} {k : Nat} (hk : k < 3) (hc : cand d p q w A B L) (h1 : A * L' = A' * L) (h2 : B * L' = B' * L) : rep d p q w (oc (d k) (w k) (p k) (q k) A' B' L') A B L := by
  refine ⟨h1.symm, fun i hi => ?_⟩
  have e1 := PR_eqv (p := p) (q := q) (w := w) h1 h2 k
  have e2 := hc.2.2.2 k i hk hi
  show sgn (d k) * PR p q w A' B' L' k * L * d i = sgn (d k) * L' * d k * PR p q w A B L i
  generalize PR p q w A B L i = Ri at *
  generalize PR p q w A B L k = Rk at *
  generalize PR p q w A' B' L' k = Rk' at *
  grind
theorem wide_z {v : Nat → Int} (h : v (wide v) = 0) : z3 v := by
  unfold wide wide1 ab at h
  refine ⟨?_, ?_, ?_⟩ <;> grind
theorem isMul_iff {a b : Nat → Int} : isMul a b (wide b) ↔ (z3 b ∧ z3 a) ∨ (¬ z3 b ∧ z3 (cr a b)) := by
  have hk := wide_lt b
  constructor
  · rintro (⟨h1, h2⟩ | ⟨h1, h2⟩)
    · exact Or.inl ⟨wide_z h1, h2⟩
    · refine Or.inr ⟨fun z => h1 (z3_at z hk), par_of (fun i j hi hj => ?_)⟩
      have e1 := h2 i hi
      have e2 := h2 j hj
      refine Int.eq_of_mul_eq_mul_right h1 ?_
      generalize b (wide b) = bk at *
      generalize a (wide b) = ak at *
      grind
  · rintro (⟨h1, h2⟩ | ⟨h1, h2⟩)
    · exact Or.inl ⟨z3_at h1 hk, h2⟩
    · exact Or.inr ⟨fun z => h1 (wide_z z), fun j hj => par_ij h2 hj hk⟩
theorem lnv_t {d p q : Nat → Int} (h : z3 (cr p d)) : lnv d p q = cr q d := if_pos h
theorem lnv_f {d p q : Nat → Int} (h : ¬ z3 (cr p d)) : lnv d p q = cr p d := if_neg h
theorem lineM_iff {d p q w : Nat → Int} (hde : de p q d = 0) : lineM d p q w ↔ SymM d p q w := by
  have c := crcr_z hde
  unfold lineM
  rw [isMul_iff]
  unfold SymM
  by_cases zp : z3 (cr p d)
  · rw [lnv_t zp]
    constructor
    · rintro (⟨h1, h2⟩ | ⟨h1, h2⟩)
      · exact ⟨par_z zp, par_z h1, fun _ _ => h2⟩
      · exact ⟨par_z zp, h2, fun _ b => absurd b h1⟩
    · rintro ⟨h1, h2, h3⟩
      by_cases zq : z3 (cr q d)
      · exact Or.inl ⟨zq, h3 zp zq⟩
      · exact Or.inr ⟨zq, h2⟩
  · rw [lnv_f zp]
    constructor
    · rintro (⟨h1, h2⟩ | ⟨h1, h2⟩)
      · exact absurd h1 zp
      · exact ⟨h2, par_tr zp h2 (z3_sw.1 c), fun a _ => absurd a zp⟩
    · rintro ⟨h1, h2, h3⟩
      exact Or.inr ⟨zp, h1⟩
theorem lnv_gax {d p q : Nat → Int} : gax d p q (wide (lnv d p q)) := by
  refine ⟨wide_lt _, ?_⟩
  by_cases h : lnv d p q (wide (lnv d p q)) = 0
  · have z := wide_z h
    by_cases zp : z3 (cr p d)
    · rw [lnv_t zp] at z; exact Or.inl ⟨zp, z⟩
    · rw [lnv_f zp] at z; exact absurd z zp
  · by_cases zp : z3 (cr p d)
    · have e : lnv d p q = cr q d := if_pos zp
      rw [e] at h ⊢; exact Or.inr (Or.inr h)
    · have e : lnv d p q = cr p d := if_neg zp
      rw [e] at h ⊢; exact Or.inr (Or.inl h)
theorem gIv_one {C : cnd → Prop} {s : ofS} (h : gIv C s) : s.1 = 1 ↔ ∃ c, C c := by
  rcases h with ⟨h0, hn⟩ | ⟨h1, _, ⟨c, hc, _⟩, _⟩
  · exact ⟨fun k => by omega, fun ⟨c, hc⟩ => absurd hc (hn c)⟩
  · exact ⟨fun _ => ⟨c, hc⟩, fun _ => h1⟩
theorem cls_x {d p q w : Nat → Int} (hz : ¬ z3 d) : (sb d p q w (wide d) ↔ ∃ A B L, Sx d p q w A B L) ∧ (sb d p q w (wide d) → spec d p q w (Sx d p q w) (sv d p q w (wide d))) := by
  have hk := wide_lt d
  have hdk : d (wide d) ≠ 0 := fun z => hz (wide_z z)
  by_cases hde : de p q d = 0
  · have hsb : sb d p q w (wide d) ↔ (SymM d p q w ∧ (ofL d p q w (wide d) s00).1 = 1) := by
      unfold sb
      rw [lineM_iff hde]
      exact ⟨fun h => by rcases h with h | h; exact h.2; exact absurd hde h.1, fun h => Or.inl ⟨hde, h⟩⟩
    have hsv : sv d p q w (wide d) = ofL d p q w (wide d) s00 := if_pos hde
    have G := ofLa_inv (c := c4 d p q w (wide d)) (x := cr p d (wide (lnv d p q))) (y := cr q d (wide (lnv d p q))) (z := cr w d (wide (lnv d p q))) (s := s00) hdk
    have one := gIv_one G
    have S1 : SymM d p q w → ∀ A B L, cls (cr p d (wide (lnv d p q))) (cr q d (wide (lnv d p q))) (cr w d (wide (lnv d p q))) A B L → Sx d p q w A B L := fun hM A B L h => Or.inr ⟨hde, hM, _, lnv_gax, cls_Sm h⟩
    have S2 : ∀ A B L, Sx d p q w A B L → ∃ A' B' L', cls (cr p d (wide (lnv d p q))) (cr q d (wide (lnv d p q))) (cr w d (wide (lnv d p q))) A' B' L' ∧ A * L' = A' * L ∧ B * L' = B' * L := by
      intro A B L h
      rcases h with ⟨h0, _⟩ | ⟨_, hM, j, hj, hs⟩
      · exact absurd hde h0
      · exact Sm_cls (Sm_ax hde hM lnv_gax hj hs)
    have ex : SymM d p q w → ((ofL d p q w (wide d) s00).1 = 1 ↔ ∃ A B L, Sx d p q w A B L) := fun hM => by
      refine one.trans ⟨?_, ?_⟩
      · rintro ⟨c, A, B, L, h, _⟩
        exact ⟨A, B, L, S1 hM A B L h⟩
      · rintro ⟨A, B, L, h⟩
        obtain ⟨A', B', L', h', _⟩ := S2 A B L h
        exact ⟨_, A', B', L', h', rfl⟩
    refine ⟨hsb.trans ⟨fun h => (ex h.1).1 h.2, fun h => ?_⟩, fun h => ?_⟩
    · obtain ⟨A, B, L, hx⟩ := h
      rcases id hx with ⟨h0, _⟩ | ⟨_, hM, _⟩
      · exact absurd hde h0
      · exact ⟨hM, (ex hM).2 ⟨A, B, L, hx⟩⟩
    · obtain ⟨hM, h1⟩ := hsb.1 h
      rw [hsv]
      refine gIv_spec G h1 (oc_pos hdk (fun A B L hx => (Sm_eq (cls_Sm hx)).1)) (fun A B L hx => (Sx_cand hx).1) ?_ ?_
      · rintro c ⟨A, B, L, hx, rfl⟩
        have sx := S1 hM A B L hx
        exact ⟨A, B, L, sx, rep_oc hk (Sx_cand sx) rfl rfl⟩
      · intro A B L hx
        obtain ⟨A', B', L', h', e1, e2⟩ := S2 A B L hx
        exact ⟨_, ⟨A', B', L', h', rfl⟩, rep_oc hk (Sx_cand hx) e1 e2⟩
  · have hsb : sb d p q w (wide d) ↔ seeP d p q w := ⟨fun h => by rcases h with h | h; exact absurd h.1 hde; exact h.2, fun h => Or.inr ⟨hde, h⟩⟩
    have hsv : sv d p q w (wide d) = seeN d p q w s00 := if_neg hde
    have Dp : 0 < de p q d * sgn (de p q d) := by rw [Int.mul_comm]; exact sg_pos hde
    have S2 : ∀ A B L, Sx d p q w A B L → seeP d p q w := by
      intro A B L h
      rcases h with ⟨_, hL, hA, hB, e1, e2⟩ | ⟨h0, _⟩
      · exact ⟨frac_in hL hA Dp (by grind), frac_in hL hB Dp (by grind)⟩
      · exact absurd h0 hde
    have S1 : seeP d p q w → Sx d p q w (sgn (de p q d) * de w q d) (sgn (de p q d) * de w p d) (de p q d * sgn (de p q d)) := fun h => Or.inl ⟨hde, Dp, h.1, h.2, by grind, by grind⟩
    refine ⟨hsb.trans ⟨fun h => ⟨_, _, _, S1 h⟩, fun ⟨A, B, L, h⟩ => S2 A B L h⟩, fun h => ?_⟩
    have hS := hsb.1 h
    rw [hsv]
    have G : gIv (fun c => c = ((sgn (de p q d) * de w q d, (de p q d * sgn (de p q d), (sgn (de p q d) * de p q w, de p q d * sgn (de p q d)))) : cnd)) (1, (seeN d p q w s00).2) := by
      refine Or.inr ⟨rfl, ⟨Dp, Dp⟩, ⟨_, rfl, rfl⟩, ?_, ⟨_, rfl, rfl⟩, ?_⟩
      · rintro c rfl; exact Int.le_refl _
      · rintro c rfl; exact Int.le_refl _
    have RP : ∀ A B L, Sx d p q w A B L → rep d p q w ((sgn (de p q d) * de w q d, (de p q d * sgn (de p q d), (sgn (de p q d) * de p q w, de p q d * sgn (de p q d)))) : cnd) A B L := by
      intro A B L hx
      rcases hx with ⟨_, hL, hA, hB, e1, e2⟩ | ⟨h0, _⟩
      · refine ⟨?_, fun i hi => ?_⟩
        · show sgn (de p q d) * de w q d * L = A * (de p q d * sgn (de p q d))
          grind
        · have e := Sx_D e1 e2 hi
          show sgn (de p q d) * de p q w * L * d i = de p q d * sgn (de p q d) * PR p q w A B L i
          generalize PR p q w A B L i = R at *
          generalize de p q w = T at *
          grind
      · exact absurd h0 hde
    have sp := gIv_spec (S := Sx d p q w) G rfl (by rintro c rfl; exact ⟨Dp, Dp⟩) (fun A B L hx => (Sx_cand hx).1) (by rintro c rfl; exact ⟨_, _, _, S1 hS, RP _ _ _ (S1 hS)⟩) (fun A B L hx => ⟨_, rfl, RP A B L hx⟩)
    exact sp
