/-! the model's candidates -/
theorem mem_ups2 {c : Nat → List cnd} {x : cnd} : x ∈ ups c 2 0 ↔ x ∈ c 0 ∨ x ∈ c 1 := by
  show x ∈ c 0 ++ (c 1 ++ []) ↔ _
  rw [List.append_nil, List.mem_append]
theorem mem_cite {P : Prop} {L : List cnd} {x : cnd} : x ∈ cite P L [] ↔ P ∧ x ∈ L := by
  by_cases h : P
  · rw [cite_t h]; exact ⟨fun k => ⟨h, k⟩, fun k => k.2⟩
  · rw [cite_f h]; exact ⟨fun k => absurd k (List.not_mem_nil), fun k => absurd k.1 h⟩
def mP (d u v w : Nat → Int) (aU aL bU bL : Int) : Prop :=
  (z3 (cr u d) ∧ z3 (cr v d) ∧ z3 (cr w d) ∧ (aU = 0 ∨ aU = 1) ∧ aL = 1 ∧ (bU = 0 ∨ bU = 1) ∧ bL = 1) ∨
  (z3 (cr u d) ∧ ¬ z3 (cr v d) ∧ z3 (cr (cr w d) (cr v d)) ∧ prtM bU bL ∧ (aU = 0 ∨ aU = 1) ∧ aL = 1 ∧ bU = -cr w d (ax1 (cr v d)) ∧ bL = cr v d (ax1 (cr v d))) ∨
  (¬ z3 (cr u d) ∧ z3 (cr (cr w d) (cr u d)) ∧ z3 (cr v d) ∧ prtM aU aL ∧ aU = cr w d (ax1 (cr u d)) ∧ aL = cr u d (ax1 (cr u d)) ∧ (bU = 0 ∨ bU = 1) ∧ bL = 1) ∨
  (¬ z3 (cr u d) ∧ z3 (cr (cr w d) (cr u d)) ∧ ¬ z3 (cr v d) ∧ prtM bU bL ∧ (aU = 0 ∨ aU = 1) ∧ aL = 1 ∧ bU = aU * cr u d (ax1 (cr u d)) - cr w d (ax1 (cr u d)) ∧ bL = cr v d (ax1 (cr u d))) ∨
  (¬ z3 (cr u d) ∧ z3 (cr (cr w d) (cr u d)) ∧ ¬ z3 (cr v d) ∧ prtM aU aL ∧ aU = cr w d (ax1 (cr u d)) + bU * cr v d (ax1 (cr u d)) ∧ aL = cr u d (ax1 (cr u d)) ∧ (bU = 0 ∨ bU = 1) ∧ bL = 1)
theorem mem_mCs {d u v w : Nat → Int} (low : de u v d = 0) {x : cnd} : x ∈ mCs d u v w ↔ ∃ aU aL bU bL, mP d u v w aU aL bU bL ∧ x = mC d u v w aU aL bU bL := by
  unfold mCs
  rw [cite_f (fun k => k low)]
  by_cases zu : z3 (cr u d)
  · rw [cite_t zu]
    by_cases zv : z3 (cr v d)
    · rw [cite_t zv, mem_cite, mem_ups2, mem_ups2, mem_ups2]
      constructor
      · rintro ⟨zw, (k | k) | (k | k)⟩ <;> rw [List.mem_singleton] at k
        · exact ⟨0, 1, 0, 1, Or.inl ⟨zu, zv, zw, Or.inl rfl, rfl, Or.inl rfl, rfl⟩, k⟩
        · exact ⟨0, 1, 1, 1, Or.inl ⟨zu, zv, zw, Or.inl rfl, rfl, Or.inr rfl, rfl⟩, k⟩
        · exact ⟨1, 1, 0, 1, Or.inl ⟨zu, zv, zw, Or.inr rfl, rfl, Or.inl rfl, rfl⟩, k⟩
        · exact ⟨1, 1, 1, 1, Or.inl ⟨zu, zv, zw, Or.inr rfl, rfl, Or.inr rfl, rfl⟩, k⟩
      · rintro ⟨aU, aL, bU, bL, h, rfl⟩
        rcases h with ⟨_, _, zw, ha, rfl, hb, rfl⟩ | ⟨_, k, _⟩ | ⟨k, _⟩ | ⟨k, _⟩ | ⟨k, _⟩
        · refine ⟨zw, ?_⟩
          rcases ha with rfl | rfl <;> rcases hb with rfl | rfl
          · exact Or.inl (Or.inl (List.mem_singleton.2 rfl))
          · exact Or.inl (Or.inr (List.mem_singleton.2 rfl))
          · exact Or.inr (Or.inl (List.mem_singleton.2 rfl))
          · exact Or.inr (Or.inr (List.mem_singleton.2 rfl))
        · exact absurd zv k
        · exact absurd zu k
        · exact absurd zu k
        · exact absurd zu k
    · rw [cite_f zv, mem_cite, mem_ups2]
      constructor
      · rintro ⟨⟨k1, k2⟩, k | k⟩ <;> rw [List.mem_singleton] at k
        · exact ⟨0, 1, _, _, Or.inr (Or.inl ⟨zu, zv, k1, k2, Or.inl rfl, rfl, rfl, rfl⟩), k⟩
        · exact ⟨1, 1, _, _, Or.inr (Or.inl ⟨zu, zv, k1, k2, Or.inr rfl, rfl, rfl, rfl⟩), k⟩
      · rintro ⟨aU, aL, bU, bL, h, rfl⟩
        rcases h with ⟨_, k, _⟩ | ⟨_, _, k1, k2, ha, rfl, rfl, rfl⟩ | ⟨k, _⟩ | ⟨k, _⟩ | ⟨k, _⟩
        · exact absurd k zv
        · refine ⟨⟨k1, k2⟩, ?_⟩
          rcases ha with rfl | rfl
          · exact Or.inl (List.mem_singleton.2 rfl)
          · exact Or.inr (List.mem_singleton.2 rfl)
        · exact absurd zu k
        · exact absurd zu k
        · exact absurd zu k
  · rw [cite_f zu, mem_cite]
    by_cases zv : z3 (cr v d)
    · rw [cite_t zv, mem_cite, mem_ups2]
      constructor
      · rintro ⟨k1, k2, k | k⟩ <;> rw [List.mem_singleton] at k
        · exact ⟨_, _, 0, 1, Or.inr (Or.inr (Or.inl ⟨zu, k1, zv, k2, rfl, rfl, Or.inl rfl, rfl⟩)), k⟩
        · exact ⟨_, _, 1, 1, Or.inr (Or.inr (Or.inl ⟨zu, k1, zv, k2, rfl, rfl, Or.inr rfl, rfl⟩)), k⟩
      · rintro ⟨aU, aL, bU, bL, h, rfl⟩
        rcases h with ⟨k, _⟩ | ⟨k, _⟩ | ⟨_, k1, _, k2, rfl, rfl, hb, rfl⟩ | ⟨_, _, k, _⟩ | ⟨_, _, k, _⟩
        · exact absurd k zu
        · exact absurd k zu
        · refine ⟨k1, k2, ?_⟩
          rcases hb with rfl | rfl
          · exact Or.inl (List.mem_singleton.2 rfl)
          · exact Or.inr (List.mem_singleton.2 rfl)
        · exact absurd zv k
        · exact absurd zv k
    · rw [cite_f zv, List.mem_append, mem_ups2, mem_ups2, mem_cite, mem_cite, mem_cite, mem_cite]
      constructor
      · rintro ⟨k1, (⟨k2, k⟩ | ⟨k2, k⟩) | (⟨k2, k⟩ | ⟨k2, k⟩)⟩ <;> rw [List.mem_singleton] at k
        · exact ⟨0, 1, _, _, Or.inr (Or.inr (Or.inr (Or.inl ⟨zu, k1, zv, k2, Or.inl rfl, rfl, rfl, rfl⟩))), k⟩
        · exact ⟨1, 1, _, _, Or.inr (Or.inr (Or.inr (Or.inl ⟨zu, k1, zv, k2, Or.inr rfl, rfl, rfl, rfl⟩))), k⟩
        · exact ⟨_, _, 0, 1, Or.inr (Or.inr (Or.inr (Or.inr ⟨zu, k1, zv, k2, rfl, rfl, Or.inl rfl, rfl⟩))), k⟩
        · exact ⟨_, _, 1, 1, Or.inr (Or.inr (Or.inr (Or.inr ⟨zu, k1, zv, k2, rfl, rfl, Or.inr rfl, rfl⟩))), k⟩
      · rintro ⟨aU, aL, bU, bL, h, rfl⟩
        rcases h with ⟨k, _⟩ | ⟨k, _⟩ | ⟨_, _, k, _⟩ | ⟨_, k1, _, k2, ha, rfl, rfl, rfl⟩ | ⟨_, k1, _, k2, rfl, rfl, hb, rfl⟩
        · exact absurd k zu
        · exact absurd k zu
        · exact absurd k zv
        · refine ⟨k1, Or.inl ?_⟩
          rcases ha with rfl | rfl
          · exact Or.inl ⟨k2, List.mem_singleton.2 rfl⟩
          · exact Or.inr ⟨k2, List.mem_singleton.2 rfl⟩
        · refine ⟨k1, Or.inr ?_⟩
          rcases hb with rfl | rfl
          · exact Or.inl ⟨k2, List.mem_singleton.2 rfl⟩
          · exact Or.inr ⟨k2, List.mem_singleton.2 rfl⟩
theorem mCs_ne {d u v w : Nat → Int} (h : de u v d ≠ 0) : mCs d u v w = cite (prtM (de w v d) (de u v d) ∧ prtM (-de u w d) (de u v d)) [(sgA (de w v d) (de u v d), (((de u v d).natAbs : Int), (sgA (de u v w) (de u v d), ((de u v d).natAbs : Int))))] [] := by
  unfold mCs; rw [cite_t h]
/-- a candidate's numbers are good -/
def okc (c : cnd) : Prop := (0 ≤ c.1 ∧ c.1 ≤ c.2.1) ∧ (0 < c.2.1 ∧ nb c.2.1 2400000000) ∧ nb c.2.2.1 48000000000 ∧ (0 < c.2.2.2 ∧ nb c.2.2.2 2400000000)
theorem sgA_prt {a b : Int} (h : prtM a b) : 0 ≤ sgA a b ∧ sgA a b ≤ (b.natAbs : Int) := by unfold prtM at h; unfold sgA; split <;> omega
theorem mP_ok {d u v w : Nat → Int} {aU aL bU bL : Int} (low : de u v d = 0) (h : mP d u v w aU aL bU bL) : prtM aU aL ∧ prtM bU bL ∧ aL ≠ 0 ∧ bL ≠ 0 ∧ ((aL = 1 ∧ (aU = 0 ∨ aU = 1)) ∨ (bL = 1 ∧ (bU = 0 ∨ bU = 1))) := by
  have p01 : ∀ {a b : Int}, (a = 0 ∨ a = 1) → b = 1 → prtM a b := fun {a b} h1 h2 => Or.inl (by omega)
  rcases h with ⟨_, _, zw, ha, e, hb, e2⟩ | ⟨_, zv, k1, k2, ha, e, e1, e2⟩ | ⟨zu, k1, _, k2, e, e1, hb, e2⟩ | ⟨zu, k1, zv, k2, ha, e, e1, e2⟩ | ⟨zu, k1, _, k2, e, e1, hb, e2⟩
  · exact ⟨p01 ha e, p01 hb e2, by omega, by omega, Or.inl ⟨e, ha⟩⟩
  · exact ⟨p01 ha e, k2, by omega, by rw [e2]; exact (ax1_ne zv).1, Or.inl ⟨e, ha⟩⟩
  · exact ⟨k2, p01 hb e2, by rw [e1]; exact (ax1_ne zu).1, by omega, Or.inr ⟨e2, hb⟩⟩
  · exact ⟨p01 ha e, k2, by omega, by rw [e2]; exact par_ne (ax1_ne zu).2 (crcr_z low) (ax1_ne zu).1 zv, Or.inl ⟨e, ha⟩⟩
  · exact ⟨k2, p01 hb e2, by rw [e1]; exact (ax1_ne zu).1, by omega, Or.inr ⟨e2, hb⟩⟩
theorem mP_nb {d u v w : Nat → Int} {aU aL bU bL : Int} (low : de u v d = 0) (bu : bd u 2000) (bv : bd v 2000) (hd : bd d 100) (h : mP d u v w aU aL bU bL) : nb aL 400000 ∧ nb bL 400000 := by
  have bsu : bd (cr u d) 400000 := bd_cr bu hd (by decide)
  have bsv : bd (cr v d) 400000 := bd_cr bv hd (by decide)
  rcases h with ⟨_, _, zw, ha, rfl, hb, rfl⟩ | ⟨_, zv, k1, k2, ha, rfl, e1, rfl⟩ | ⟨zu, k1, _, k2, e, rfl, hb, rfl⟩ | ⟨zu, k1, zv, k2, ha, rfl, e1, rfl⟩ | ⟨zu, k1, _, k2, e, rfl, hb, rfl⟩
  · exact ⟨nb_1, nb_1⟩
  · exact ⟨nb_1, nb_bd bsv (ax1_ne zv).2⟩
  · exact ⟨nb_bd bsu (ax1_ne zu).2, nb_1⟩
  · exact ⟨nb_1, nb_bd bsv (ax1_ne zu).2⟩
  · exact ⟨nb_bd bsu (ax1_ne zu).2, nb_1⟩
theorem mCs_ok {d u v w : Nat → Int} (bu : bd u 2000) (bv : bd v 2000) (bw : bd w 2000) (hd : bd d 100) (hz : ¬ z3 d) : ∀ c ∈ mCs d u v w, okc c := by
  intro c hc9
  by_cases low : de u v d = 0
  · obtain ⟨aU, al, bU, bl, h, rfl⟩ := (mem_mCs low).1 hc9
    obtain ⟨p1, p2, n1, n2, e9⟩ := mP_ok low h
    obtain ⟨b1, b2⟩ := mP_nb low bu bv hd h
    have b3 := prtM_n p1 b1
    have b4 := prtM_n p2 b2
    obtain ⟨ax0, ax3⟩ := ax1_ne hz
    have k1 : ∀ {a : Int}, (a = 0 ∨ a = 1) → nb a 1 := fun {a} h => by unfold nb; omega
    have nLo : nb (mLo d al bl) 2400000000 := by
      unfold mLo
      rcases e9 with ⟨rfl, _⟩ | ⟨rfl, _⟩
      · rw [Int.mul_one]; exact nb_le (nb_mul (nb_bd hd ax3) b2) (by decide)
      · rw [Int.mul_one]; exact nb_le (nb_mul (nb_bd hd ax3) b1) (by decide)
    have nUp : nb (mUp d u v w aU al bU bl) 48000000000 := by
      unfold mUp
      rcases e9 with ⟨rfl, k⟩ | ⟨rfl, k⟩
      · exact nb_le (nb_sub (nb_add (nb_mul (nb_mul (nb_bd bw ax3) (nb_c 1 (A := 1) (by decide))) b2) (nb_mul (nb_mul (nb_bd bv ax3) b4) (nb_c 1 (A := 1) (by decide)))) (nb_mul (nb_mul (nb_bd bu ax3) (k1 k)) b2)) (by decide)
      · exact nb_le (nb_sub (nb_add (nb_mul (nb_mul (nb_bd bw ax3) b1) (nb_c 1 (A := 1) (by decide))) (nb_mul (nb_mul (nb_bd bv ax3) (k1 k)) b1)) (nb_mul (nb_mul (nb_bd bu ax3) b3) (nb_c 1 (A := 1) (by decide)))) (by decide)
    have nz : mLo d al bl ≠ 0 := Int.mul_ne_zero (Int.mul_ne_zero ax0 n1) n2
    refine ⟨sgA_prt p1, ⟨?_, nb_cast (nb_le b1 (by decide))⟩, sgA_n nUp, ?_, nb_cast nLo⟩
    · show (0 : Int) < (al.natAbs : Int); omega
    · show (0 : Int) < ((mLo d al bl).natAbs : Int); omega
  · rw [mCs_ne low, mem_cite, List.mem_singleton] at hc9
    obtain ⟨⟨q1, q2⟩, rfl⟩ := hc9
    have blo : nb (de u v d) 2400000000 := nb_le (bd_de bu bv hd) (by decide)
    have buvw : nb (de u v w) 48000000000 := nb_le (bd_de bu bv bw) (by decide)
    refine ⟨sgA_prt q1, ⟨?_, nb_cast blo⟩, sgA_n buvw, ?_, nb_cast blo⟩
    · show (0 : Int) < ((de u v d).natAbs : Int); omega
    · show (0 : Int) < ((de u v d).natAbs : Int); omega
theorem okV_mkp {s : ofS} {c : cnd} (hs : s.1 = 0 ∨ okV s) (h : okc c) : okV (mkpC s c) := by
  obtain ⟨h1, h2, h3, h4, h5⟩ := h
  have hl : 0 < c.2.2.2.natAbs := by omega
  obtain ⟨g1, g2⟩ := gcd_d (t := c.2.2.1) hl
  have g3 : 0 < c.2.2.2.natAbs / Nat.gcd c.2.2.1.natAbs c.2.2.2.natAbs := Nat.div_pos g2 g1
  unfold mkpC mkp
  refine ⟨?_, ⟨?_, ?_⟩, ?_, ?_, ?_⟩
  · show 0 ≤ (if (s.1 = 0 ∨ c.1 * s.2.2.1 < s.2.1 * c.2.1) then c.1 else s.2.1) ∧ (if (s.1 = 0 ∨ c.1 * s.2.2.1 < s.2.1 * c.2.1) then c.1 else s.2.1) ≤ (if (s.1 = 0 ∨ c.1 * s.2.2.1 < s.2.1 * c.2.1) then c.2.1 else s.2.2.1)
    split
    · exact h1
    · next h => rcases hs with hs | hs; exact absurd (Or.inl hs) h; exact hs.1
  · show (0 : Int) < (if _ then _ else _)
    split
    · exact h2.1
    · next h => rcases hs with hs | hs; exact absurd (Or.inl hs) h; exact hs.2.1.1
  · show nb (if _ then _ else _) _
    split
    · exact h2.2
    · next h => rcases hs with hs | hs; exact absurd (Or.inl hs) h; exact hs.2.1.2
  · show nb (if _ then _ else _) _
    split
    · exact tdiv_n h3
    · next h => rcases hs with hs | hs; exact absurd (Or.inl hs) h; exact hs.2.2.1
  · show (0 : Int) < (if _ then _ else _)
    split
    · exact Int.ofNat_lt.2 g3
    · next h => rcases hs with hs | hs; exact absurd (Or.inl hs) h; exact hs.2.2.2.1
  · show nb (if _ then _ else _) _
    split
    · exact nb_nat (Nat.le_trans (Nat.div_le_self _ _) h5)
    · next h => rcases hs with hs | hs; exact absurd (Or.inl hs) h; exact hs.2.2.2.2
theorem fold_ok {L : List cnd} {s : ofS} (h : ∀ c ∈ L, okc c) (hs : s.1 = 0 ∨ okV s) (hL : L ≠ [] ∨ okV s) : okV (L.foldl mkpC s) := by
  induction L generalizing s with
  | nil => rcases hL with k | k; exact absurd rfl k; exact k
  | cons c L ih =>
    rw [List.foldl_cons]
    have k := okV_mkp hs (h c (List.mem_cons_self ..))
    exact ih (fun c hc9 => h c (List.mem_cons_of_mem _ hc9)) (Or.inr k) (Or.inr k)
theorem mcV_ok {d u v w : Nat → Int} (bu : bd u 2000) (bv : bd v 2000) (bw : bd w 2000) (hd : bd d 100) (hz : ¬ z3 d) (h : mCs d u v w ≠ []) : okV (mcV d u v w) := fold_ok (mCs_ok bu bv bw hd hz) (Or.inl rfl) (Or.inl h)
/-- only three numbers of a vector count -/
theorem ax1_lt (v : Nat → Int) : ax1 v < 3 := by unfold ax1; split; omega; split <;> omega
theorem de_cg {u u1 v v1 w w1 : Nat → Int} (hu : ∀ k, k < 3 → u k = u1 k) (hv : ∀ k, k < 3 → v k = v1 k) (hw : ∀ k, k < 3 → w k = w1 k) : de u v w = de u1 v1 w1 := by
  unfold de
  rw [hu 0 (by omega), hu 1 (by omega), hu 2 (by omega), hv 0 (by omega), hv 1 (by omega), hv 2 (by omega), hw 0 (by omega), hw 1 (by omega), hw 2 (by omega)]
theorem ax1_cg {u u1 : Nat → Int} (hu : ∀ k, k < 3 → u k = u1 k) : ax1 u = ax1 u1 := by unfold ax1; rw [hu 0 (by omega), hu 1 (by omega)]
theorem mC_cg {d d1 u u1 v v1 w w1 : Nat → Int} (hd : ∀ k, k < 3 → d k = d1 k) (hu : ∀ k, k < 3 → u k = u1 k) (hv : ∀ k, k < 3 → v k = v1 k) (hw : ∀ k, k < 3 → w k = w1 k) : mC d u v w = mC d1 u1 v1 w1 := by
  funext a b c e
  unfold mC mUp mLo
  rw [ax1_cg hd, hd _ (ax1_lt d1), hu _ (ax1_lt d1), hv _ (ax1_lt d1), hw _ (ax1_lt d1)]
theorem mCs_cg {d d1 u u1 v v1 w w1 : Nat → Int} (hd : ∀ k, k < 3 → d k = d1 k) (hu : ∀ k, k < 3 → u k = u1 k) (hv : ∀ k, k < 3 → v k = v1 k) (hw : ∀ k, k < 3 → w k = w1 k) : mCs d u v w = mCs d1 u1 v1 w1 := by
  unfold mCs
  rw [de_cg hu hv hd, de_cg hw hv hd, de_cg hu hw hd, de_cg hu hv hw, cr_cg hu hd, cr_cg hv hd, cr_cg hw hd, mC_cg hd hu hv hw]
