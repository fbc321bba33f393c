/-! the model's candidates stand for the same places -/
theorem sgA_sg (a b : Int) : sgA a b = sgn b * a := by unfold sgA sgn; split <;> omega
theorem nat_sg (b : Int) : (b.natAbs : Int) = sgn b * b := (sgn_ab b).symm
theorem rep_mC {d u v w : Nat → Int} {A B L aU aL bU bL : Int} (hc : cand d u v w A B L) (h1 : A * aL = aU * L) (h2 : B * bL = bU * L) : rep d u v w (mC d u v w aU aL bU bL) A B L := by
  unfold mC
  rw [sgA_sg, sgA_sg, nat_sg, nat_sg]
  refine ⟨?_, fun i hi => ?_⟩
  · show sgn aL * aU * L = A * (sgn aL * aL)
    grind
  · have e := hc.2.2.2 (ax1 d) i (ax1_lt d) hi
    show sgn (mLo d aL bL) * mUp d u v w aU aL bU bL * L * d i = sgn (mLo d aL bL) * mLo d aL bL * PR u v w A B L i
    have e2 : mUp d u v w aU aL bU bL * L = aL * bL * PR u v w A B L (ax1 d) := by unfold mUp PR; grind
    have e3 : mLo d aL bL = d (ax1 d) * aL * bL := rfl
    generalize sgn (mLo d aL bL) = sg at *
    rw [e3]
    generalize mUp d u v w aU aL bU bL = U at *
    generalize PR u v w A B L i = Ri at *
    generalize PR u v w A B L (ax1 d) = Rk at *
    grind
theorem mC_pos {d u v w : Nat → Int} {aU aL bU bL : Int} (hz : ¬ z3 d) (ha : aL ≠ 0) (hb : bL ≠ 0) : 0 < (mC d u v w aU aL bU bL).2.1 ∧ 0 < (mC d u v w aU aL bU bL).2.2.2 := by
  have e : mLo d aL bL ≠ 0 := by
    intro z
    rcases Int.mul_eq_zero.1 z with z | z
    · rcases Int.mul_eq_zero.1 z with z | z
      · exact (ax1_ne hz).1 z
      · exact ha z
    · exact hb z
  exact ⟨by show (0 : Int) < (aL.natAbs : Int); omega, by show (0 : Int) < ((mLo d aL bL).natAbs : Int); omega⟩
theorem mkpC_gst {s : ofS} {c : cnd} (hc : 0 < c.2.2.2) : ∃ t m : Int, 0 < m ∧ t * c.2.2.2 = c.2.2.1 * m ∧ mkpC s c = gst c t m s := by
  have hl : ((c.2.2.2.natAbs : Nat) : Int) = c.2.2.2 := by omega
  have l0 : 0 < c.2.2.2.natAbs := by omega
  obtain ⟨l, hle⟩ : ∃ l, l = c.2.2.2.natAbs := ⟨_, rfl⟩
  rw [← hle] at hl l0
  have gp := (gcd_d (t := c.2.2.1) l0).1
  have gl := (gcd_d (t := c.2.2.1) l0).2
  have d1 : Nat.gcd c.2.2.1.natAbs l ∣ c.2.2.1.natAbs := Nat.gcd_dvd_left _ _
  have d2 : Nat.gcd c.2.2.1.natAbs l ∣ l := Nat.gcd_dvd_right _ _
  refine ⟨c.2.2.1.tdiv (Nat.gcd c.2.2.1.natAbs l : Int), ((l / Nat.gcd c.2.2.1.natAbs l : Nat) : Int), ?_, ?_, ?_⟩
  · have := Nat.div_pos gl gp
    omega
  · have e1 : c.2.2.1.tdiv (Nat.gcd c.2.2.1.natAbs l : Int) * (Nat.gcd c.2.2.1.natAbs l : Int) = c.2.2.1 := Int.tdiv_mul_cancel (Int.ofNat_dvd_left.mpr d1)
    have e2 : ((l / Nat.gcd c.2.2.1.natAbs l : Nat) : Int) * (Nat.gcd c.2.2.1.natAbs l : Int) = (l : Int) := by rw [← Int.natCast_mul, Nat.div_mul_cancel d2]
    rw [← hl, ← e2]
    generalize c.2.2.1.tdiv (Nat.gcd c.2.2.1.natAbs l : Int) = T at *
    generalize ((l / Nat.gcd c.2.2.1.natAbs l : Nat) : Int) = M at *
    generalize ((Nat.gcd c.2.2.1.natAbs l : Nat) : Int) = G at *
    rw [← e1]
    grind
  · unfold mkpC mkp gst
    rw [← hle]
    have e : ((c.2.2.1.tdiv (Nat.gcd c.2.2.1.natAbs l : Int)).natAbs : Int) = ((c.2.2.1.natAbs / Nat.gcd c.2.2.1.natAbs l : Nat) : Int) := by rw [Int.natAbs_tdiv]; rfl
    rw [e]
theorem fold_gIv : ∀ (L : List cnd) (C : cnd → Prop) (s : ofS), gIv C s → (∀ c, C c → 0 < c.2.1 ∧ 0 < c.2.2.2) → (∀ c ∈ L, 0 < c.2.1 ∧ 0 < c.2.2.2) → gIv (fun c => C c ∨ c ∈ L) (L.foldl mkpC s) := by
  intro L
  induction L with
  | nil => intro C s h _ _; exact gIv_cg h (fun c => ⟨Or.inl, fun k => by rcases k with k | k; exact k; cases k⟩)
  | cons x L ih =>
    intro C s h hC hL
    have hx := hL x List.mem_cons_self
    obtain ⟨t, m, hm, ht, e⟩ := mkpC_gst (s := s) hx.2
    have st := gIv_step h hC hx hm ht
    rw [← e] at st
    have r := ih (fun c => C c ∨ c = x) (mkpC s x) st (fun c k => by rcases k with k | rfl; exact hC c k; exact hx) (fun c k => hL c (List.mem_cons_of_mem _ k))
    refine gIv_cg r (fun c => ⟨?_, ?_⟩)
    · rintro ((k | rfl) | k)
      · exact Or.inl k
      · exact Or.inr List.mem_cons_self
      · exact Or.inr (List.mem_cons_of_mem _ k)
    · rintro (k | k)
      · exact Or.inl (Or.inl k)
      · rcases List.mem_cons.mp k with rfl | k
        · exact Or.inl (Or.inr rfl)
        · exact Or.inr k
theorem prt_sg {a b : Int} (hb : b ≠ 0) : prt (sgn b * a) (sgn b * b) ↔ prtM a b := prt_iff (sg_pos hb) hb (by grind)
theorem sem_mk {x y z e : Int} (he : e = 0 ∨ e = 1) (hy : y ≠ 0) (hp : prtM (e * x - z) y) : sem1 x y z (e * (sgn y * y)) (sgn y * (e * x - z)) (sgn y * y) :=
  ⟨sg_pos hy, (prt_sg hy).2 hp, ⟨e, he, rfl, by grind⟩, fun k => absurd k hy⟩
theorem Sx_P {d u v w : Nat → Int} {j : Nat} {e bU : Int} (hde : de u v d = 0) (hM : SymM d u v w) (hj : j < 3) (hy : cr v d j ≠ 0) (he : e = 0 ∨ e = 1) (hb : bU = e * cr u d j - cr w d j) (hp : prtM bU (cr v d j)) : ∃ A B L, Sx d u v w A B L ∧ A * 1 = e * L ∧ B * cr v d j = bU * L := by
  rw [hb] at hp
  refine ⟨_, _, _, Or.inr ⟨hde, hM, j, ⟨hj, Or.inr (Or.inr hy)⟩, Or.inl (sem_mk he hy hp)⟩, by omega, by rw [hb]; grind⟩
theorem Sx_Q {d u v w : Nat → Int} {j : Nat} {e aU : Int} (hde : de u v d = 0) (hM : SymM d u v w) (hj : j < 3) (hx : cr u d j ≠ 0) (he : e = 0 ∨ e = 1) (ha : aU = cr w d j + e * cr v d j) (hp : prtM aU (cr u d j)) : ∃ A B L, Sx d u v w A B L ∧ A * cr u d j = aU * L ∧ B * 1 = e * L := by
  have e1 : aU = e * cr v d j - -cr w d j := by omega
  rw [e1] at hp
  refine ⟨_, _, _, Or.inr ⟨hde, hM, j, ⟨hj, Or.inr (Or.inl hx)⟩, Or.inr (sem_mk he hx hp)⟩, by rw [e1]; grind, by omega⟩
theorem mP_Sx {d u v w : Nat → Int} {aU aL bU bL : Int} (hde : de u v d = 0) (h : mP d u v w aU aL bU bL) : ∃ A B L, Sx d u v w A B L ∧ A * aL = aU * L ∧ B * bL = bU * L := by
  have c := crcr_z hde
  rcases h with ⟨zu, zv, zw, ha, rfl, hb, rfl⟩ | ⟨zu, zv, hw, hp, ha, rfl, hb, rfl⟩ | ⟨zu, hw, zv, hp, ha, rfl, hb, rfl⟩ | ⟨zu, hw, zv, hp, ha, rfl, hb, rfl⟩ | ⟨zu, hw, zv, hp, ha, rfl, hb, rfl⟩
  · refine ⟨aU, bU, 1, Or.inr ⟨hde, ⟨par_z zu, par_z zv, fun _ _ => zw⟩, 0, ⟨by decide, Or.inl ⟨zu, zv⟩⟩, Or.inl ?_⟩, by omega, by omega⟩
    rw [zu.1, zv.1, zw.1]
    exact ⟨by decide, by rcases hb with rfl | rfl <;> exact ⟨by decide, by decide⟩, ⟨aU, ha, by omega, by omega⟩, fun _ => hb⟩
  · exact Sx_P hde ⟨par_z zu, hw, fun _ b => absurd b zv⟩ (ax1_lt _) (ax1_ne zv).1 ha (by rw [z3_at zu (ax1_lt _), Int.mul_zero, hb]; omega) hp
  · exact Sx_Q hde ⟨hw, par_z zv, fun a _ => absurd a zu⟩ (ax1_lt _) (ax1_ne zu).1 hb (by rw [z3_at zv (ax1_lt _), Int.mul_zero, ha]; omega) hp
  · have y0 := par_ne (ax1_lt _) c (ax1_ne zu).1 zv
    exact Sx_P hde ⟨hw, par_tr zu hw (z3_sw.1 c), fun a _ => absurd a zu⟩ (ax1_lt _) y0 ha hb hp
  · exact Sx_Q hde ⟨hw, par_tr zu hw (z3_sw.1 c), fun a _ => absurd a zu⟩ (ax1_lt _) (ax1_ne zu).1 hb ha hp
theorem Sx_mP {d u v w : Nat → Int} {A B L : Int} (hde : de u v d = 0) (h : Sx d u v w A B L) : ∃ aU aL bU bL, mP d u v w aU aL bU bL ∧ A * aL = aU * L ∧ B * bL = bU * L := by
  have c := crcr_z hde
  rcases h with ⟨h0, _⟩ | ⟨_, hM, j0, hj0, hs⟩
  · exact absurd hde h0
  by_cases zu : z3 (cr u d)
  · by_cases zv : z3 (cr v d)
    · have zw := hM.2.2 zu zv
      rcases hs with ⟨hL, hB, ⟨e, he, hA, hq⟩, hy⟩ | ⟨hL, hA, ⟨e, he, hB, hq⟩, hy⟩
      · rcases hy (z3_at zv hj0.1) with k | k
        · exact ⟨e, 1, 0, 1, Or.inl ⟨zu, zv, zw, he, rfl, Or.inl rfl, rfl⟩, by omega, by omega⟩
        · exact ⟨e, 1, 1, 1, Or.inl ⟨zu, zv, zw, he, rfl, Or.inr rfl, rfl⟩, by omega, by omega⟩
      · rcases hy (z3_at zu hj0.1) with k | k
        · exact ⟨0, 1, e, 1, Or.inl ⟨zu, zv, zw, Or.inl rfl, rfl, he, rfl⟩, by omega, by omega⟩
        · exact ⟨1, 1, e, 1, Or.inl ⟨zu, zv, zw, Or.inr rfl, rfl, he, rfl⟩, by omega, by omega⟩
    · have y0 := (ax1_ne zv).1
      have hs' := Sm_ax (i := ax1 (cr v d)) hde hM ⟨ax1_lt _, Or.inr (Or.inr y0)⟩ hj0 hs
      have x0 := z3_at zu (ax1_lt (cr v d))
      rw [x0] at hs'
      have fin : ∀ e : Int, (e = 0 ∨ e = 1) → 0 < L → prt B L → B * cr v d (ax1 (cr v d)) = -cr w d (ax1 (cr v d)) * L → A = e * L → ∃ aU aL bU bL, mP d u v w aU aL bU bL ∧ A * aL = aU * L ∧ B * bL = bU * L := fun e he hL hB hq hA =>
        ⟨e, 1, _, _, Or.inr (Or.inl ⟨zu, zv, hM.2.1, (prt_iff hL y0 hq).1 hB, he, rfl, rfl, rfl⟩), by omega, hq⟩
      rcases hs' with ⟨hL, hB, ⟨e, he, hA, hq⟩, hy⟩ | ⟨hL, hA, ⟨e, he, hB, hq⟩, hy⟩
      · exact fin e he hL hB (by grind) hA
      · have hB' : prt B L := by rw [hB]; rcases he with rfl | rfl; exact ⟨by omega, by omega⟩; exact ⟨by omega, by omega⟩
        have hq' : B * cr v d (ax1 (cr v d)) = -cr w d (ax1 (cr v d)) * L := by rw [hB]; grind
        rcases hy rfl with k | k
        · exact fin 0 (Or.inl rfl) hL hB' hq' (by omega)
        · exact fin 1 (Or.inr rfl) hL hB' hq' (by omega)
  · have x0 := (ax1_ne zu).1
    have hs' := Sm_ax (i := ax1 (cr u d)) hde hM ⟨ax1_lt _, Or.inr (Or.inl x0)⟩ hj0 hs
    by_cases zv : z3 (cr v d)
    · have y0 := z3_at zv (ax1_lt (cr u d))
      rw [y0] at hs'
      have fin : ∀ e : Int, (e = 0 ∨ e = 1) → 0 < L → prt A L → A * cr u d (ax1 (cr u d)) = cr w d (ax1 (cr u d)) * L → B = e * L → ∃ aU aL bU bL, mP d u v w aU aL bU bL ∧ A * aL = aU * L ∧ B * bL = bU * L := fun e he hL hA hq hB =>
        ⟨_, _, e, 1, Or.inr (Or.inr (Or.inl ⟨zu, hM.1, zv, (prt_iff hL x0 hq).1 hA, rfl, rfl, he, rfl⟩)), hq, by omega⟩
      rcases hs' with ⟨hL, hB, ⟨e, he, hA, hq⟩, hy⟩ | ⟨hL, hA, ⟨e, he, hB, hq⟩, hy⟩
      · have hA' : prt A L := by rw [hA]; rcases he with rfl | rfl; exact ⟨by omega, by omega⟩; exact ⟨by omega, by omega⟩
        have hq' : A * cr u d (ax1 (cr u d)) = cr w d (ax1 (cr u d)) * L := by rw [hA]; grind
        rcases hy rfl with k | k
        · exact fin 0 (Or.inl rfl) hL hA' hq' (by omega)
        · exact fin 1 (Or.inr rfl) hL hA' hq' (by omega)
      · exact fin e he hL hA (by grind) hB
    · have y0 := par_ne (ax1_lt _) c x0 zv
      rcases hs' with ⟨hL, hB, ⟨e, he, hA, hq⟩, hy⟩ | ⟨hL, hA, ⟨e, he, hB, hq⟩, hy⟩
      · have hq' : B * cr v d (ax1 (cr u d)) = (e * cr u d (ax1 (cr u d)) - cr w d (ax1 (cr u d))) * L := by grind
        exact ⟨e, 1, _, _, Or.inr (Or.inr (Or.inr (Or.inl ⟨zu, hM.1, zv, (prt_iff hL y0 hq').1 hB, he, rfl, rfl, rfl⟩))), by omega, hq'⟩
      · have hq' : A * cr u d (ax1 (cr u d)) = (cr w d (ax1 (cr u d)) + e * cr v d (ax1 (cr u d))) * L := by grind
        exact ⟨_, _, e, 1, Or.inr (Or.inr (Or.inr (Or.inr ⟨zu, hM.1, zv, (prt_iff hL x0 hq').1 hA, rfl, rfl, he, rfl⟩))), hq', by omega⟩
theorem mod_x {d u v w : Nat → Int} (hz : ¬ z3 d) : (mCs d u v w ≠ [] ↔ ∃ A B L, Sx d u v w A B L) ∧ (mCs d u v w ≠ [] → spec d u v w (Sx d u v w) (mcV d u v w)) := by
  have key : (∀ c ∈ mCs d u v w, (0 < c.2.1 ∧ 0 < c.2.2.2) ∧ ∃ A B L, Sx d u v w A B L ∧ rep d u v w c A B L) ∧ ∀ A B L, Sx d u v w A B L → ∃ c, c ∈ mCs d u v w ∧ rep d u v w c A B L := by
    by_cases hde : de u v d = 0
    · refine ⟨fun c hc => ?_, fun A B L h => ?_⟩
      · obtain ⟨aU, aL, bU, bL, h, rfl⟩ := (mem_mCs hde).1 hc
        have ok := mP_ok hde h
        obtain ⟨A, B, L, hx, e1, e2⟩ := mP_Sx hde h
        exact ⟨mC_pos hz ok.2.2.1 ok.2.2.2.1, A, B, L, hx, rep_mC (Sx_cand hx) e1 e2⟩
      · obtain ⟨aU, aL, bU, bL, hp, e1, e2⟩ := Sx_mP hde h
        exact ⟨_, (mem_mCs hde).2 ⟨aU, aL, bU, bL, hp, rfl⟩, rep_mC (Sx_cand h) e1 e2⟩
    · rw [mCs_ne hde]
      have e0 : -de u w d = de w u d := by unfold de; grind
      have RP : ∀ A B L, Sx d u v w A B L → rep d u v w ((sgA (de w v d) (de u v d), (((de u v d).natAbs : Int), (sgA (de u v w) (de u v d), ((de u v d).natAbs : Int)))) : cnd) A B L := by
        intro A B L hx
        rw [sgA_sg, sgA_sg, nat_sg]
        rcases hx with ⟨_, hL, hA, hB, e1, e2⟩ | ⟨h0, _⟩
        · refine ⟨?_, fun i hi => ?_⟩
          · show sgn (de u v d) * de w v d * L = A * (sgn (de u v d) * de u v d)
            grind
          · have e := Sx_D e1 e2 hi
            show sgn (de u v d) * de u v w * L * d i = sgn (de u v d) * de u v d * PR u v w A B L i
            generalize PR u v w A B L i = R at *
            generalize de u v w = T at *
            grind
        · exact absurd h0 hde
      refine ⟨fun c hc => ?_, fun A B L h => ?_⟩
      · obtain ⟨hp, hc⟩ := mem_cite.1 hc
        rw [List.mem_singleton] at hc
        subst hc
        have sx : Sx d u v w (sgn (de u v d) * de w v d) (sgn (de u v d) * de w u d) (sgn (de u v d) * de u v d) := Or.inl ⟨hde, sg_pos hde, (prt_sg hde).2 hp.1, by rw [← e0]; exact (prt_sg hde).2 hp.2, by grind, by grind⟩
        exact ⟨⟨by show (0 : Int) < ((de u v d).natAbs : Int); omega, by show (0 : Int) < ((de u v d).natAbs : Int); omega⟩, _, _, _, sx, RP _ _ _ sx⟩
      · rcases id h with ⟨_, hL, hA, hB, e1, e2⟩ | ⟨h0, _⟩
        · refine ⟨_, mem_cite.2 ⟨⟨(prt_iff hL hde (by rw [e1, Int.mul_comm])).1 hA, ?_⟩, List.mem_singleton.2 rfl⟩, RP A B L h⟩
          rw [e0]
          exact (prt_iff hL hde (by rw [e2, Int.mul_comm])).1 hB
        · exact absurd h0 hde
  have G := fold_gIv (mCs d u v w) (fun _ => False) s00 (Or.inl ⟨rfl, fun _ h => h⟩) (fun _ h => h.elim) (fun c hc => (key.1 c hc).1)
  have G' := gIv_cg (C' := fun c => c ∈ mCs d u v w) G (fun c => ⟨fun k => by rcases k with k | k; exact k.elim; exact k, Or.inr⟩)
  have ne : mCs d u v w ≠ [] ↔ ∃ c, c ∈ mCs d u v w := ⟨fun h => List.exists_mem_of_ne_nil _ h, fun ⟨c, hc⟩ e => by rw [e] at hc; cases hc⟩
  refine ⟨ne.trans ⟨fun ⟨c, hc⟩ => ?_, fun ⟨A, B, L, h⟩ => ?_⟩, fun h => ?_⟩
  · obtain ⟨_, A, B, L, hx, _⟩ := key.1 c hc
    exact ⟨A, B, L, hx⟩
  · obtain ⟨c, hc, _⟩ := key.2 A B L h
    exact ⟨c, hc⟩
  · exact gIv_spec G' ((gIv_one G').2 (ne.1 h)) (fun c hc => (key.1 c hc).1) (fun A B L hx => (Sx_cand hx).1) (fun c hc => (key.1 c hc).2) key.2
