/-! the model: the best sets -/
theorem cnt_mono {x a b : Nat} (h : a ≤ b) : cnt x a ≤ cnt x b := by
  obtain ⟨d, rfl⟩ : ∃ d, b = a + d := ⟨b - a, by omega⟩
  rw [cnt_add]; omega
theorem cnt_ex {x : Nat} : ∀ k j, j < cnt x k → ∃ p, p < k ∧ x.testBit p = true ∧ cnt x p = j := by
  intro k
  induction k with
  | zero => intro j h; exact absurd h (Nat.not_lt_zero _)
  | succ k ih =>
    intro j h
    have h' : j < cnt x k + (if x.testBit k = true then 1 else 0) := h
    by_cases e : j < cnt x k
    · obtain ⟨p, a, b⟩ := ih j e; exact ⟨p, by omega, b⟩
    · by_cases e2 : x.testBit k = true
      · rw [if_pos e2] at h'; exact ⟨k, by omega, e2, by omega⟩
      · rw [if_neg e2] at h'; omega
theorem cnt_top {x sz : Nat} (h : ∀ p, x.testBit p = true → p < sz) : ∀ d, cnt x (sz + d) = cnt x sz := by
  intro d
  induction d with
  | zero => rfl
  | succ d ih =>
    show cnt x (sz + d) + (if x.testBit (sz + d) = true then 1 else 0) = _
    rw [ih, if_neg (fun k => by have := h _ k; omega)]; rfl
theorem hpc_in {set sz j : Nat} (h : j < cnt set sz) : hpc set sz j < sz ∧ set.testBit (hpc set sz j) = true ∧ cnt set (hpc set sz j) = j := by
  obtain ⟨p, a, b, c⟩ := cnt_ex sz j h
  rw [← c, hpc_at b a]
  exact ⟨a, b, rfl⟩
theorem hab_bit (av hp : Nat → Nat) (i j : Nat) : ∀ k, (hab av hp i k).testBit j = true ↔ (j < k ∧ (av (hp i)).testBit (hp j) = true) := by
  intro k
  induction k with
  | zero => unfold hab; rw [Nat.zero_testBit]; exact ⟨fun h => (by cases h), fun h => absurd h.1 (Nat.not_lt_zero _)⟩
  | succ k ih =>
    unfold hab
    by_cases e : (av (hp i)).testBit (hp k) = true
    · rw [if_pos e, Nat.testBit_or, Nat.testBit_two_pow, Bool.or_eq_true, ih, decide_eq_true_eq]
      constructor
      · rintro (h | h)
        · exact ⟨by omega, h.2⟩
        · subst h; exact ⟨by omega, e⟩
      · intro h
        by_cases e2 : k = j
        · exact Or.inr e2
        · exact Or.inl ⟨by omega, h.2⟩
    · rw [if_neg e, ih]
      constructor
      · intro h; exact ⟨by omega, h.2⟩
      · intro h
        refine ⟨Nat.lt_of_not_le (fun z => ?_), h.2⟩
        have : j = k := by omega
        subst this; exact e h.2
theorem plc_bit {hp : Nat → Nat} {best P q : Nat} : ∀ k, (plc hp best P k).testBit q = true ↔ (P.testBit q = true ∨ ∃ j, j < k ∧ best.testBit j = true ∧ hp j = q) := by
  intro k
  induction k with
  | zero => exact ⟨fun h => Or.inl h, fun h => by rcases h with h | ⟨j, h, _⟩; exact h; omega⟩
  | succ k ih =>
    unfold plc
    by_cases e : best.testBit k = true
    · rw [if_pos e, Nat.testBit_or, Nat.testBit_two_pow, Bool.or_eq_true, ih, decide_eq_true_eq]
      constructor
      · rintro ((h | ⟨j, h1, h2⟩) | h)
        · exact Or.inl h
        · exact Or.inr ⟨j, by omega, h2⟩
        · exact Or.inr ⟨k, by omega, e, h⟩
      · rintro (h | ⟨j, h1, h2, h3⟩)
        · exact Or.inl (Or.inl h)
        · by_cases e2 : j = k
          · subst e2; exact Or.inr h3
          · exact Or.inl (Or.inr ⟨j, by omega, h2, h3⟩)
    · rw [if_neg e, ih]
      constructor
      · rintro (h | ⟨j, h1, h2⟩)
        · exact Or.inl h
        · exact Or.inr ⟨j, by omega, h2⟩
      · rintro (h | ⟨j, h1, h2, h3⟩)
        · exact Or.inl h
        · by_cases e2 : j = k
          · subst e2; exact absurd h2 e
          · exact Or.inr ⟨j, by omega, h2, h3⟩
theorem wsm_ll {hw : Nat → Int} {s all : Nat} : ∀ k, (∀ j, j < k → 1 ≤ hw j) → (∀ j, j < k → all.testBit j = true) → wsm hw s k ≤ wsm hw all k ∧ ((∃ j, j < k ∧ s.testBit j = false) → wsm hw s k < wsm hw all k) := by
  intro k
  induction k with
  | zero => intro _ _; exact ⟨Int.le_refl _, fun h => by obtain ⟨j, h, _⟩ := h; omega⟩
  | succ k ih =>
    intro h1 h2
    have a := ih (fun j hj => h1 j (by omega)) (fun j hj => h2 j (by omega))
    have b := h1 k (by omega)
    unfold wsm
    rw [if_pos (h2 k (by omega))]
    refine ⟨by split <;> omega, fun ⟨j, hj, hb⟩ => ?_⟩
    by_cases e : j = k
    · subst e; rw [hb, if_neg (by decide)]; omega
    · have := a.2 ⟨j, by omega, hb⟩
      split <;> omega
theorem bet_all {hw : Nat → Int} {h b : Nat} (hb : b ≤ 2 ^ h - 1) (hw1 : ∀ j, j < h → 1 ≤ hw j) : betb (fun s => wsm hw s h) (2 ^ h - 1) b = false := by
  have pp := Nat.two_pow_pos h
  have hal : ∀ j, j < h → (2 ^ h - 1).testBit j = true := fun j hj => by rw [Nat.testBit_two_pow_sub_one]; exact decide_eq_true hj
  by_cases e : b = 2 ^ h - 1
  · subst e
    unfold betb
    rw [if_pos rfl, if_pos rfl]
    apply decide_eq_false
    unfold ahn
    rw [Nat.xor_self, if_pos rfl]
    exact fun k => k rfl
  · have ex : ∃ j, j < h ∧ b.testBit j = false := by
      refine Classical.byContradiction (fun k => e ?_)
      apply Nat.eq_of_testBit_eq
      intro i
      rw [Nat.testBit_two_pow_sub_one]
      by_cases hi : i < h
      · rw [decide_eq_true hi]
        cases e2 : b.testBit i
        · exact absurd ⟨i, hi, e2⟩ k
        · rfl
      · rw [decide_eq_false hi]
        exact Nat.testBit_lt_two_pow (Nat.lt_of_lt_of_le (show b < 2 ^ h by omega) (Nat.pow_le_pow_right (by decide) (by omega)))
    have a := (wsm_ll (s := b) h hw1 hal).2 ex
    unfold betb
    show (if wsm hw (2 ^ h - 1) h = wsm hw b h then _ else _) = false
    rw [if_neg (by omega)]
    exact decide_eq_false (by show ¬ wsm hw (2 ^ h - 1) h < wsm hw b h; omega)
theorem lps_all {ha : Nat → Nat} {all : Nat} : ∀ k i, (∀ j, i ≤ j → j < i + k → ha j &&& all ≠ 0) → lps ha k i all = all := by
  intro k
  induction k with
  | zero => intro i _; rfl
  | succ k ih =>
    intro i h
    rw [lps, if_neg (h i (by omega) (by omega))]
    exact ih (i + 1) (fun j h1 h2 => h j (by omega) (by omega))
theorem lse_all {ha : Nat → Nat} {h all : Nat} (ha0 : all ≠ 0) (hh : ∀ j, j < h → ha j &&& all ≠ 0) : ∀ m, lse ha h m all = false := by
  intro m
  cases m with
  | zero => exact decide_eq_false ha0
  | succ m => rw [lse, if_neg ha0, if_pos (lps_all h 0 (fun j _ h2 => hh j (by omega)))]
section C9i
variable {g : xG} {y : xM} {Q : xP} {n : Nat} {f : xH} {gn : Nat} {σ : Nat → xSt} {d m : Nat → Int} {sz : Nat} {N : Nat → Nat} {av : Nat → Nat} {kn : Nat → Int} {kc : Nat} {ks : Nat → Nat} {wo : Nat → Int}
set_option maxHeartbeats 32000000 in
theorem ct_findFew (h : mE m f gn σ d) (hsh : msh f) (hN : onO gn σ sz N) (h40 : sz ≤ 40) (hav : avR sz av (fun i j => mBar d σ (N i) (N j))) (ekn : kn = (mkA (fun i j => WP av sz i j) sz).1) (ekc : kc = (mkA (fun i j => WP av sz i j) sz).2) (hok : knOK sz (fun i j => mBar d σ (N i) (N j)) kn kc) (hks : ∀ k, k < kc → ∀ p, (ks k).testBit p = true ↔ (p < sz ∧ kn p = (k : Int))) (hwo : ∀ p, p < sz → wo p = woS (σ (N p)))
    (h1 : ∀ F m1 (w : Int) (P : Nat) (L : Nat → Nat) (c0 : Nat), gR f F m m1 → rmd av wo sz ks kc 0 0 0 = (w, P) → 0 ≤ w → m1 58 = w → m1 57 = (c0 : Int) → incL L c0 sz → fwF F c0 N L → (∀ q, P.testBit q = true ↔ ∃ c, c < c0 ∧ L c = q) → Q (.inl (some (vI 1))) n F) (h0 : ∀ F m1, gR f F m m1 → rmd av wo sz ks kc 0 0 0 = (-1, 0) → Q (.inl (some (vI 0))) n F) : xct g M_X10_findFew 0 0 [vR 38] n f Q := by
  refine xct_of rfl rfl (Nat.le_of_ble_eq_true rfl) ?_
  have hgn : gn ≤ 100 := h.2.2.2.1.choose_spec.choose_spec.choose_spec.choose_spec.choose_spec.2.2.2.2.2.1
  obtain ⟨B, hB⟩ : ∃ B : Nat → Nat → Prop, B = (fun i j => mBar d σ (N i) (N j)) := ⟨_, rfl⟩
  obtain ⟨RM, hRM⟩ : ∃ RM, RM = rmd av wo sz ks kc 0 0 0 := ⟨_, rfl⟩
  rw [← hB] at hok
  rw [← hRM] at h1 h0
  obtain ⟨k1, k2, k3, k4⟩ := id hok
  have wo1 : ∀ p, p < sz → 1 ≤ wo p ∧ wo p ≤ 100 := fun p hp => by
    obtain ⟨K9, M, W, P, Z, s43, s44, s45, s46, s47, hgn9, hall, hz9⟩ := h.2.2.2.1
    rw [hwo p hp]; exact (hall _ (hN.2 p hp).1).1.2.2.1
  have hW : ∀ F m1, gR f F m m1 → ∃ W, F 45 = some (aI 101 W) ∧ ∀ p, p < sz → W (N p) = wo p ∧ N p < 100 ∧ 0 ≤ wo p ∧ wo p ≤ 100 := by
    intro F m1 hG
    obtain ⟨_, _, _, ⟨K9, M, W, P, Z, s43, s44, s45, s46, s47, hgn9, hall, hz9⟩, _⟩ := mE_gr h hG
    refine ⟨W, s45, fun p hp => ?_⟩
    have np := hN.2 p hp
    have := wo1 p hp
    exact ⟨by rw [(hall _ np.1).2.2.2.1, hwo p hp], by omega, by omega, by omega⟩
  -- one knot
  have KN : ∀ (k : Nat), k < kc → ∀ (w : Int) (P : Nat) (L : Nat → Nat) (c0 : Nat) (F : xH) (m1 : Nat → Int) (hp : Nat → Nat) (H : Nat), hp = hpc (ks k) sz → H = cnt (ks k) sz → H ≤ 12 → gR f F m m1 → kS F m1 sz N B kn kc → m1 57 = (c0 : Int) → m1 58 = w → incL L c0 sz → fwF F c0 N L → (∀ q, P.testBit q = true ↔ ∃ c, c < c0 ∧ L c = q) → (∀ q, P.testBit q = true → 0 ≤ kn q ∧ kn q < (k : Int)) → 0 ≤ w → w ≤ 1200 * (k : Int) → m1 56 = (H : Int) → inF F H N hp →
      (∀ (P2 : Nat) (L2 : Nat → Nat) (c2 : Nat) (F2 : xH) (m2 : Nat → Int), gR f F2 m m2 → kS F2 m2 sz N B kn kc → m2 57 = (c2 : Int) → m2 58 = w + kwo av wo sz (ks k) → incL L2 c2 sz → fwF F2 c2 N L2 → (∀ q, P2.testBit q = true ↔ ∃ c, c < c2 ∧ L2 c = q) → (∀ q, P2.testBit q = true → 0 ≤ kn q ∧ kn q < ((k + 1 : Nat) : Int)) → P2 = plc (hpc (ks k) sz) (kbs av wo sz (ks k)) P (cnt (ks k) sz) → 0 ≤ w + kwo av wo sz (ks k) → w + kwo av wo sz (ks k) ≤ 1200 * ((k + 1 : Nat) : Int) → xw g M_X10_findFew Q 0 0 16 [(0, vR 38), (1, vI ((k + 1 : Nat) : Int))] [] n F2) →
      xw g M_X10_findFew Q 0 0 99 [(0, vR 38), (1, vI (k : Int))] [] n F := by
    intro k hk w P L c0 F m1 hp H hhp hH hH12 hG hK m57 m58 hL hfw hP hPk hw0 hwk m56 hin K
    have h38 := hG.2.1
    obtain ⟨W, h45, hW9⟩ := hW F m1 hG
    have hps : ∀ j, j < H → hp j < sz ∧ (ks k).testBit (hp j) = true ∧ cnt (ks k) (hp j) = j := fun j hj => by rw [hhp]; exact hpc_in (by rw [← hH]; exact hj)
    have hpW : ∀ j, j < H → W (N (hp j)) = wo (hp j) ∧ N (hp j) < 100 ∧ 0 ≤ wo (hp j) ∧ wo (hp j) ≤ 100 := fun j hj => hW9 _ (hps j hj).1
    have p12 : (2 : Nat) ^ H ≤ 2 ^ 12 := Nat.pow_le_pow_right (by decide) hH12
    have e12 : (2 : Nat) ^ 12 = 4096 := by decide
    have pp := Nat.two_pow_pos H
    obtain ⟨ha, hha⟩ : ∃ ha : Nat → Nat, ha = (fun i => hab av hp i H) := ⟨_, rfl⟩
    obtain ⟨sw, hsw⟩ : ∃ sw : Nat → Int, sw = (fun s => wsm (fun j => wo (hp j)) s H) := ⟨_, rfl⟩
    have hhab : ∀ i, i < H → ∀ j, (ha i).testBit j = true ↔ (j < H ∧ B (hp j) (hp i)) := by
      intro i hi j
      rw [hha]
      show (hab av hp i H).testBit j = true ↔ _
      rw [hab_bit, hav _ _ (hps i hi).1, hB]
      exact ⟨fun x => ⟨x.1, x.2.2⟩, fun x => ⟨x.1, (hps j x.1).1, x.2⟩⟩
    have hbs : kbs av wo sz (ks k) = bst sw ha H (2 ^ H - 1) (2 ^ H - 1) 0 (2 ^ H - 1) := by rw [hsw, hha, hhp, hH]; rfl
    have hkw : kwo av wo sz (ks k) = sw (kbs av wo sz (ks k)) := by rw [hsw, hhp, hH]; rfl
    have swb : ∀ s, 0 ≤ sw s ∧ sw s ≤ 1200 := by
      intro s
      rw [hsw]
      have := wsm_b (hw := fun j => wo (hp j)) (s := s) H (fun j hj => ⟨(hpW j hj).2.2.1, (hpW j hj).2.2.2⟩)
      show 0 ≤ wsm (fun j => wo (hp j)) s H ∧ wsm (fun j => wo (hp j)) s H ≤ 1200
      omega
    -- the best is put down
    have C : ∀ (best : Nat), best = kbs av wo sz (ks k) → best < 4096 → ∀ (t i : Nat) (L2 : Nat → Nat) (c2 : Nat) (F2 : xH) (m2 : Nat → Int), i + t = H → gR f F2 m m2 → kS F2 m2 sz N B kn kc → m2 57 = (c2 : Int) → m2 58 = w + kwo av wo sz (ks k) → m2 56 = (H : Int) → inF F2 H N hp → incL L2 c2 sz → fwF F2 c2 N L2 → (∀ q, (plc hp best P i).testBit q = true ↔ ∃ c, c < c2 ∧ L2 c = q) → xw g M_X10_findFew Q 0 0 227 [(0, vR 38), (1, vI (k : Int)), (2, vI (best : Int)), (3, vI (i : Int))] [] n F2 := by
      intro best hbest hb4 t
      induction t with
      | zero =>
        intro i L2 c2 F2 m2 hi hG2 hK2 n57 n58 n56 hin2 hL2 hfw2 hP2
        have hsb := swb (kbs av wo sz (ks k))
        rw [← hkw] at hsb
        obtain rfl : i = H := by omega
        refine xw_iload_n dX10_findFew_227 rfl ?_
        refine xw_aload_n dX10_findFew_228 rfl ?_
        refine xw_getfield dX10_findFew_229 fl_X10_313 hG2.2.1 rfl ?_
        refine xw_topi (i : Int) n56 ?_
        refine xw_icmpge (tgt := 260) dX10_findFew_232 (by decide) (by first | assumption | (unfold inI; omega) | (unfold inI at *; omega)) (by first | assumption | (unfold inI; omega) | (unfold inI at *; omega)) (fun c_232 => ?_) (fun c_232 => ?_)
        · skip
          refine xw_iinc dX10_findFew_260 rfl (by decide) ?_
          refine xw_goto (tgt := 16) dX10_findFew_263 (by decide) ?_
          exact xw_ls [(0, vR 38), (1, vI ((k + 1 : Nat) : Int))] ⟨rfl, rfl, trivial⟩ (K (plc hp best P i) L2 c2 F2 m2 hG2 hK2 n57 n58 hL2 hfw2 hP2 (fun q hq9 => by
            rcases (plc_bit i).1 hq9 with x | ⟨j, x1, x2, x3⟩
            · have := hPk q x; omega
            · have := ((hks k hk _).1 (hps j x1).2.1).2
              rw [x3] at this
              omega) (by rw [hhp, hbest, hH]) (by omega) (by omega))
        · skip
          exfalso; omega
      | succ t ih =>
        intro i L2 c2 F2 m2 hi hG2 hK2 n57 n58 n56 hin2 hL2 hfw2 hP2
        obtain ⟨ik, h75, hik⟩ := id hin2
        have hd : best / 2 ^ i ≤ best := Nat.div_le_self _ _
        have ni := hN.2 _ (hps i (by omega)).1
        have nx : ∀ (L3 : Nat → Nat) (c3 : Nat) (F3 : xH) (m3 : Nat → Int), gR f F3 m m3 → kS F3 m3 sz N B kn kc → m3 57 = (c3 : Int) → m3 58 = w + kwo av wo sz (ks k) → m3 56 = (H : Int) → inF F3 H N hp → incL L3 c3 sz → fwF F3 c3 N L3 → (∀ q, (plc hp best P (i + 1)).testBit q = true ↔ ∃ c, c < c3 ∧ L3 c = q) → xw g M_X10_findFew Q 0 0 254 [(0, vR 38), (1, vI (k : Int)), (2, vI (best : Int)), (3, vI (i : Int))] [] n F3 := by
          intro L3 c3 F3 m3 a1 a2 a3 a4 a5 a6 a7 a8 a9
          refine xw_iinc dX10_findFew_254 rfl (by decide) ?_
          refine xw_goto (tgt := 227) dX10_findFew_257 (by decide) ?_
          exact xw_ls [(0, vR 38), (1, vI (k : Int)), (2, vI (best : Int)), (3, vI ((i + 1 : Nat) : Int))] ⟨rfl, rfl, rfl, rfl, trivial⟩ (ih (i + 1) L3 c3 F3 m3 (by omega) a1 a2 a3 a4 a5 a6 a7 a8 a9)
        refine xw_iload_n dX10_findFew_227 rfl ?_
        refine xw_aload_n dX10_findFew_228 rfl ?_
        refine xw_getfield dX10_findFew_229 fl_X10_313 hG2.2.1 rfl ?_
        refine xw_topi (H : Int) n56 ?_
        refine xw_icmpge (tgt := 260) dX10_findFew_232 (by decide) (by first | assumption | (unfold inI; omega) | (unfold inI at *; omega)) (by first | assumption | (unfold inI; omega) | (unfold inI at *; omega)) (fun c_232 => ?_) (fun c_232 => ?_)
        · skip
          exfalso; omega
        · skip
          refine xw_iload_n dX10_findFew_235 rfl ?_
          refine xw_iload_n dX10_findFew_236 rfl ?_
          refine xw_ishr dX10_findFew_237 (xb_shrI (by omega) (by omega)) ?_
          refine xw_iconst dX10_findFew_238 ?_
          refine xw_iand dX10_findFew_239 (xb_andI (b := 1) (by omega) (by decide)) ?_
          refine xw_topi ((if best.testBit i = true then 1 else 0 : Nat) : Int) (by rw [and_1, bit01]) ?_
          refine xw_iconst dX10_findFew_240 ?_
          refine xw_icmpne (tgt := 254) dX10_findFew_241 (by decide) (by unfold inI; split <;> omega) (by unfold inI; omega) (fun c_241 => ?_) (fun c_241 => ?_)
          · skip
            first
              | (have z9 := P3
                 exact xw_ls [(0, vR 38), (1, vI (k : Int)), (2, vI (best : Int)), (3, vI (i : Int))] ⟨rfl, rfl, rfl, rfl, trivial⟩ (nx L3 (c2 + 1) F3 _ G3 K3 (xui_s _ _ _) ((xui_n _ _ (by decide)).trans n58) ((xui_n _ _ (by decide)).trans n56) (inF_fr hin2 (b1 75 (by decide))) b3 b4 z9))
              | exact xw_ls [(0, vR 38), (1, vI (k : Int)), (2, vI (best : Int)), (3, vI (i : Int))] ⟨rfl, rfl, rfl, rfl, trivial⟩ (nx L2 c2 F2 m2 hG2 hK2 n57 n58 n56 hin2 hL2 hfw2 (fun q => by
                  have hbit : ¬ best.testBit i = true := fun z => by rw [if_pos z] at c_241; exact c_241 rfl
                  rw [← hP2 q, plc_bit, plc_bit]
                  constructor
                  · rintro (x | ⟨j, x1, x2, x3⟩)
                    · exact Or.inl x
                    · by_cases e : j = i
                      · subst e; exact absurd x2 hbit
                      · exact Or.inr ⟨j, by omega, x2, x3⟩
                  · rintro (x | ⟨j, x1, x2, x3⟩)
                    · exact Or.inl x
                    · exact Or.inr ⟨j, by omega, x2, x3⟩))
          · skip
            have hbit : best.testBit i = true := Classical.byContradiction (fun z => by rw [if_neg z] at c_241; omega)
            have hnp : ∀ c, c < c2 → L2 c ≠ hp i := fun c hc9 e => by
              rcases (plc_bit i).1 ((hP2 _).2 ⟨c, hc9, e⟩) with x | ⟨j, x1, x2, x3⟩
              · have a1 := hPk _ x
                have a2 := ((hks k hk _).1 (hps i (by omega)).2.1).2
                omega
              · have a1 := (hps j (by omega)).2.2
                have a2 := (hps i (by omega)).2.2
                rw [x3] at a1
                omega
            refine xw_aload_n dX10_findFew_244 rfl ?_
            refine xw_aload_n dX10_findFew_245 rfl ?_
            refine xw_getfield dX10_findFew_246 fl_X10_127 hG2.2.1 rfl ?_
            refine xw_iload_n dX10_findFew_249 rfl ?_
            refine xw_iald dX10_findFew_250 h75 (j := i) rfl (by omega) (by decide) ?_
            refine xw_topi (N (hp i) : Int) (hik i (by omega)) ?_
            refine xw_callV (rc := 0) (rs := 0) (mc2 := 0) (ms2 := 0) (a := 38) (As := [vI (N (hp i) : Int)]) (st := []) dX10_findFew_251 mv_X10_334 hG2.2.1 rfl rfl (by decide) (by decide) (Nat.le_of_ble_eq_true rfl) rfl (ct_insertFew hG2.2.1 n57 hN hgn h40 hL2 hfw2 (hps i (by omega)).1 hnp (fun F3 L3 b1 b2 b3 b4 b5 => ?_))
            have G3 : gR f F3 m (xui m2 57 ((c2 + 1 : Nat) : Int)) := by
              obtain ⟨fa, e76, _⟩ := b4
              refine ⟨fr_tr hG2.1 (fr_sub b1 (by decide)), b2, fun k hk9 => (xui_n _ _ (by unfold grk at hk9; omega)).trans (hG2.2.2.1 k hk9), fun p hp9 => ?_⟩
              by_cases e : p.1 = 76
              · have key : ∀ p ∈ shL, p.1 = 76 → p = (76, (0, 40)) := by decide
                rw [key p hp9 e]; exact ⟨_, e76⟩
              · obtain ⟨cc, hcc⟩ := hG2.2.2.2 p hp9
                have key : ∀ p ∈ shL, p.1 ≠ 38 := by decide
                exact ⟨cc, (b1 _ (by simp only [List.mem_cons, List.not_mem_nil, or_false]; have := key p hp9; omega)).trans hcc⟩
            have K3 : kS F3 (xui m2 57 ((c2 + 1 : Nat) : Int)) sz N B kn kc := kS_fr hK2 (b1 70 (by decide)) (b1 67 (by decide)) (b1 72 (by decide)) (xui_n _ _ (by decide)) (xui_n _ _ (by decide))
            have P3 : ∀ q, (plc hp best P (i + 1)).testBit q = true ↔ ∃ c, c < c2 + 1 ∧ L3 c = q := fun q => by
              rw [b5 q, ← hP2 q, plc_bit, plc_bit]
              constructor
              · rintro (x | ⟨j, x1, x2, x3⟩)
                · exact Or.inr (Or.inl x)
                · by_cases e : j = i
                  · subst e; exact Or.inl x3.symm
                  · exact Or.inr (Or.inr ⟨j, by omega, x2, x3⟩)
              · rintro (x | x | ⟨j, x1, x2, x3⟩)
                · exact Or.inr ⟨i, by omega, hbit, x.symm⟩
                · exact Or.inl x
                · exact Or.inr ⟨j, by omega, x2, x3⟩
            first
              | (have z9 := P3
                 exact xw_ls [(0, vR 38), (1, vI (k : Int)), (2, vI (best : Int)), (3, vI (i : Int))] ⟨rfl, rfl, rfl, rfl, trivial⟩ (nx L3 (c2 + 1) F3 _ G3 K3 (xui_s _ _ _) ((xui_n _ _ (by decide)).trans n58) ((xui_n _ _ (by decide)).trans n56) (inF_fr hin2 (b1 75 (by decide))) b3 b4 z9))
              | exact xw_ls [(0, vR 38), (1, vI (k : Int)), (2, vI (best : Int)), (3, vI (i : Int))] ⟨rfl, rfl, rfl, rfl, trivial⟩ (nx L2 c2 F2 m2 hG2 hK2 n57 n58 n56 hin2 hL2 hfw2 (fun q => by
                  have hbit : ¬ best.testBit i = true := fun z => by rw [if_pos z] at c_241; exact c_241 rfl
                  rw [← hP2 q, plc_bit, plc_bit]
                  constructor
                  · rintro (x | ⟨j, x1, x2, x3⟩)
                    · exact Or.inl x
                    · by_cases e : j = i
                      · subst e; exact absurd x2 hbit
                      · exact Or.inr ⟨j, by omega, x2, x3⟩
                  · rintro (x | ⟨j, x1, x2, x3⟩)
                    · exact Or.inl x
                    · exact Or.inr ⟨j, by omega, x2, x3⟩))
    have D : ∀ (best : Nat), best = kbs av wo sz (ks k) → best < 4096 → xw g M_X10_findFew Q 0 0 211 [(0, vR 38), (1, vI (k : Int)), (2, vI (best : Int))] [] n F := by
      intro best hbest hb4
      refine xw_aload_n dX10_findFew_211 rfl ?_
      refine xw_dup dX10_findFew_212 rfl ?_
      refine xw_getfield dX10_findFew_213 fl_X10_319 h38 rfl ?_
      refine xw_topi w m58 ?_
      refine xw_aload_n dX10_findFew_216 rfl ?_
      refine xw_iload_n dX10_findFew_217 rfl ?_
      refine xw_callV (rc := 0) (rs := 0) (mc2 := 0) (ms2 := 0) (a := 38) (As := [vI (best : Int)]) (st := [vI w, vR 38]) dX10_findFew_218 mv_X10_322 h38 rfl rfl (by decide) (by decide) (Nat.le_of_ble_eq_true rfl) rfl (ct_worthOf h38 m56 hin h45 hpW hH12 hb4 ?_)
      refine xw_iadd dX10_findFew_221 ?_
      refine xw_topi (w + kwo av wo sz (ks k)) (by rw [hkw, ← hbest, hsw]) ?_
      refine xw_putfield dX10_findFew_222 (fp_X10_319 _) h38 rfl rfl ?_
      rw [xmd_58]
      refine xw_iconst dX10_findFew_225 ?_
      refine xw_istore_n dX10_findFew_226 (by decide) ?_
      exact xw_ls [(0, vR 38), (1, vI (k : Int)), (2, vI (best : Int)), (3, vI ((0 : Nat) : Int))] ⟨rfl, rfl, rfl, rfl, trivial⟩ (C best hbest hb4 H 0 L c0 _ _ (by omega) (gR_38 (k := 58) hG (by unfold grk; omega)) (kS_fr hK rfl rfl rfl (xui_n _ _ (by decide)) (xui_n _ _ (by decide))) ((xui_n _ _ (by decide)).trans m57) (xui_s _ _ _) ((xui_n _ _ (by decide)).trans m56) (inF_fr hin rfl) hL (by obtain ⟨fa, a, b⟩ := hfw; exact ⟨fa, a, b⟩) (fun q => (plc_bit 0).trans ⟨fun x => by rcases x with x | ⟨j, x, _⟩; exact (hP q).1 x; omega, fun x => Or.inl ((hP q).2 x)⟩))
    -- the best is sought
    have E : ∀ (t s b : Nat), s + t = 2 ^ H → 1 ≤ s → b ≤ 2 ^ H - 1 → bst sw ha H (2 ^ H - 1) (t - 1) s b = kbs av wo sz (ks k) → xw g M_X10_findFew Q 0 0 110 [(0, vR 38), (1, vI (k : Int)), (2, vI (b : Int)), (3, vI (s : Int))] [] n F := by
      intro t
      induction t with
      | zero =>
        intro s b hs hs1 hb hbst
        have e9 : b = kbs av wo sz (ks k) := hbst
        refine xw_iload_n dX10_findFew_110 rfl ?_
        refine xw_iconst dX10_findFew_111 ?_
        refine xw_aload_n dX10_findFew_112 rfl ?_
        refine xw_getfield dX10_findFew_113 fl_X10_313 h38 rfl ?_
        refine xw_topi (H : Int) m56 ?_
        refine xw_ishl dX10_findFew_116 (xb_shlI H (by omega)) ?_
        refine xw_icmpge (tgt := 211) dX10_findFew_117 (by decide) (by first | assumption | (unfold inI; omega) | (unfold inI at *; omega)) (by first | assumption | (unfold inI; omega) | (unfold inI at *; omega)) (fun c_117 => ?_) (fun c_117 => ?_)
        · skip
          exact xw_ls [(0, vR 38), (1, vI (k : Int)), (2, vI (b : Int))] ⟨rfl, rfl, rfl, trivial⟩ (D b e9 (by omega))
        · skip
          exfalso; omega
      | succ t ih =>
        intro s b hs hs1 hb hbst
        have hs4 : s < 4096 := by omega
        have hb4 : b < 4096 := by omega
        have ca := cnt_le s 12
        have cb := cnt_le b 12
        have sa := swb s
        have sb9 := swb b
        -- what the next round begins with
        have step : ∀ b2 : Nat, b2 = (if betb sw s b = true ∧ lse ha H H (xdf (2 ^ H - 1) s) = true then s else b) → xw g M_X10_findFew Q 0 0 205 [(0, vR 38), (1, vI (k : Int)), (2, vI (b2 : Int)), (3, vI (s : Int))] [] n F := by
          intro b2 hb2
          have hb2l : b2 ≤ 2 ^ H - 1 := by rw [hb2]; split <;> omega
          refine xw_iinc dX10_findFew_205 rfl (by decide) ?_
          refine xw_goto (tgt := 110) dX10_findFew_208 (by decide) ?_
          exact xw_ls [(0, vR 38), (1, vI (k : Int)), (2, vI (b2 : Int)), (3, vI ((s + 1 : Nat) : Int))] ⟨rfl, rfl, rfl, rfl, trivial⟩ (ih (s + 1) b2 (by omega) (by omega) hb2l (by
            cases t with
            | zero =>
              have es : s = 2 ^ H - 1 := by omega
              have ef := bet_all (hw := fun j => wo (hp j)) hb (fun j hj => (wo1 _ (hps j hj).1).1)
              rw [← es, ← hsw] at ef
              rw [if_neg (fun z => by rw [ef] at z; cases z.1)] at hb2
              rw [hb2]; exact hbst
            | succ t =>
              rw [← hbst]
              show _ = bst sw ha H (2 ^ H - 1) (t + 1) s b
              rw [bst, ← hb2]; rfl))
        have tst : ∀ gd : Int, ((gd = 1 ∧ betb sw s b = true) ∨ (gd = 0 ∧ betb sw s b = false)) → xw g M_X10_findFew Q 0 0 188 [(0, vR 38), (1, vI (k : Int)), (2, vI (b : Int)), (3, vI (s : Int))] [vI gd] n F := by
          intro gd hgd
          rcases hgd with ⟨rfl, hgd⟩ | ⟨rfl, hgd⟩
          · skip
            refine xw_istore dX10_findFew_188 (by decide) ?_
            refine xw_iload dX10_findFew_190 rfl ?_
            refine xw_ifeq (tgt := 205) dX10_findFew_192 (by decide) (by first | assumption | (unfold inI; omega) | (unfold inI at *; omega)) (fun c_192 => ?_) (fun c_192 => ?_)
            · skip
              exfalso; omega
            · skip
              refine xw_aload_n dX10_findFew_195 rfl ?_
              refine xw_iload_n dX10_findFew_196 rfl ?_
              refine xw_callV (rc := 0) (rs := 0) (mc2 := 0) (ms2 := 0) (a := 38) (As := [vI (s : Int)]) (st := []) dX10_findFew_197 mv_X10_331 h38 rfl rfl (by decide) (by decide) (Nat.le_of_ble_eq_true rfl) rfl (ct_breaks h38 m56 hN hgn hin hK.2.2.1 (fun j hj => (hps j hj).1) hH12 (by omega) hhab (fun c1 => ?_) (fun c1 => ?_))
              · skip
                refine xw_ifeq (tgt := 205) dX10_findFew_200 (by decide) (by unfold inI; omega) (fun c => absurd c (by decide)) (fun _ => ?_)
                refine xw_iload_n dX10_findFew_203 rfl ?_
                refine xw_istore_n dX10_findFew_204 (by decide) ?_
                first
                  | exact xw_ls [(0, vR 38), (1, vI (k : Int)), (2, vI (s : Int)), (3, vI (s : Int))] ⟨rfl, rfl, rfl, rfl, trivial⟩ (step s (if_pos ⟨hgd, c1⟩).symm)
                  | exact xw_ls [(0, vR 38), (1, vI (k : Int)), (2, vI (b : Int)), (3, vI (s : Int))] ⟨rfl, rfl, rfl, rfl, trivial⟩ (step b (if_neg (fun z => by rw [c1] at z; cases z.2)).symm)
              · skip
                refine xw_ifeq (tgt := 205) dX10_findFew_200 (by decide) (by unfold inI; omega) (fun _ => ?_) (fun c => absurd c (by decide))
                first
                  | exact xw_ls [(0, vR 38), (1, vI (k : Int)), (2, vI (s : Int)), (3, vI (s : Int))] ⟨rfl, rfl, rfl, rfl, trivial⟩ (step s (if_pos ⟨hgd, c1⟩).symm)
                  | exact xw_ls [(0, vR 38), (1, vI (k : Int)), (2, vI (b : Int)), (3, vI (s : Int))] ⟨rfl, rfl, rfl, rfl, trivial⟩ (step b (if_neg (fun z => by rw [c1] at z; cases z.2)).symm)
          · skip
            refine xw_istore dX10_findFew_188 (by decide) ?_
            refine xw_iload dX10_findFew_190 rfl ?_
            refine xw_ifeq (tgt := 205) dX10_findFew_192 (by decide) (by first | assumption | (unfold inI; omega) | (unfold inI at *; omega)) (fun c_192 => ?_) (fun c_192 => ?_)
            · skip
              exact xw_ls [(0, vR 38), (1, vI (k : Int)), (2, vI (b : Int)), (3, vI (s : Int))] ⟨rfl, rfl, rfl, rfl, trivial⟩ (step b (if_neg (fun z => by rw [hgd] at z; cases z.1)).symm)
            · skip
              exfalso; omega
        have ah : s = b → ahn s b = 0 := fun e => by rw [e]; unfold ahn; rw [Nat.xor_self, if_pos rfl]
        have hsw' : ∀ s, wsm (fun j => wo (hp j)) s H = sw s := fun s => by rw [hsw]
        unfold betb at tst
        refine xw_iload_n dX10_findFew_110 rfl ?_
        refine xw_iconst dX10_findFew_111 ?_
        refine xw_aload_n dX10_findFew_112 rfl ?_
        refine xw_getfield dX10_findFew_113 fl_X10_313 h38 rfl ?_
        refine xw_topi (H : Int) m56 ?_
        refine xw_ishl dX10_findFew_116 (xb_shlI H (by omega)) ?_
        refine xw_icmpge (tgt := 211) dX10_findFew_117 (by decide) (by first | assumption | (unfold inI; omega) | (unfold inI at *; omega)) (by first | assumption | (unfold inI; omega) | (unfold inI at *; omega)) (fun c_117 => ?_) (fun c_117 => ?_)
        · skip
          exfalso; omega
        · skip
          refine xw_aload_n dX10_findFew_120 rfl ?_
          refine xw_iload_n dX10_findFew_121 rfl ?_
          refine xw_callV (rc := 0) (rs := 0) (mc2 := 0) (ms2 := 0) (a := 38) (As := [vI (s : Int)]) (st := []) dX10_findFew_122 mv_X10_322 h38 rfl rfl (by decide) (by decide) (Nat.le_of_ble_eq_true rfl) rfl (ct_worthOf h38 m56 hin h45 hpW hH12 hs4 ?_)
          rw [hsw' s]
          refine xw_istore dX10_findFew_125 (by decide) ?_
          refine xw_aload_n dX10_findFew_127 rfl ?_
          refine xw_iload_n dX10_findFew_128 rfl ?_
          refine xw_callV (rc := 0) (rs := 0) (mc2 := 0) (ms2 := 0) (a := 38) (As := [vI (b : Int)]) (st := []) dX10_findFew_129 mv_X10_322 h38 rfl rfl (by decide) (by decide) (Nat.le_of_ble_eq_true rfl) rfl (ct_worthOf h38 m56 hin h45 hpW hH12 hb4 ?_)
          rw [hsw' b]
          refine xw_istore dX10_findFew_132 (by decide) ?_
          refine xw_iload dX10_findFew_134 rfl ?_
          refine xw_iload dX10_findFew_136 rfl ?_
          refine xw_icmplt (tgt := 183) dX10_findFew_138 (by decide) (by first | assumption | (unfold inI; omega) | (unfold inI at *; omega)) (by first | assumption | (unfold inI; omega) | (unfold inI at *; omega)) (fun c_138 => ?_) (fun c_138 => ?_)
          · skip
            refine xw_iconst dX10_findFew_183 ?_
            refine xw_goto (tgt := 188) dX10_findFew_184 (by decide) ?_
            first
              | exact xw_ls [(0, vR 38), (1, vI (k : Int)), (2, vI (b : Int)), (3, vI (s : Int))] ⟨rfl, rfl, rfl, rfl, trivial⟩ (tst 1 (Or.inl ⟨rfl, by rw [if_neg (by omega)]; exact decide_eq_true (by omega)⟩))
              | exact xw_ls [(0, vR 38), (1, vI (k : Int)), (2, vI (b : Int)), (3, vI (s : Int))] ⟨rfl, rfl, rfl, rfl, trivial⟩ (tst 0 (Or.inr ⟨rfl, by rw [if_neg (by omega)]; exact decide_eq_false (by omega)⟩))
              | exact xw_ls [(0, vR 38), (1, vI (k : Int)), (2, vI (b : Int)), (3, vI (s : Int))] ⟨rfl, rfl, rfl, rfl, trivial⟩ (tst 1 (Or.inl ⟨rfl, by rw [if_pos (by omega), if_neg (by omega)]; exact decide_eq_true (by omega)⟩))
              | exact xw_ls [(0, vR 38), (1, vI (k : Int)), (2, vI (b : Int)), (3, vI (s : Int))] ⟨rfl, rfl, rfl, rfl, trivial⟩ (tst 0 (Or.inr ⟨rfl, by rw [if_pos (by omega), if_neg (by omega)]; exact decide_eq_false (by omega)⟩))
              | exact xw_ls [(0, vR 38), (1, vI (k : Int)), (2, vI (b : Int)), (3, vI (s : Int))] ⟨rfl, rfl, rfl, rfl, trivial⟩ (tst 1 (Or.inl ⟨rfl, by rw [if_pos (by omega), if_pos (by omega)]; exact decide_eq_true c1⟩))
              | exact xw_ls [(0, vR 38), (1, vI (k : Int)), (2, vI (b : Int)), (3, vI (s : Int))] ⟨rfl, rfl, rfl, rfl, trivial⟩ (tst 0 (Or.inr ⟨rfl, by rw [if_pos (by omega), if_pos (by omega)]; exact decide_eq_false (fun z => z c1)⟩))
              | exact xw_ls [(0, vR 38), (1, vI (k : Int)), (2, vI (b : Int)), (3, vI (s : Int))] ⟨rfl, rfl, rfl, rfl, trivial⟩ (tst 0 (Or.inr ⟨rfl, by rw [if_pos (by omega), if_pos (by omega)]; exact decide_eq_false (fun z => z (ah (by omega)))⟩))
          · skip
            refine xw_iload dX10_findFew_141 rfl ?_
            refine xw_iload dX10_findFew_143 rfl ?_
            refine xw_icmpne (tgt := 187) dX10_findFew_145 (by decide) (by first | assumption | (unfold inI; omega) | (unfold inI at *; omega)) (by first | assumption | (unfold inI; omega) | (unfold inI at *; omega)) (fun c_145 => ?_) (fun c_145 => ?_)
            · skip
              refine xw_iconst dX10_findFew_187 ?_
              first
                | exact xw_ls [(0, vR 38), (1, vI (k : Int)), (2, vI (b : Int)), (3, vI (s : Int))] ⟨rfl, rfl, rfl, rfl, trivial⟩ (tst 1 (Or.inl ⟨rfl, by rw [if_neg (by omega)]; exact decide_eq_true (by omega)⟩))
                | exact xw_ls [(0, vR 38), (1, vI (k : Int)), (2, vI (b : Int)), (3, vI (s : Int))] ⟨rfl, rfl, rfl, rfl, trivial⟩ (tst 0 (Or.inr ⟨rfl, by rw [if_neg (by omega)]; exact decide_eq_false (by omega)⟩))
                | exact xw_ls [(0, vR 38), (1, vI (k : Int)), (2, vI (b : Int)), (3, vI (s : Int))] ⟨rfl, rfl, rfl, rfl, trivial⟩ (tst 1 (Or.inl ⟨rfl, by rw [if_pos (by omega), if_neg (by omega)]; exact decide_eq_true (by omega)⟩))
                | exact xw_ls [(0, vR 38), (1, vI (k : Int)), (2, vI (b : Int)), (3, vI (s : Int))] ⟨rfl, rfl, rfl, rfl, trivial⟩ (tst 0 (Or.inr ⟨rfl, by rw [if_pos (by omega), if_neg (by omega)]; exact decide_eq_false (by omega)⟩))
                | exact xw_ls [(0, vR 38), (1, vI (k : Int)), (2, vI (b : Int)), (3, vI (s : Int))] ⟨rfl, rfl, rfl, rfl, trivial⟩ (tst 1 (Or.inl ⟨rfl, by rw [if_pos (by omega), if_pos (by omega)]; exact decide_eq_true c1⟩))
                | exact xw_ls [(0, vR 38), (1, vI (k : Int)), (2, vI (b : Int)), (3, vI (s : Int))] ⟨rfl, rfl, rfl, rfl, trivial⟩ (tst 0 (Or.inr ⟨rfl, by rw [if_pos (by omega), if_pos (by omega)]; exact decide_eq_false (fun z => z c1)⟩))
                | exact xw_ls [(0, vR 38), (1, vI (k : Int)), (2, vI (b : Int)), (3, vI (s : Int))] ⟨rfl, rfl, rfl, rfl, trivial⟩ (tst 0 (Or.inr ⟨rfl, by rw [if_pos (by omega), if_pos (by omega)]; exact decide_eq_false (fun z => z (ah (by omega)))⟩))
            · skip
              refine xw_iload_n dX10_findFew_148 rfl ?_
              refine xw_callS (rc := 0) (rs := 0) (mc2 := 0) (ms2 := 0) (As := [vI (s : Int)]) (st := []) dX10_findFew_149 ms_X10_325 rfl (by decide) (by decide) (Nat.le_of_ble_eq_true rfl) rfl (ct_size hs4 ?_)
              refine xw_iload_n dX10_findFew_152 rfl ?_
              refine xw_callS (rc := 0) (rs := 0) (mc2 := 0) (ms2 := 0) (As := [vI (b : Int)]) (st := [vI ((cnt s 12 : Nat) : Int)]) dX10_findFew_153 ms_X10_325 rfl (by decide) (by decide) (Nat.le_of_ble_eq_true rfl) rfl (ct_size hb4 ?_)
              refine xw_icmplt (tgt := 183) dX10_findFew_156 (by decide) (by first | assumption | (unfold inI; omega) | (unfold inI at *; omega)) (by first | assumption | (unfold inI; omega) | (unfold inI at *; omega)) (fun c_156 => ?_) (fun c_156 => ?_)
              · skip
                refine xw_iconst dX10_findFew_183 ?_
                refine xw_goto (tgt := 188) dX10_findFew_184 (by decide) ?_
                first
                  | exact xw_ls [(0, vR 38), (1, vI (k : Int)), (2, vI (b : Int)), (3, vI (s : Int))] ⟨rfl, rfl, rfl, rfl, trivial⟩ (tst 1 (Or.inl ⟨rfl, by rw [if_neg (by omega)]; exact decide_eq_true (by omega)⟩))
                  | exact xw_ls [(0, vR 38), (1, vI (k : Int)), (2, vI (b : Int)), (3, vI (s : Int))] ⟨rfl, rfl, rfl, rfl, trivial⟩ (tst 0 (Or.inr ⟨rfl, by rw [if_neg (by omega)]; exact decide_eq_false (by omega)⟩))
                  | exact xw_ls [(0, vR 38), (1, vI (k : Int)), (2, vI (b : Int)), (3, vI (s : Int))] ⟨rfl, rfl, rfl, rfl, trivial⟩ (tst 1 (Or.inl ⟨rfl, by rw [if_pos (by omega), if_neg (by omega)]; exact decide_eq_true (by omega)⟩))
                  | exact xw_ls [(0, vR 38), (1, vI (k : Int)), (2, vI (b : Int)), (3, vI (s : Int))] ⟨rfl, rfl, rfl, rfl, trivial⟩ (tst 0 (Or.inr ⟨rfl, by rw [if_pos (by omega), if_neg (by omega)]; exact decide_eq_false (by omega)⟩))
                  | exact xw_ls [(0, vR 38), (1, vI (k : Int)), (2, vI (b : Int)), (3, vI (s : Int))] ⟨rfl, rfl, rfl, rfl, trivial⟩ (tst 1 (Or.inl ⟨rfl, by rw [if_pos (by omega), if_pos (by omega)]; exact decide_eq_true c1⟩))
                  | exact xw_ls [(0, vR 38), (1, vI (k : Int)), (2, vI (b : Int)), (3, vI (s : Int))] ⟨rfl, rfl, rfl, rfl, trivial⟩ (tst 0 (Or.inr ⟨rfl, by rw [if_pos (by omega), if_pos (by omega)]; exact decide_eq_false (fun z => z c1)⟩))
                  | exact xw_ls [(0, vR 38), (1, vI (k : Int)), (2, vI (b : Int)), (3, vI (s : Int))] ⟨rfl, rfl, rfl, rfl, trivial⟩ (tst 0 (Or.inr ⟨rfl, by rw [if_pos (by omega), if_pos (by omega)]; exact decide_eq_false (fun z => z (ah (by omega)))⟩))
              · skip
                refine xw_iload_n dX10_findFew_159 rfl ?_
                refine xw_callS (rc := 0) (rs := 0) (mc2 := 0) (ms2 := 0) (As := [vI (s : Int)]) (st := []) dX10_findFew_160 ms_X10_325 rfl (by decide) (by decide) (Nat.le_of_ble_eq_true rfl) rfl (ct_size hs4 ?_)
                refine xw_iload_n dX10_findFew_163 rfl ?_
                refine xw_callS (rc := 0) (rs := 0) (mc2 := 0) (ms2 := 0) (As := [vI (b : Int)]) (st := [vI ((cnt s 12 : Nat) : Int)]) dX10_findFew_164 ms_X10_325 rfl (by decide) (by decide) (Nat.le_of_ble_eq_true rfl) rfl (ct_size hb4 ?_)
                refine xw_icmpne (tgt := 187) dX10_findFew_167 (by decide) (by first | assumption | (unfold inI; omega) | (unfold inI at *; omega)) (by first | assumption | (unfold inI; omega) | (unfold inI at *; omega)) (fun c_167 => ?_) (fun c_167 => ?_)
                · skip
                  refine xw_iconst dX10_findFew_187 ?_
                  first
                    | exact xw_ls [(0, vR 38), (1, vI (k : Int)), (2, vI (b : Int)), (3, vI (s : Int))] ⟨rfl, rfl, rfl, rfl, trivial⟩ (tst 1 (Or.inl ⟨rfl, by rw [if_neg (by omega)]; exact decide_eq_true (by omega)⟩))
                    | exact xw_ls [(0, vR 38), (1, vI (k : Int)), (2, vI (b : Int)), (3, vI (s : Int))] ⟨rfl, rfl, rfl, rfl, trivial⟩ (tst 0 (Or.inr ⟨rfl, by rw [if_neg (by omega)]; exact decide_eq_false (by omega)⟩))
                    | exact xw_ls [(0, vR 38), (1, vI (k : Int)), (2, vI (b : Int)), (3, vI (s : Int))] ⟨rfl, rfl, rfl, rfl, trivial⟩ (tst 1 (Or.inl ⟨rfl, by rw [if_pos (by omega), if_neg (by omega)]; exact decide_eq_true (by omega)⟩))
                    | exact xw_ls [(0, vR 38), (1, vI (k : Int)), (2, vI (b : Int)), (3, vI (s : Int))] ⟨rfl, rfl, rfl, rfl, trivial⟩ (tst 0 (Or.inr ⟨rfl, by rw [if_pos (by omega), if_neg (by omega)]; exact decide_eq_false (by omega)⟩))
                    | exact xw_ls [(0, vR 38), (1, vI (k : Int)), (2, vI (b : Int)), (3, vI (s : Int))] ⟨rfl, rfl, rfl, rfl, trivial⟩ (tst 1 (Or.inl ⟨rfl, by rw [if_pos (by omega), if_pos (by omega)]; exact decide_eq_true c1⟩))
                    | exact xw_ls [(0, vR 38), (1, vI (k : Int)), (2, vI (b : Int)), (3, vI (s : Int))] ⟨rfl, rfl, rfl, rfl, trivial⟩ (tst 0 (Or.inr ⟨rfl, by rw [if_pos (by omega), if_pos (by omega)]; exact decide_eq_false (fun z => z c1)⟩))
                    | exact xw_ls [(0, vR 38), (1, vI (k : Int)), (2, vI (b : Int)), (3, vI (s : Int))] ⟨rfl, rfl, rfl, rfl, trivial⟩ (tst 0 (Or.inr ⟨rfl, by rw [if_pos (by omega), if_pos (by omega)]; exact decide_eq_false (fun z => z (ah (by omega)))⟩))
                · skip
                  refine xw_iload_n dX10_findFew_170 rfl ?_
                  refine xw_iload_n dX10_findFew_171 rfl ?_
                  refine xw_icmpeq (tgt := 187) dX10_findFew_172 (by decide) (by first | assumption | (unfold inI; omega) | (unfold inI at *; omega)) (by first | assumption | (unfold inI; omega) | (unfold inI at *; omega)) (fun c_172 => ?_) (fun c_172 => ?_)
                  · skip
                    refine xw_iconst dX10_findFew_187 ?_
                    first
                      | exact xw_ls [(0, vR 38), (1, vI (k : Int)), (2, vI (b : Int)), (3, vI (s : Int))] ⟨rfl, rfl, rfl, rfl, trivial⟩ (tst 1 (Or.inl ⟨rfl, by rw [if_neg (by omega)]; exact decide_eq_true (by omega)⟩))
                      | exact xw_ls [(0, vR 38), (1, vI (k : Int)), (2, vI (b : Int)), (3, vI (s : Int))] ⟨rfl, rfl, rfl, rfl, trivial⟩ (tst 0 (Or.inr ⟨rfl, by rw [if_neg (by omega)]; exact decide_eq_false (by omega)⟩))
                      | exact xw_ls [(0, vR 38), (1, vI (k : Int)), (2, vI (b : Int)), (3, vI (s : Int))] ⟨rfl, rfl, rfl, rfl, trivial⟩ (tst 1 (Or.inl ⟨rfl, by rw [if_pos (by omega), if_neg (by omega)]; exact decide_eq_true (by omega)⟩))
                      | exact xw_ls [(0, vR 38), (1, vI (k : Int)), (2, vI (b : Int)), (3, vI (s : Int))] ⟨rfl, rfl, rfl, rfl, trivial⟩ (tst 0 (Or.inr ⟨rfl, by rw [if_pos (by omega), if_neg (by omega)]; exact decide_eq_false (by omega)⟩))
                      | exact xw_ls [(0, vR 38), (1, vI (k : Int)), (2, vI (b : Int)), (3, vI (s : Int))] ⟨rfl, rfl, rfl, rfl, trivial⟩ (tst 1 (Or.inl ⟨rfl, by rw [if_pos (by omega), if_pos (by omega)]; exact decide_eq_true c1⟩))
                      | exact xw_ls [(0, vR 38), (1, vI (k : Int)), (2, vI (b : Int)), (3, vI (s : Int))] ⟨rfl, rfl, rfl, rfl, trivial⟩ (tst 0 (Or.inr ⟨rfl, by rw [if_pos (by omega), if_pos (by omega)]; exact decide_eq_false (fun z => z c1)⟩))
                      | exact xw_ls [(0, vR 38), (1, vI (k : Int)), (2, vI (b : Int)), (3, vI (s : Int))] ⟨rfl, rfl, rfl, rfl, trivial⟩ (tst 0 (Or.inr ⟨rfl, by rw [if_pos (by omega), if_pos (by omega)]; exact decide_eq_false (fun z => z (ah (by omega)))⟩))
                  · skip
                    refine xw_iload_n dX10_findFew_175 rfl ?_
                    refine xw_iload_n dX10_findFew_176 rfl ?_
                    refine xw_callS (rc := 0) (rs := 0) (mc2 := 0) (ms2 := 0) (As := [vI (s : Int), vI (b : Int)]) (st := []) dX10_findFew_177 ms_X10_328 rfl (by decide) (by decide) (Nat.le_of_ble_eq_true rfl) rfl (ct_isAhead hs4 hb4 (fun c1 => ?_) (fun c1 => ?_))
                    · skip
                      refine xw_ifeq (tgt := 187) dX10_findFew_180 (by decide) (by unfold inI; omega) (fun c => absurd c (by decide)) (fun _ => ?_)
                      refine xw_iconst dX10_findFew_183 ?_
                      refine xw_goto (tgt := 188) dX10_findFew_184 (by decide) ?_
                      first
                        | exact xw_ls [(0, vR 38), (1, vI (k : Int)), (2, vI (b : Int)), (3, vI (s : Int))] ⟨rfl, rfl, rfl, rfl, trivial⟩ (tst 1 (Or.inl ⟨rfl, by rw [if_neg (by omega)]; exact decide_eq_true (by omega)⟩))
                        | exact xw_ls [(0, vR 38), (1, vI (k : Int)), (2, vI (b : Int)), (3, vI (s : Int))] ⟨rfl, rfl, rfl, rfl, trivial⟩ (tst 0 (Or.inr ⟨rfl, by rw [if_neg (by omega)]; exact decide_eq_false (by omega)⟩))
                        | exact xw_ls [(0, vR 38), (1, vI (k : Int)), (2, vI (b : Int)), (3, vI (s : Int))] ⟨rfl, rfl, rfl, rfl, trivial⟩ (tst 1 (Or.inl ⟨rfl, by rw [if_pos (by omega), if_neg (by omega)]; exact decide_eq_true (by omega)⟩))
                        | exact xw_ls [(0, vR 38), (1, vI (k : Int)), (2, vI (b : Int)), (3, vI (s : Int))] ⟨rfl, rfl, rfl, rfl, trivial⟩ (tst 0 (Or.inr ⟨rfl, by rw [if_pos (by omega), if_neg (by omega)]; exact decide_eq_false (by omega)⟩))
                        | exact xw_ls [(0, vR 38), (1, vI (k : Int)), (2, vI (b : Int)), (3, vI (s : Int))] ⟨rfl, rfl, rfl, rfl, trivial⟩ (tst 1 (Or.inl ⟨rfl, by rw [if_pos (by omega), if_pos (by omega)]; exact decide_eq_true c1⟩))
                        | exact xw_ls [(0, vR 38), (1, vI (k : Int)), (2, vI (b : Int)), (3, vI (s : Int))] ⟨rfl, rfl, rfl, rfl, trivial⟩ (tst 0 (Or.inr ⟨rfl, by rw [if_pos (by omega), if_pos (by omega)]; exact decide_eq_false (fun z => z c1)⟩))
                        | exact xw_ls [(0, vR 38), (1, vI (k : Int)), (2, vI (b : Int)), (3, vI (s : Int))] ⟨rfl, rfl, rfl, rfl, trivial⟩ (tst 0 (Or.inr ⟨rfl, by rw [if_pos (by omega), if_pos (by omega)]; exact decide_eq_false (fun z => z (ah (by omega)))⟩))
                    · skip
                      refine xw_ifeq (tgt := 187) dX10_findFew_180 (by decide) (by unfold inI; omega) (fun _ => ?_) (fun c => absurd c (by decide))
                      refine xw_iconst dX10_findFew_187 ?_
                      first
                        | exact xw_ls [(0, vR 38), (1, vI (k : Int)), (2, vI (b : Int)), (3, vI (s : Int))] ⟨rfl, rfl, rfl, rfl, trivial⟩ (tst 1 (Or.inl ⟨rfl, by rw [if_neg (by omega)]; exact decide_eq_true (by omega)⟩))
                        | exact xw_ls [(0, vR 38), (1, vI (k : Int)), (2, vI (b : Int)), (3, vI (s : Int))] ⟨rfl, rfl, rfl, rfl, trivial⟩ (tst 0 (Or.inr ⟨rfl, by rw [if_neg (by omega)]; exact decide_eq_false (by omega)⟩))
                        | exact xw_ls [(0, vR 38), (1, vI (k : Int)), (2, vI (b : Int)), (3, vI (s : Int))] ⟨rfl, rfl, rfl, rfl, trivial⟩ (tst 1 (Or.inl ⟨rfl, by rw [if_pos (by omega), if_neg (by omega)]; exact decide_eq_true (by omega)⟩))
                        | exact xw_ls [(0, vR 38), (1, vI (k : Int)), (2, vI (b : Int)), (3, vI (s : Int))] ⟨rfl, rfl, rfl, rfl, trivial⟩ (tst 0 (Or.inr ⟨rfl, by rw [if_pos (by omega), if_neg (by omega)]; exact decide_eq_false (by omega)⟩))
                        | exact xw_ls [(0, vR 38), (1, vI (k : Int)), (2, vI (b : Int)), (3, vI (s : Int))] ⟨rfl, rfl, rfl, rfl, trivial⟩ (tst 1 (Or.inl ⟨rfl, by rw [if_pos (by omega), if_pos (by omega)]; exact decide_eq_true c1⟩))
                        | exact xw_ls [(0, vR 38), (1, vI (k : Int)), (2, vI (b : Int)), (3, vI (s : Int))] ⟨rfl, rfl, rfl, rfl, trivial⟩ (tst 0 (Or.inr ⟨rfl, by rw [if_pos (by omega), if_pos (by omega)]; exact decide_eq_false (fun z => z c1)⟩))
                        | exact xw_ls [(0, vR 38), (1, vI (k : Int)), (2, vI (b : Int)), (3, vI (s : Int))] ⟨rfl, rfl, rfl, rfl, trivial⟩ (tst 0 (Or.inr ⟨rfl, by rw [if_pos (by omega), if_pos (by omega)]; exact decide_eq_false (fun z => z (ah (by omega)))⟩))
    -- nothing taken away breaks nothing
    have Hp : 0 < H := by
      obtain ⟨p, hp1, hp2⟩ := k2 k hk
      have a := (hks k hk p).2 ⟨hp1, hp2⟩
      have b := cnt_mono (x := ks k) (show p + 1 ≤ sz by omega)
      have c : cnt (ks k) (p + 1) = cnt (ks k) p + (if (ks k).testBit p = true then 1 else 0) := rfl
      rw [if_pos a] at c
      omega
    have H2 : 2 ≤ 2 ^ H := by
      have := Nat.pow_le_pow_right (n := 2) (by decide) (show 1 ≤ H by omega)
      omega
    have zero : ∀ j, j < H → ha j &&& (2 ^ H - 1) ≠ 0 := by
      intro j hj hz
      have a := hps j hj
      have kj := ((hks k hk _).1 a.2.1).2
      obtain ⟨v, hv1, hv2⟩ := k3 (hp j) a.1 (by omega)
      obtain ⟨v', rfl⟩ : ∃ v', v = v' + 1 := ⟨v - 1, by omega⟩
      obtain ⟨i, _, he⟩ := hv2
      have hi : (ks k).testBit i = true := (hks k hk i).2 ⟨he.1.1, by rw [he.1.2, kj]⟩
      have hci : cnt (ks k) i < H := by
        rw [hH]
        have b := cnt_mono (x := ks k) (show i + 1 ≤ sz by have := he.1.1; omega)
        have c : cnt (ks k) (i + 1) = cnt (ks k) i + (if (ks k).testBit i = true then 1 else 0) := rfl
        rw [if_pos hi] at c
        omega
      have hpi : hp (cnt (ks k) i) = i := by rw [hhp]; exact hpc_at hi he.1.1
      exact and_z0 hz ⟨(hhab j hj (cnt (ks k) i)).2 ⟨hci, by rw [hpi]; exact he.2.2⟩, by rw [Nat.testBit_two_pow_sub_one]; exact decide_eq_true hci⟩
    refine xw_iconst dX10_findFew_99 ?_
    refine xw_aload_n dX10_findFew_100 rfl ?_
    refine xw_getfield dX10_findFew_101 fl_X10_313 h38 rfl ?_
    refine xw_topi (H : Int) m56 ?_
    refine xw_ishl dX10_findFew_104 (xb_shlI H (by omega)) ?_
    refine xw_iconst dX10_findFew_105 ?_
    refine xw_isub dX10_findFew_106 ?_
    refine xw_topi ((2 ^ H - 1 : Nat) : Int) (by omega) ?_
    refine xw_istore_n dX10_findFew_107 (by decide) ?_
    refine xw_iconst dX10_findFew_108 ?_
    refine xw_istore_n dX10_findFew_109 (by decide) ?_
    exact xw_ls [(0, vR 38), (1, vI (k : Int)), (2, vI ((2 ^ H - 1 : Nat) : Int)), (3, vI ((1 : Nat) : Int))] ⟨rfl, rfl, rfl, rfl, trivial⟩ (E (2 ^ H - 1) 1 (2 ^ H - 1) (by omega) (Nat.le_refl 1) (Nat.le_refl _) (by
      rw [hbs]
      obtain ⟨a, ha9⟩ : ∃ a, 2 ^ H - 1 = a + 1 := ⟨2 ^ H - 2, by omega⟩
      have e0 : xdf (2 ^ H - 1) 0 = 2 ^ H - 1 := by unfold xdf; rw [Nat.xor_zero, Nat.and_self]
      have lf := lse_all (ha := ha) (h := H) (all := 2 ^ H - 1) (by omega) zero H
      have e1 : bst sw ha H (2 ^ H - 1) (a + 1) 0 (2 ^ H - 1) = bst sw ha H (2 ^ H - 1) a 1 (2 ^ H - 1) := by
        rw [bst, if_neg (fun z => by rw [e0, lf] at z; cases z.2)]
      rw [show bst sw ha H (2 ^ H - 1) (2 ^ H - 1) 0 (2 ^ H - 1) = bst sw ha H (2 ^ H - 1) (a + 1) 0 (2 ^ H - 1) by rw [← ha9], e1, show 2 ^ H - 1 - 1 = a by omega]))
  -- the knots, one behind the other
  have main : ∀ (t k : Nat) (w : Int) (P : Nat) (L : Nat → Nat) (c0 : Nat) (F : xH) (m1 : Nat → Int), k + t = kc → rmd av wo sz ks t k w P = RM → gR f F m m1 → kS F m1 sz N B kn kc → m1 57 = (c0 : Int) → m1 58 = w → incL L c0 sz → fwF F c0 N L → (∀ q, P.testBit q = true ↔ ∃ c, c < c0 ∧ L c = q) → (∀ q, P.testBit q = true → 0 ≤ kn q ∧ kn q < (k : Int)) → 0 ≤ w → w ≤ 1200 * (k : Int) → xw g M_X10_findFew Q 0 0 16 [(0, vR 38), (1, vI (k : Int))] [] n F := by
    intro t
    induction t with
    | zero =>
      intro k w P L c0 F m1 hk hr hG hK m57 m58 hL hfw hP hPk hw0 hwk
      have m50 := hK.2.2.2.1
      have hr' : (w, P) = RM := hr
      refine xw_iload_n dX10_findFew_16 rfl ?_
      refine xw_aload_n dX10_findFew_17 rfl ?_
      refine xw_getfield dX10_findFew_18 fl_X10_294 hG.2.1 rfl ?_
      refine xw_topi (kc : Int) m50 ?_
      refine xw_icmpge (tgt := 266) dX10_findFew_21 (by decide) (by first | assumption | (unfold inI; omega) | (unfold inI at *; omega)) (by first | assumption | (unfold inI; omega) | (unfold inI at *; omega)) (fun c_21 => ?_) (fun c_21 => ?_)
      · skip
        refine xw_iconst dX10_findFew_266 ?_
        exact xw_zret dX10_findFew_267 rfl rfl (h1 F m1 w P L c0 hG hr'.symm hw0 m58 m57 hL hfw hP)
      · skip
        exfalso; omega
    | succ t ih =>
      intro k w P L c0 F m1 hk hr hG hK m57 m58 hL hfw hP hPk hw0 hwk
      have hkc : k < kc := by omega
      have hbit := hks k hkc
      have m50 := hK.2.2.2.1
      have c40 : cnt (ks k) 40 = cnt (ks k) sz := by
        have e := cnt_top (x := ks k) (sz := sz) (fun p hp9 => ((hbit p).1 hp9).1) (40 - sz)
        rw [show sz + (40 - sz) = 40 by omega] at e
        exact e
      have A : ∀ (u i : Nat) (F2 : xH) (m2 : Nat → Int) (ik : Nat → Int), i + u = sz → gR f F2 m m2 → kS F2 m2 sz N B kn kc → m2 57 = (c0 : Int) → m2 58 = w → m2 56 = ((cnt (ks k) i : Nat) : Int) → F2 75 = some (aI 40 ik) → (∀ j, j < cnt (ks k) i → ik j = (N (hpc (ks k) sz j) : Int)) → F2 76 = F 76 → xw g M_X10_findFew Q 0 0 31 [(0, vR 38), (1, vI (k : Int)), (2, vI (i : Int))] [] n F2 := by
        intro u
        induction u with
        | zero =>
          intro i F2 m2 ik hi hG2 hK2 n57 n58 n56 h75 hik e76
          have ei : i = sz := by omega
          rw [ei] at n56 hik
          have cz := cnt_le (ks k) sz
          have fw2 : fwF F2 c0 N L := by obtain ⟨fa, a, b⟩ := hfw; exact ⟨fa, e76.trans a, b⟩
          rw [rmd, c40] at hr
          refine xw_iload_n dX10_findFew_31 rfl ?_
          refine xw_aload_n dX10_findFew_32 rfl ?_
          refine xw_getfield dX10_findFew_33 fl_X10_285 hG2.2.1 rfl ?_
          refine xw_topi (sz : Int) hK2.1 ?_
          refine xw_icmpge (tgt := 88) dX10_findFew_36 (by decide) (by first | assumption | (unfold inI; omega) | (unfold inI at *; omega)) (by first | assumption | (unfold inI; omega) | (unfold inI at *; omega)) (fun c_36 => ?_) (fun c_36 => ?_)
          · skip
            refine xw_aload_n dX10_findFew_88 rfl ?_
            refine xw_getfield dX10_findFew_89 fl_X10_313 hG2.2.1 rfl ?_
            refine xw_topi ((cnt (ks k) sz : Nat) : Int) n56 ?_
            refine xw_bipush (z := 12) dX10_findFew_92 (by decide) ?_
            refine xw_icmple (tgt := 99) dX10_findFew_94 (by decide) (by first | assumption | (unfold inI; omega) | (unfold inI at *; omega)) (by first | assumption | (unfold inI; omega) | (unfold inI at *; omega)) (fun c_94 => ?_) (fun c_94 => ?_)
            · skip
              exact xw_ls [(0, vR 38), (1, vI (k : Int))] ⟨rfl, rfl, trivial⟩ (KN k hkc w P L c0 F2 m2 (hpc (ks k) sz) (cnt (ks k) sz) rfl rfl (by omega) hG2 hK2 n57 n58 hL fw2 hP hPk hw0 hwk n56 ⟨ik, h75, hik⟩ (fun P2 L2 c2 F3 m3 a1 a2 a3 a4 a5 a6 a7 a8 a9 a10 a11 => ih (k + 1) (w + kwo av wo sz (ks k)) P2 L2 c2 F3 m3 (by omega) (by rw [← hr, if_neg (by omega), a9]) a1 a2 a3 a4 a5 a6 a7 a8 a10 a11))
            · skip
              refine xw_iconst dX10_findFew_97 ?_
              exact xw_zret dX10_findFew_98 rfl rfl (h0 F2 m2 hG2 (by rw [← hr, if_pos (by omega)]))
          · skip
            exfalso; omega
        | succ u ihu =>
          intro i F2 m2 ik hi hG2 hK2 n57 n58 n56 h75 hik e76
          obtain ⟨on, h70, hon9⟩ := id hK2.2.1
          obtain ⟨ko, h72, hko⟩ := id hK2.2.2.2.2
          have ni := hN.2 i (by omega)
          have ki := k1 i (by omega)
          have ci := cnt_le (ks k) i
          have cs : cnt (ks k) (i + 1) = cnt (ks k) i + (if (ks k).testBit i = true then 1 else 0) := rfl
          refine xw_iload_n dX10_findFew_31 rfl ?_
          refine xw_aload_n dX10_findFew_32 rfl ?_
          refine xw_getfield dX10_findFew_33 fl_X10_285 hG2.2.1 rfl ?_
          refine xw_topi (sz : Int) hK2.1 ?_
          refine xw_icmpge (tgt := 88) dX10_findFew_36 (by decide) (by first | assumption | (unfold inI; omega) | (unfold inI at *; omega)) (by first | assumption | (unfold inI; omega) | (unfold inI at *; omega)) (fun c_36 => ?_) (fun c_36 => ?_)
          · skip
            exfalso; omega
          · skip
            refine xw_aload_n dX10_findFew_39 rfl ?_
            refine xw_getfield dX10_findFew_40 fl_X10_118 hG2.2.1 rfl ?_
            refine xw_aload_n dX10_findFew_43 rfl ?_
            refine xw_getfield dX10_findFew_44 fl_X10_112 hG2.2.1 rfl ?_
            refine xw_iload_n dX10_findFew_47 rfl ?_
            refine xw_iald dX10_findFew_48 h70 (j := i) rfl (by omega) (by decide) ?_
            refine xw_topi (N i : Int) (hon9 i (by omega)) ?_
            refine xw_iald dX10_findFew_49 h72 (j := N i) rfl (by omega) (by decide) ?_
            refine xw_topi (kn i) (hko i (by omega)) ?_
            refine xw_iload_n dX10_findFew_50 rfl ?_
            refine xw_icmpeq (tgt := 57) dX10_findFew_51 (by decide) (by unfold inI; omega) (by unfold inI; omega) (fun c_51 => ?_) (fun c_51 => ?_)
            · skip
              have hb9 : (ks k).testBit i = true := (hbit i).2 ⟨by omega, c_51⟩
              rw [if_pos hb9] at cs
              refine xw_aload_n dX10_findFew_57 rfl ?_
              refine xw_getfield dX10_findFew_58 fl_X10_127 hG2.2.1 rfl ?_
              refine xw_aload_n dX10_findFew_61 rfl ?_
              refine xw_getfield dX10_findFew_62 fl_X10_313 hG2.2.1 rfl ?_
              refine xw_topi ((cnt (ks k) i : Nat) : Int) n56 ?_
              refine xw_aload_n dX10_findFew_65 rfl ?_
              refine xw_getfield dX10_findFew_66 fl_X10_112 hG2.2.1 rfl ?_
              refine xw_iload_n dX10_findFew_69 rfl ?_
              refine xw_iald dX10_findFew_70 h70 (j := i) rfl (by omega) (by decide) ?_
              refine xw_topi (N i : Int) (hon9 i (by omega)) ?_
              refine xw_iast dX10_findFew_71 h75 (j := cnt (ks k) i) rfl (by omega) (by decide) ?_
              refine xw_aload_n dX10_findFew_72 rfl ?_
              refine xw_dup dX10_findFew_73 rfl ?_
              refine xw_getfield dX10_findFew_74 fl_X10_313 hG2.2.1 rfl ?_
              refine xw_topi ((cnt (ks k) i : Nat) : Int) n56 ?_
              refine xw_iconst dX10_findFew_77 ?_
              refine xw_iadd dX10_findFew_78 ?_
              refine xw_topi ((cnt (ks k) (i + 1) : Nat) : Int) (by omega) ?_
              refine xw_putfield dX10_findFew_79 (fp_X10_313 _) hG2.2.1 rfl rfl ?_
              rw [xmd_56]
              refine xw_iinc dX10_findFew_82 rfl (by decide) ?_
              refine xw_goto (tgt := 31) dX10_findFew_85 (by decide) ?_
              first
                | (have z9 := hb9
                   exact xw_ls [(0, vR 38), (1, vI (k : Int)), (2, vI ((i + 1 : Nat) : Int))] ⟨rfl, rfl, rfl, trivial⟩ (ihu (i + 1) _ _ _ (by omega) (gR_38 (k := 56) (gR_up (t := 0) (N := 40) (k := 75) hG2 (by decide) (by decide) (by decide)) (by unfold grk; omega)) (kS_fr hK2 rfl rfl rfl (xui_n _ _ (by decide)) (xui_n _ _ (by decide))) ((xui_n _ _ (by decide)).trans n57) ((xui_n _ _ (by decide)).trans n58) (xui_s _ _ _) rfl (fun j hj => by
                     by_cases e : j = cnt (ks k) i
                     · rw [e, xui_s, hpc_at hb9 (by omega)]
                     · rw [xui_n _ _ e]; exact hik j (by omega)) e76))
                | exact xw_ls [(0, vR 38), (1, vI (k : Int)), (2, vI ((i + 1 : Nat) : Int))] ⟨rfl, rfl, rfl, trivial⟩ (ihu (i + 1) F2 m2 ik (by omega) hG2 hK2 n57 n58 (by rw [n56, cs, if_neg (fun z => c_51 ((hbit i).1 z).2)]; rfl) h75 (fun j hj => hik j (by rw [cs, if_neg (fun z => c_51 ((hbit i).1 z).2)] at hj; exact hj)) e76)
            · skip
              refine xw_goto (tgt := 82) dX10_findFew_54 (by decide) ?_
              refine xw_iinc dX10_findFew_82 rfl (by decide) ?_
              refine xw_goto (tgt := 31) dX10_findFew_85 (by decide) ?_
              first
                | (have z9 := hb9
                   exact xw_ls [(0, vR 38), (1, vI (k : Int)), (2, vI ((i + 1 : Nat) : Int))] ⟨rfl, rfl, rfl, trivial⟩ (ihu (i + 1) _ _ _ (by omega) (gR_38 (k := 56) (gR_up (t := 0) (N := 40) (k := 75) hG2 (by decide) (by decide) (by decide)) (by unfold grk; omega)) (kS_fr hK2 rfl rfl rfl (xui_n _ _ (by decide)) (xui_n _ _ (by decide))) ((xui_n _ _ (by decide)).trans n57) ((xui_n _ _ (by decide)).trans n58) (xui_s _ _ _) rfl (fun j hj => by
                     by_cases e : j = cnt (ks k) i
                     · rw [e, xui_s, hpc_at hb9 (by omega)]
                     · rw [xui_n _ _ e]; exact hik j (by omega)) e76))
                | exact xw_ls [(0, vR 38), (1, vI (k : Int)), (2, vI ((i + 1 : Nat) : Int))] ⟨rfl, rfl, rfl, trivial⟩ (ihu (i + 1) F2 m2 ik (by omega) hG2 hK2 n57 n58 (by rw [n56, cs, if_neg (fun z => c_51 ((hbit i).1 z).2)]; rfl) h75 (fun j hj => hik j (by rw [cs, if_neg (fun z => c_51 ((hbit i).1 z).2)] at hj; exact hj)) e76)
      obtain ⟨ik, h75⟩ := msh_at hG.2.2.2 (k := 75) (t := 0) (N := 40) (by decide)
      refine xw_iload_n dX10_findFew_16 rfl ?_
      refine xw_aload_n dX10_findFew_17 rfl ?_
      refine xw_getfield dX10_findFew_18 fl_X10_294 hG.2.1 rfl ?_
      refine xw_topi (kc : Int) m50 ?_
      refine xw_icmpge (tgt := 266) dX10_findFew_21 (by decide) (by first | assumption | (unfold inI; omega) | (unfold inI at *; omega)) (by first | assumption | (unfold inI; omega) | (unfold inI at *; omega)) (fun c_21 => ?_) (fun c_21 => ?_)
      · skip
        exfalso; omega
      · skip
        refine xw_aload_n dX10_findFew_24 rfl ?_
        refine xw_iconst dX10_findFew_25 ?_
        refine xw_putfield dX10_findFew_26 (fp_X10_313 _) hG.2.1 rfl rfl ?_
        rw [xmd_56]
        refine xw_iconst dX10_findFew_29 ?_
        refine xw_istore_n dX10_findFew_30 (by decide) ?_
        exact xw_ls [(0, vR 38), (1, vI (k : Int)), (2, vI ((0 : Nat) : Int))] ⟨rfl, rfl, rfl, trivial⟩ (A sz 0 _ _ ik (by omega) (gR_38 (k := 56) hG (by unfold grk; omega)) (kS_fr hK rfl rfl rfl (xui_n _ _ (by decide)) (xui_n _ _ (by decide))) ((xui_n _ _ (by decide)).trans m57) ((xui_n _ _ (by decide)).trans m58) (xui_s _ _ _) h75 (fun j hj => absurd hj (Nat.not_lt_zero _)) rfl)
  refine xw_aload_n dX10_findFew_0 rfl ?_
  refine xw_callV (rc := 0) (rs := 0) (mc2 := 0) (ms2 := 0) (a := 38) (As := []) (st := []) dX10_findFew_1 mv_X10_297 h.1 rfl rfl (by decide) (by decide) (Nat.le_of_ble_eq_true rfl) rfl (mct_findKnots h hsh hN h40 hav (fun F1 m1 hG m49 hon hb m50 hkn hle => ?_))
  obtain ⟨fa, h76⟩ := msh_at hG.2.2.2 (k := 76) (t := 0) (N := 40) (by decide)
  refine xw_aload_n dX10_findFew_4 rfl ?_
  refine xw_iconst dX10_findFew_5 ?_
  refine xw_putfield dX10_findFew_6 (fp_X10_316 _) hG.2.1 rfl rfl ?_
  rw [xmd_57]
  refine xw_aload_n dX10_findFew_9 rfl ?_
  refine xw_iconst dX10_findFew_10 ?_
  refine xw_putfield dX10_findFew_11 (fp_X10_319 _) rfl rfl rfl ?_
  rw [xmd_58]
  refine xw_iconst dX10_findFew_14 ?_
  refine xw_istore_n dX10_findFew_15 (by decide) ?_
  exact xw_ls [(0, vR 38), (1, vI ((0 : Nat) : Int))] ⟨rfl, rfl, trivial⟩ (main kc 0 0 0 (fun _ => 0) 0 _ _ (by omega) hRM.symm (gR_38 (k := 58) (gR_38 (k := 57) hG (by unfold grk; omega)) (by unfold grk; omega)) (kS_fr (B := B) (kn := kn) (kc := kc) ⟨m49, hon, by rw [hB]; exact hb, by rw [ekc]; exact m50, by rw [ekn]; exact hkn⟩ rfl rfl rfl ((xui_n _ _ (by decide)).trans (xui_n _ _ (by decide))) ((xui_n _ _ (by decide)).trans (xui_n _ _ (by decide)))) ((xui_n _ _ (by decide)).trans (xui_s _ _ _)) (xui_s _ _ _) ⟨fun a b _ hb9 => absurd hb9 (Nat.not_lt_zero _), fun a ha => absurd ha (Nat.not_lt_zero _)⟩ ⟨fa, h76, fun c hc9 => absurd hc9 (Nat.not_lt_zero _)⟩ (fun q => ⟨fun x => (by rw [Nat.zero_testBit] at x; cases x), fun ⟨c, hc9, _⟩ => absurd hc9 (Nat.not_lt_zero _)⟩) (fun q x => by rw [Nat.zero_testBit] at x; cases x) (Int.le_refl 0) (by omega))
end C9i
