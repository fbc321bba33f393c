/-! a pair of sticks is looked at -/
def seB (d : Nat → Int) (X : xSt) (i : Nat) (Y : xSt) (j : Nat) : Prop := sb d (dv (ptS X) i) (dv (ptS Y) j) (gv (ptS X) i (ptS Y) j) (wide d)
def seV (d : Nat → Int) (X : xSt) (i : Nat) (Y : xSt) (j : Nat) : ofS := sv d (dv (ptS X) i) (dv (ptS Y) j) (gv (ptS X) i (ptS Y) j) (wide d)
def pUp (d : Nat → Int) (X Y : xSt) : Prop := ∃ i j, i < pcS X ∧ j < pcS Y ∧ seB d X i Y j ∧ 0 < (seV d X i Y j).2.2.2.1
def pDn (d : Nat → Int) (X Y : xSt) : Prop := ∃ i j, i < pcS X ∧ j < pcS Y ∧ seB d X i Y j ∧ ¬ 0 < (seV d X i Y j).2.2.2.1
def vUp (d : Nat → Int) (X Y : xSt) (i j : Nat) : Prop := ∃ i' j', (i' < i ∨ (i' = i ∧ j' < j)) ∧ i' < pcS X ∧ j' < pcS Y ∧ seB d X i' Y j' ∧ 0 < (seV d X i' Y j').2.2.2.1
def vDn (d : Nat → Int) (X Y : xSt) (i j : Nat) : Prop := ∃ i' j', (i' < i ∨ (i' = i ∧ j' < j)) ∧ i' < pcS X ∧ j' < pcS Y ∧ seB d X i' Y j' ∧ ¬ 0 < (seV d X i' Y j').2.2.2.1
def inc (av av1 : Nat → Nat) (a b : Nat) (U D : Prop) : Prop := ∀ p q, (av1 p).testBit q = true ↔ ((av p).testBit q = true ∨ (p = a ∧ q = b ∧ U) ∨ (p = b ∧ q = a ∧ D))
theorem or_bit (x b q : Nat) : (x ||| 2 ^ b).testBit q = true ↔ (x.testBit q = true ∨ q = b) := by
  rw [Nat.testBit_or, Nat.testBit_two_pow, Bool.or_eq_true, decide_eq_true_iff]
  exact ⟨fun h => h.imp id Eq.symm, fun h => h.imp id Eq.symm⟩
theorem inc_rf (av : Nat → Nat) (a b : Nat) {U D : Prop} (hU : ¬ U) (hD : ¬ D) : inc av av a b U D := fun _ _ => ⟨Or.inl, fun h => h.elim id (fun h => h.elim (fun k => absurd k.2.2 hU) (fun k => absurd k.2.2 hD))⟩
theorem inc_cg {av av1 : Nat → Nat} {a b : Nat} {U D U' D' : Prop} (h : inc av av1 a b U D) (hU : U ↔ U') (hD : D ↔ D') : inc av av1 a b U' D' := fun p q => by rw [h p q, hU, hD]
theorem inc_U {av av1 : Nat → Nat} {a b : Nat} {U D U' : Prop} (h : inc av av1 a b U D) (hab : a ≠ b) (hU : U') : inc av (xui av1 a (av1 a ||| 2 ^ b)) a b U' D := by
  intro p q
  by_cases e : p = a
  · subst e
    rw [xui_s, or_bit, h p q]
    constructor
    · rintro ((h1 | h1 | h1) | h1)
      · exact Or.inl h1
      · exact Or.inr (Or.inl ⟨rfl, h1.2.1, hU⟩)
      · exact absurd h1.1 hab
      · exact Or.inr (Or.inl ⟨rfl, h1, hU⟩)
    · rintro (h1 | h1 | h1)
      · exact Or.inl (Or.inl h1)
      · exact Or.inr h1.2.1
      · exact absurd h1.1 hab
  · rw [xui_n _ _ e, h p q]
    constructor
    · rintro (h1 | h1 | h1)
      · exact Or.inl h1
      · exact absurd h1.1 e
      · exact Or.inr (Or.inr h1)
    · rintro (h1 | h1 | h1)
      · exact Or.inl h1
      · exact absurd h1.1 e
      · exact Or.inr (Or.inr h1)
theorem inc_sw {av av1 : Nat → Nat} {a b : Nat} {U D : Prop} (h : inc av av1 a b U D) : inc av av1 b a D U := fun p q => by rw [h p q]; exact ⟨fun h => h.imp id Or.symm, fun h => h.imp id Or.symm⟩
theorem inc_D {av av1 : Nat → Nat} {a b : Nat} {U D D' : Prop} (h : inc av av1 a b U D) (hab : a ≠ b) (hD : D') : inc av (xui av1 b (av1 b ||| 2 ^ a)) a b U D' := inc_sw (inc_U (inc_sw h) (Ne.symm hab) hD)
theorem vUp_s {d : Nat → Int} {X Y : xSt} {i j : Nat} (hi : i < pcS X) (hj : j < pcS Y) : vUp d X Y i (j + 1) ↔ (vUp d X Y i j ∨ (seB d X i Y j ∧ 0 < (seV d X i Y j).2.2.2.1)) := by
  constructor
  · rintro ⟨i', j', h1, h2, h3, h4, h5⟩
    by_cases e : i' = i ∧ j' = j
    · obtain ⟨rfl, rfl⟩ := e; exact Or.inr ⟨h4, h5⟩
    · exact Or.inl ⟨i', j', by omega, h2, h3, h4, h5⟩
  · rintro (⟨i', j', h1, h2, h3, h4, h5⟩ | ⟨h4, h5⟩)
    · exact ⟨i', j', by omega, h2, h3, h4, h5⟩
    · exact ⟨i, j, by omega, hi, hj, h4, h5⟩
theorem vDn_s {d : Nat → Int} {X Y : xSt} {i j : Nat} (hi : i < pcS X) (hj : j < pcS Y) : vDn d X Y i (j + 1) ↔ (vDn d X Y i j ∨ (seB d X i Y j ∧ ¬ 0 < (seV d X i Y j).2.2.2.1)) := by
  constructor
  · rintro ⟨i', j', h1, h2, h3, h4, h5⟩
    by_cases e : i' = i ∧ j' = j
    · obtain ⟨rfl, rfl⟩ := e; exact Or.inr ⟨h4, h5⟩
    · exact Or.inl ⟨i', j', by omega, h2, h3, h4, h5⟩
  · rintro (⟨i', j', h1, h2, h3, h4, h5⟩ | ⟨h4, h5⟩)
    · exact ⟨i', j', by omega, h2, h3, h4, h5⟩
    · exact ⟨i, j, by omega, hi, hj, h4, h5⟩
theorem vUp_n {d : Nat → Int} {X Y : xSt} {i j : Nat} (hj : pcS Y ≤ j) : vUp d X Y i j ↔ vUp d X Y (i + 1) 0 := by
  constructor
  · rintro ⟨i', j', h1, h2⟩; exact ⟨i', j', by omega, h2⟩
  · rintro ⟨i', j', h1, h2, h3, h4⟩; exact ⟨i', j', by omega, h2, h3, h4⟩
theorem vDn_n {d : Nat → Int} {X Y : xSt} {i j : Nat} (hj : pcS Y ≤ j) : vDn d X Y i j ↔ vDn d X Y (i + 1) 0 := by
  constructor
  · rintro ⟨i', j', h1, h2⟩; exact ⟨i', j', by omega, h2⟩
  · rintro ⟨i', j', h1, h2, h3, h4⟩; exact ⟨i', j', by omega, h2, h3, h4⟩
theorem vUp_e {d : Nat → Int} {X Y : xSt} {i : Nat} (hi : pcS X ≤ i) : vUp d X Y i 0 ↔ pUp d X Y := by
  constructor
  · rintro ⟨i', j', h1, h2⟩; exact ⟨i', j', h2⟩
  · rintro ⟨i', j', h2⟩; exact ⟨i', j', by omega, h2⟩
theorem vDn_e {d : Nat → Int} {X Y : xSt} {i : Nat} (hi : pcS X ≤ i) : vDn d X Y i 0 ↔ pDn d X Y := by
  constructor
  · rintro ⟨i', j', h1, h2⟩; exact ⟨i', j', h2⟩
  · rintro ⟨i', j', h2⟩; exact ⟨i', j', by omega, h2⟩
theorem sgt_see {f f1 : xH} {d : Nat → Int} {s' : ofS} (h : sgt f d) (hi : inL s'.2.2.2.1) (hf : scr (xup f 3 (oSs (wide d : Int) s')) f1) : sgt f1 d ∧ f1 3 = some (oSs (wide d : Int) s') ∧ ∀ k, k ≠ 3 → (k < 5 ∨ 11 < k) → f1 k = f k := by
  obtain ⟨s, h3, h4, h5, h6, h7, h8⟩ := h
  have e3 : f1 3 = some (oSs (wide d : Int) s') := (hf.1 3 (by omega)).trans (xup_s _ _ _)
  refine ⟨⟨s', e3, (hf.1 4 (by omega)).trans ((xup_n _ _ (by decide)).trans h4), hf.2, hi, h7, h8⟩, e3, fun k k3 hk => (hf.1 k hk).trans (xup_n _ _ k3)⟩
theorem sgt_o {f : xH} {d : Nat → Int} {k : Nat} {e : xE} (h : sgt f d) (hk : 11 < k) : sgt (xup f k e) d := by
  obtain ⟨s, h3, h4, h5, h6, h7, h8⟩ := h
  exact ⟨s, (xup_n _ _ (by omega)).trans h3, (xup_n _ _ (by omega)).trans h4, fun j j1 j2 => by rw [xup_n _ _ (by omega)]; exact h5 j j1 j2, h6, h7, h8⟩
theorem sgt_o2 {f : xH} {d : Nat → Int} {e e1 : xE} (h : sgt f d) : sgt (xup (xup f 25 e) 26 e1) d := sgt_o (sgt_o h (by decide)) (by decide)
theorem xui_b {av bv : Nat → Nat} {a b : Nat} (h : ∀ j, j < 40 → av j < 2 ^ 40 ∧ bv j < 2 ^ 40) (p40 : ∀ {x q : Nat}, x < 2 ^ 40 → q < 40 → x ||| 2 ^ q < 2 ^ 40) (ha : a < 40) (hb : b < 40) : ∀ j, j < 40 → xui av a (av a ||| 2 ^ b) j < 2 ^ 40 ∧ xui bv b (bv b ||| 2 ^ a) j < 2 ^ 40 := by
  intro j hj
  unfold xui
  constructor
  · split
    · exact p40 (h a ha).1 hb
    · exact (h j hj).1
  · split
    · exact p40 (h b hb).2 ha
    · exact (h j hj).2
theorem xui_b2 {av bv : Nat → Nat} {a b : Nat} (h : ∀ j, j < 40 → av j < 2 ^ 40 ∧ bv j < 2 ^ 40) (p40 : ∀ {x q : Nat}, x < 2 ^ 40 → q < 40 → x ||| 2 ^ q < 2 ^ 40) (ha : a < 40) (hb : b < 40) : ∀ j, j < 40 → xui av b (av b ||| 2 ^ a) j < 2 ^ 40 ∧ xui bv a (bv a ||| 2 ^ b) j < 2 ^ 40 := by
  intro j hj
  unfold xui
  constructor
  · split
    · exact p40 (h b hb).1 ha
    · exact (h j hj).1
  · split
    · exact p40 (h a ha).2 hb
    · exact (h j hj).2
abbrev prS : List Nat := [3, 5, 6, 7, 8, 9, 10, 11, 25, 26]
theorem in_pr {k : Nat} (h : k = 3 ∨ (5 ≤ k ∧ k ≤ 11) ∨ k = 25 ∨ k = 26) : k ∈ prS := by
  simp only [prS, List.mem_cons, List.not_mem_nil, or_false]; omega
theorem pr_in {k : Nat} (h : k ∈ prS) : k = 3 ∨ (5 ≤ k ∧ k ≤ 11) ∨ k = 25 ∨ k = 26 := by
  simp only [prS, List.mem_cons, List.not_mem_nil, or_false] at h; omega
section C61
variable {g : xG} {y : xM} {Q : xP} {n : Nat} {f : xH}
set_option maxHeartbeats 8000000 in
theorem ct_lookAtPair {bn on tk rk pu ls kc : Int} {gn sz a b na nb9 : Nat} {so : Nat → Nat} {σ : Nat → xSt} {d : Nat → Int} {c : Nat → Int} {av bv : Nat → Nat} (h0 : f 0 = some (oTb bn gn on tk rk pu)) (hs : stk f gn so σ) (hg : sgt f d) (h22 : f 22 = some (oTg sz ls kc)) (h23 : f 23 = some (aI 40 c)) (h25 : f 25 = some (aS 40 av)) (h26 : f 26 = some (aS 40 bv)) (hsz : sz ≤ 40) (ha : a < sz) (hb : b < sz) (hab : a ≠ b) (hna : c a = (na : Int)) (hnb : c b = (nb9 : Int)) (ga : na < gn) (gb : nb9 < gn) (hav : ∀ j, j < 40 → av j < 2 ^ 40 ∧ bv j < 2 ^ 40)
    (hq : ∀ f1 av1 bv1, fr prS f f1 → sgt f1 d → f1 25 = some (aS 40 av1) → f1 26 = some (aS 40 bv1) → (∀ j, j < 40 → av1 j < 2 ^ 40 ∧ bv1 j < 2 ^ 40) → inc av av1 a b (pUp d (σ na) (σ nb9)) (pDn d (σ na) (σ nb9)) → inc bv bv1 b a (pUp d (σ na) (σ nb9)) (pDn d (σ na) (σ nb9)) → Q (.inl none) n f1) : xct g M_X9_lookAtPair 0 0 [vR 0, vI (a : Int), vI (b : Int)] n f Q := by
  refine xct_of rfl rfl (Nat.le_of_ble_eq_true rfl) ?_
  have hgn := hs.2.1
  have B62 : ∀ {x : Nat}, x < 2 ^ 40 → x < 2 ^ 62 := fun h => Nat.lt_of_lt_of_le h (xp2 (by decide))
  have kA := hs.2.2.1 na ga
  have kB := hs.2.2.1 nb9 gb
  obtain ⟨X, hX⟩ : ∃ X, X = σ na := ⟨_, rfl⟩
  obtain ⟨Y, hY⟩ : ∃ Y, Y = σ nb9 := ⟨_, rfl⟩
  obtain ⟨oa, hoa⟩ : ∃ oa, oa = so na := ⟨_, rfl⟩
  obtain ⟨ob, hob⟩ : ∃ ob, ob = so nb9 := ⟨_, rfl⟩
  rw [← hX, ← hoa] at kA
  rw [← hY, ← hob] at kB
  rw [← hX, ← hY] at hq
  have pX := pcS_2 X
  have pY := pcS_2 Y
  have p40 : ∀ {x q : Nat}, x < 2 ^ 40 → q < 40 → x ||| 2 ^ q < 2 ^ 40 := fun h1 h2 => Nat.or_lt_two_pow h1 (Nat.pow_lt_pow_right (by decide) h2)
  have J : ∀ (i : Nat), i < pcS X → (∀ f2 av2 bv2, fr prS f f2 → sgt f2 d → f2 25 = some (aS 40 av2) → f2 26 = some (aS 40 bv2) → (∀ j, j < 40 → av2 j < 2 ^ 40 ∧ bv2 j < 2 ^ 40) → inc av av2 a b (vUp d X Y (i + 1) 0) (vDn d X Y (i + 1) 0) → inc bv bv2 b a (vUp d X Y (i + 1) 0) (vDn d X Y (i + 1) 0) → xw g M_X9_lookAtPair Q 0 0 137 [(0, vR 0), (1, vI (a : Int)), (2, vI (b : Int)), (5, vR oa), (6, vR ob), (7, vI (i : Int))] [] n f2) →
      ∀ (m j : Nat) (f1 : xH) (av1 bv1 : Nat → Nat), j + m = pcS Y → fr prS f f1 → sgt f1 d → f1 25 = some (aS 40 av1) → f1 26 = some (aS 40 bv1) → (∀ j, j < 40 → av1 j < 2 ^ 40 ∧ bv1 j < 2 ^ 40) → inc av av1 a b (vUp d X Y i j) (vDn d X Y i j) → inc bv bv1 b a (vUp d X Y i j) (vDn d X Y i j) → xw g M_X9_lookAtPair Q 0 0 70 [(0, vR 0), (1, vI (a : Int)), (2, vI (b : Int)), (5, vR oa), (6, vR ob), (7, vI (i : Int)), (8, vI (j : Int))] [] n f1 := by
    intro i hi K m
    induction m with
    | zero =>
      intro j f1 av1 bv1 hm hf hg1 e25 e26 hb1 ia ib
      have eb : f1 ob = some (oSk Y (ob + 1)) := fr_at hf kB.2.1 (fun q => by have := pr_in q; omega)
      refine xw_iload dX9_lookAtPair_70 rfl ?_
      refine xw_aload dX9_lookAtPair_72 rfl ?_
      refine xw_getfield dX9_lookAtPair_74 fl_X9_214 eb rfl ?_
      refine xw_icmpge (tgt := 137) dX9_lookAtPair_77 (by decide) (by first | assumption | (unfold inI; omega) | (unfold inI at *; omega)) (by first | assumption | (unfold inI; omega) | (unfold inI at *; omega)) (fun c_77 => ?_) (fun c_77 => ?_)
      · skip
        exact xw_ls [(0, vR 0), (1, vI (a : Int)), (2, vI (b : Int)), (5, vR oa), (6, vR ob), (7, vI (i : Int))] ⟨rfl, rfl, rfl, rfl, rfl, rfl, trivial⟩ (K f1 av1 bv1 hf hg1 e25 e26 hb1 (inc_cg ia (vUp_n (by omega)) (vDn_n (by omega))) (inc_cg ib (vUp_n (by omega)) (vDn_n (by omega))))
      · skip
        exfalso; omega
    | succ m ih =>
      intro j f1 av1 bv1 hm hf hg1 e25 e26 hb1 ia ib
      have hj : j < pcS Y := by omega
      have hi2 : i < 2 := by have := pcS_2 X; omega
      have hj2 : j < 2 := by have := pcS_2 Y; omega
      have e0 : f1 0 = some (oTb bn gn on tk rk pu) := fr_at hf h0 (fun q => by have := pr_in q; omega)
      have e22 : f1 22 = some (oTg sz ls kc) := fr_at hf h22 (fun q => by have := pr_in q; omega)
      have ea : f1 oa = some (oSk X (oa + 1)) := fr_at hf kA.2.1 (fun q => by have := pr_in q; omega)
      have eap : f1 (oa + 1) = some (aI 9 (ptS X)) := fr_at hf kA.2.2.1 (fun q => by have := pr_in q; omega)
      have eb : f1 ob = some (oSk Y (ob + 1)) := fr_at hf kB.2.1 (fun q => by have := pr_in q; omega)
      have ebp : f1 (ob + 1) = some (aI 9 (ptS Y)) := fr_at hf kB.2.2.1 (fun q => by have := pr_in q; omega)
      obtain ⟨sg, e3, e4, e5, e6, e7, e8⟩ := id hg1
      have N : ∀ f2 av2 bv2, fr prS f f2 → sgt f2 d → f2 25 = some (aS 40 av2) → f2 26 = some (aS 40 bv2) → (∀ j, j < 40 → av2 j < 2 ^ 40 ∧ bv2 j < 2 ^ 40) → inc av av2 a b (vUp d X Y i (j + 1)) (vDn d X Y i (j + 1)) → inc bv bv2 b a (vUp d X Y i (j + 1)) (vDn d X Y i (j + 1)) → xw g M_X9_lookAtPair Q 0 0 131 [(0, vR 0), (1, vI (a : Int)), (2, vI (b : Int)), (5, vR oa), (6, vR ob), (7, vI (i : Int)), (8, vI (j : Int))] [] n f2 := by
        intro f2 av2 bv2 k1 k2 k3 k4 k5 k6 k7
        refine xw_iinc dX9_lookAtPair_131 rfl (by decide) ?_
        refine xw_goto (tgt := 70) dX9_lookAtPair_134 (by decide) ?_
        exact xw_ls [(0, vR 0), (1, vI (a : Int)), (2, vI (b : Int)), (5, vR oa), (6, vR ob), (7, vI (i : Int)), (8, vI ((j + 1 : Nat) : Int))] ⟨rfl, rfl, rfl, rfl, rfl, rfl, rfl, trivial⟩ (ih (j + 1) f2 av2 bv2 (by omega) k1 k2 k3 k4 k5 k6 k7)
      refine xw_iload dX9_lookAtPair_70 rfl ?_
      refine xw_aload dX9_lookAtPair_72 rfl ?_
      refine xw_getfield dX9_lookAtPair_74 fl_X9_214 eb rfl ?_
      refine xw_icmpge (tgt := 137) dX9_lookAtPair_77 (by decide) (by first | assumption | (unfold inI; omega) | (unfold inI at *; omega)) (by first | assumption | (unfold inI; omega) | (unfold inI at *; omega)) (fun c_77 => ?_) (fun c_77 => ?_)
      · skip
        exfalso; omega
      · skip
        refine xw_aload_n dX9_lookAtPair_80 rfl ?_
        refine xw_getfield dX9_lookAtPair_81 fl_X9_24 e0 rfl ?_
        refine xw_aload dX9_lookAtPair_84 rfl ?_
        refine xw_iload dX9_lookAtPair_86 rfl ?_
        refine xw_aload dX9_lookAtPair_88 rfl ?_
        refine xw_iload dX9_lookAtPair_90 rfl ?_
        refine xw_callV (rc := 0) (rs := 0) (mc2 := 0) (ms2 := 0) (a := 3) (As := [vR oa, vI (i : Int), vR ob, vI (j : Int)]) (st := []) dX9_lookAtPair_92 mv_X9_364 e3 rfl rfl (by decide) (by decide) (Nat.le_of_ble_eq_true rfl) rfl (ct_sees e3 e4 e5 ea eap eb ebp (by omega) (by omega) (by omega) (by omega) hi2 hj2 kA.2.2.2.2.2.2.2 kB.2.2.2.2.2.2.2 (wide_ne e8).1 e6 e7 (fun s' f2 hsee hin hsc => ?_) (fun s' f2 hsee hin hsc => ?_))
        · skip
          refine xw_ifeq (tgt := 131) dX9_lookAtPair_95 (by decide) (by unfold inI; omega) (fun c => absurd c (by decide)) (fun _ => ?_)
          obtain ⟨g2, g3, g4⟩ := sgt_see hg1 hin hsc
          obtain ⟨hsb, hsv⟩ := seeR_1 hsee
          have hh : s'.2.2.2.1 = (seV d X i Y j).2.2.2.1 := congrArg (fun t => t.2.2.1) hsv
          have i0 : f2 0 = some (oTb bn gn on tk rk pu) := (g4 0 (by omega) (by omega)).trans e0
          have i22 : f2 22 = some (oTg sz ls kc) := (g4 22 (by omega) (by omega)).trans e22
          have i25 : f2 25 = some (aS 40 av1) := (g4 25 (by omega) (by omega)).trans e25
          have i26 : f2 26 = some (aS 40 bv1) := (g4 26 (by omega) (by omega)).trans e26
          have hf2 : fr prS f f2 := fun k hk => (g4 k (fun q => hk (in_pr (by omega))) (by have : ¬ (5 ≤ k ∧ k ≤ 11) := fun q => hk (in_pr (by omega)); omega)).trans (hf k hk)
          refine xw_aload_n dX9_lookAtPair_98 rfl ?_
          refine xw_getfield dX9_lookAtPair_99 fl_X9_24 i0 rfl ?_
          refine xw_getfield dX9_lookAtPair_102 fl_X9_368 g3 rfl ?_
          refine xw_lconst (z := 0) dX9_lookAtPair_105 (by decide) ?_
          refine xw_lcmple (tgt := 122) dX9_lookAtPair_106 dX9_lookAtPair_107 (by decide) hin (by unfold inL; omega) (fun c_106 => ?_) (fun c_106 => ?_)
          · skip
            refine xw_aload_n dX9_lookAtPair_122 rfl ?_
            refine xw_getfield dX9_lookAtPair_123 fl_X9_52 i0 rfl ?_
            refine xw_iload_n dX9_lookAtPair_126 rfl ?_
            refine xw_iload_n dX9_lookAtPair_127 rfl ?_
            refine xw_callV (rc := 0) (rs := 0) (mc2 := 0) (ms2 := 0) (a := 22) (As := [vI (a : Int), vI (b : Int)]) (st := []) dX9_lookAtPair_128 mv_X9_369 i22 rfl rfl (by decide) (by decide) (Nat.le_of_ble_eq_true rfl) rfl (ct_setAbove i22 i25 i26 hsz ha hb (B62 (hb1 b (by omega)).1) (B62 (hb1 a (by omega)).2) ?_)
            first
              | exact xw_ls [(0, vR 0), (1, vI (a : Int)), (2, vI (b : Int)), (5, vR oa), (6, vR ob), (7, vI (i : Int)), (8, vI (j : Int))] ⟨rfl, rfl, rfl, rfl, rfl, rfl, rfl, trivial⟩ (N f2 av1 bv1 (fr_tr hf (fun k hk => (sgt_see hg1 hin hsc).2.2 k (fun q => hk (in_pr (by omega))) (by have : ¬ (5 ≤ k ∧ k ≤ 11) := fun q => hk (in_pr (by omega)); omega))) (sgt_see hg1 hin hsc).1 (((sgt_see hg1 hin hsc).2.2 25 (by omega) (by omega)).trans e25) (((sgt_see hg1 hin hsc).2.2 26 (by omega) (by omega)).trans e26) hb1 (inc_cg ia (by rw [vUp_s hi hj]; exact ⟨Or.inl, fun q => q.elim id (fun q => absurd q.1 (seeR_0 hsee))⟩) (by rw [vDn_s hi hj]; exact ⟨Or.inl, fun q => q.elim id (fun q => absurd q.1 (seeR_0 hsee))⟩)) (inc_cg ib (by rw [vUp_s hi hj]; exact ⟨Or.inl, fun q => q.elim id (fun q => absurd q.1 (seeR_0 hsee))⟩) (by rw [vDn_s hi hj]; exact ⟨Or.inl, fun q => q.elim id (fun q => absurd q.1 (seeR_0 hsee))⟩)))
              | exact xw_ls [(0, vR 0), (1, vI (a : Int)), (2, vI (b : Int)), (5, vR oa), (6, vR ob), (7, vI (i : Int)), (8, vI (j : Int))] ⟨rfl, rfl, rfl, rfl, rfl, rfl, rfl, trivial⟩ (N _ (xui av1 a (av1 a ||| 2 ^ b)) (xui bv1 b (bv1 b ||| 2 ^ a)) (fr_up (fr_up hf2 (in_pr (by omega))) (in_pr (by omega))) (sgt_o2 g2) rfl rfl (xui_b hb1 p40 (by omega) (by omega)) (inc_cg (inc_U ia hab (Or.inr ⟨hsb, by rw [← hh]; omega⟩)) (vUp_s hi hj).symm (by rw [vDn_s hi hj]; exact ⟨Or.inl, fun q => q.elim id (fun q => absurd (by rw [← hh]; omega) q.2)⟩)) (inc_cg (inc_U ib (Ne.symm hab) (Or.inr ⟨hsb, by rw [← hh]; omega⟩)) (vUp_s hi hj).symm (by rw [vDn_s hi hj]; exact ⟨Or.inl, fun q => q.elim id (fun q => absurd (by rw [← hh]; omega) q.2)⟩)))
              | exact xw_ls [(0, vR 0), (1, vI (a : Int)), (2, vI (b : Int)), (5, vR oa), (6, vR ob), (7, vI (i : Int)), (8, vI (j : Int))] ⟨rfl, rfl, rfl, rfl, rfl, rfl, rfl, trivial⟩ (N _ (xui av1 b (av1 b ||| 2 ^ a)) (xui bv1 a (bv1 a ||| 2 ^ b)) (fr_up (fr_up hf2 (in_pr (by omega))) (in_pr (by omega))) (sgt_o2 g2) rfl rfl (xui_b2 hb1 p40 (by omega) (by omega)) (inc_cg (inc_D ia hab (Or.inr ⟨hsb, by rw [← hh]; omega⟩)) (by rw [vUp_s hi hj]; exact ⟨Or.inl, fun q => q.elim id (fun q => absurd q.2 (by rw [← hh]; omega))⟩) (vDn_s hi hj).symm) (inc_cg (inc_D ib (Ne.symm hab) (Or.inr ⟨hsb, by rw [← hh]; omega⟩)) (by rw [vUp_s hi hj]; exact ⟨Or.inl, fun q => q.elim id (fun q => absurd q.2 (by rw [← hh]; omega))⟩) (vDn_s hi hj).symm))
          · skip
            refine xw_aload_n dX9_lookAtPair_110 rfl ?_
            refine xw_getfield dX9_lookAtPair_111 fl_X9_52 i0 rfl ?_
            refine xw_iload_n dX9_lookAtPair_114 rfl ?_
            refine xw_iload_n dX9_lookAtPair_115 rfl ?_
            refine xw_callV (rc := 0) (rs := 0) (mc2 := 0) (ms2 := 0) (a := 22) (As := [vI (b : Int), vI (a : Int)]) (st := []) dX9_lookAtPair_116 mv_X9_369 i22 rfl rfl (by decide) (by decide) (Nat.le_of_ble_eq_true rfl) rfl (ct_setAbove i22 i25 i26 hsz hb ha (B62 (hb1 a (by omega)).1) (B62 (hb1 b (by omega)).2) ?_)
            refine xw_goto (tgt := 131) dX9_lookAtPair_119 (by decide) ?_
            first
              | exact xw_ls [(0, vR 0), (1, vI (a : Int)), (2, vI (b : Int)), (5, vR oa), (6, vR ob), (7, vI (i : Int)), (8, vI (j : Int))] ⟨rfl, rfl, rfl, rfl, rfl, rfl, rfl, trivial⟩ (N f2 av1 bv1 (fr_tr hf (fun k hk => (sgt_see hg1 hin hsc).2.2 k (fun q => hk (in_pr (by omega))) (by have : ¬ (5 ≤ k ∧ k ≤ 11) := fun q => hk (in_pr (by omega)); omega))) (sgt_see hg1 hin hsc).1 (((sgt_see hg1 hin hsc).2.2 25 (by omega) (by omega)).trans e25) (((sgt_see hg1 hin hsc).2.2 26 (by omega) (by omega)).trans e26) hb1 (inc_cg ia (by rw [vUp_s hi hj]; exact ⟨Or.inl, fun q => q.elim id (fun q => absurd q.1 (seeR_0 hsee))⟩) (by rw [vDn_s hi hj]; exact ⟨Or.inl, fun q => q.elim id (fun q => absurd q.1 (seeR_0 hsee))⟩)) (inc_cg ib (by rw [vUp_s hi hj]; exact ⟨Or.inl, fun q => q.elim id (fun q => absurd q.1 (seeR_0 hsee))⟩) (by rw [vDn_s hi hj]; exact ⟨Or.inl, fun q => q.elim id (fun q => absurd q.1 (seeR_0 hsee))⟩)))
              | exact xw_ls [(0, vR 0), (1, vI (a : Int)), (2, vI (b : Int)), (5, vR oa), (6, vR ob), (7, vI (i : Int)), (8, vI (j : Int))] ⟨rfl, rfl, rfl, rfl, rfl, rfl, rfl, trivial⟩ (N _ (xui av1 a (av1 a ||| 2 ^ b)) (xui bv1 b (bv1 b ||| 2 ^ a)) (fr_up (fr_up hf2 (in_pr (by omega))) (in_pr (by omega))) (sgt_o2 g2) rfl rfl (xui_b hb1 p40 (by omega) (by omega)) (inc_cg (inc_U ia hab (Or.inr ⟨hsb, by rw [← hh]; omega⟩)) (vUp_s hi hj).symm (by rw [vDn_s hi hj]; exact ⟨Or.inl, fun q => q.elim id (fun q => absurd (by rw [← hh]; omega) q.2)⟩)) (inc_cg (inc_U ib (Ne.symm hab) (Or.inr ⟨hsb, by rw [← hh]; omega⟩)) (vUp_s hi hj).symm (by rw [vDn_s hi hj]; exact ⟨Or.inl, fun q => q.elim id (fun q => absurd (by rw [← hh]; omega) q.2)⟩)))
              | exact xw_ls [(0, vR 0), (1, vI (a : Int)), (2, vI (b : Int)), (5, vR oa), (6, vR ob), (7, vI (i : Int)), (8, vI (j : Int))] ⟨rfl, rfl, rfl, rfl, rfl, rfl, rfl, trivial⟩ (N _ (xui av1 b (av1 b ||| 2 ^ a)) (xui bv1 a (bv1 a ||| 2 ^ b)) (fr_up (fr_up hf2 (in_pr (by omega))) (in_pr (by omega))) (sgt_o2 g2) rfl rfl (xui_b2 hb1 p40 (by omega) (by omega)) (inc_cg (inc_D ia hab (Or.inr ⟨hsb, by rw [← hh]; omega⟩)) (by rw [vUp_s hi hj]; exact ⟨Or.inl, fun q => q.elim id (fun q => absurd q.2 (by rw [← hh]; omega))⟩) (vDn_s hi hj).symm) (inc_cg (inc_D ib (Ne.symm hab) (Or.inr ⟨hsb, by rw [← hh]; omega⟩)) (by rw [vUp_s hi hj]; exact ⟨Or.inl, fun q => q.elim id (fun q => absurd q.2 (by rw [← hh]; omega))⟩) (vDn_s hi hj).symm))
        · skip
          refine xw_ifeq (tgt := 131) dX9_lookAtPair_95 (by decide) (by unfold inI; omega) (fun _ => ?_) (fun c => absurd c (by decide))
          first
            | exact xw_ls [(0, vR 0), (1, vI (a : Int)), (2, vI (b : Int)), (5, vR oa), (6, vR ob), (7, vI (i : Int)), (8, vI (j : Int))] ⟨rfl, rfl, rfl, rfl, rfl, rfl, rfl, trivial⟩ (N f2 av1 bv1 (fr_tr hf (fun k hk => (sgt_see hg1 hin hsc).2.2 k (fun q => hk (in_pr (by omega))) (by have : ¬ (5 ≤ k ∧ k ≤ 11) := fun q => hk (in_pr (by omega)); omega))) (sgt_see hg1 hin hsc).1 (((sgt_see hg1 hin hsc).2.2 25 (by omega) (by omega)).trans e25) (((sgt_see hg1 hin hsc).2.2 26 (by omega) (by omega)).trans e26) hb1 (inc_cg ia (by rw [vUp_s hi hj]; exact ⟨Or.inl, fun q => q.elim id (fun q => absurd q.1 (seeR_0 hsee))⟩) (by rw [vDn_s hi hj]; exact ⟨Or.inl, fun q => q.elim id (fun q => absurd q.1 (seeR_0 hsee))⟩)) (inc_cg ib (by rw [vUp_s hi hj]; exact ⟨Or.inl, fun q => q.elim id (fun q => absurd q.1 (seeR_0 hsee))⟩) (by rw [vDn_s hi hj]; exact ⟨Or.inl, fun q => q.elim id (fun q => absurd q.1 (seeR_0 hsee))⟩)))
            | exact xw_ls [(0, vR 0), (1, vI (a : Int)), (2, vI (b : Int)), (5, vR oa), (6, vR ob), (7, vI (i : Int)), (8, vI (j : Int))] ⟨rfl, rfl, rfl, rfl, rfl, rfl, rfl, trivial⟩ (N _ (xui av1 a (av1 a ||| 2 ^ b)) (xui bv1 b (bv1 b ||| 2 ^ a)) (fr_up (fr_up hf2 (in_pr (by omega))) (in_pr (by omega))) (sgt_o2 g2) rfl rfl (xui_b hb1 p40 (by omega) (by omega)) (inc_cg (inc_U ia hab (Or.inr ⟨hsb, by rw [← hh]; omega⟩)) (vUp_s hi hj).symm (by rw [vDn_s hi hj]; exact ⟨Or.inl, fun q => q.elim id (fun q => absurd (by rw [← hh]; omega) q.2)⟩)) (inc_cg (inc_U ib (Ne.symm hab) (Or.inr ⟨hsb, by rw [← hh]; omega⟩)) (vUp_s hi hj).symm (by rw [vDn_s hi hj]; exact ⟨Or.inl, fun q => q.elim id (fun q => absurd (by rw [← hh]; omega) q.2)⟩)))
            | exact xw_ls [(0, vR 0), (1, vI (a : Int)), (2, vI (b : Int)), (5, vR oa), (6, vR ob), (7, vI (i : Int)), (8, vI (j : Int))] ⟨rfl, rfl, rfl, rfl, rfl, rfl, rfl, trivial⟩ (N _ (xui av1 b (av1 b ||| 2 ^ a)) (xui bv1 a (bv1 a ||| 2 ^ b)) (fr_up (fr_up hf2 (in_pr (by omega))) (in_pr (by omega))) (sgt_o2 g2) rfl rfl (xui_b2 hb1 p40 (by omega) (by omega)) (inc_cg (inc_D ia hab (Or.inr ⟨hsb, by rw [← hh]; omega⟩)) (by rw [vUp_s hi hj]; exact ⟨Or.inl, fun q => q.elim id (fun q => absurd q.2 (by rw [← hh]; omega))⟩) (vDn_s hi hj).symm) (inc_cg (inc_D ib (Ne.symm hab) (Or.inr ⟨hsb, by rw [← hh]; omega⟩)) (by rw [vUp_s hi hj]; exact ⟨Or.inl, fun q => q.elim id (fun q => absurd q.2 (by rw [← hh]; omega))⟩) (vDn_s hi hj).symm))
  have I : ∀ (m i : Nat) (f1 : xH) (av1 bv1 : Nat → Nat), i + m = pcS X → fr prS f f1 → sgt f1 d → f1 25 = some (aS 40 av1) → f1 26 = some (aS 40 bv1) → (∀ j, j < 40 → av1 j < 2 ^ 40 ∧ bv1 j < 2 ^ 40) → inc av av1 a b (vUp d X Y i 0) (vDn d X Y i 0) → inc bv bv1 b a (vUp d X Y i 0) (vDn d X Y i 0) → xw g M_X9_lookAtPair Q 0 0 57 [(0, vR 0), (1, vI (a : Int)), (2, vI (b : Int)), (5, vR oa), (6, vR ob), (7, vI (i : Int))] [] n f1 := by
    intro m
    induction m with
    | zero =>
      intro i f1 av1 bv1 hm hf hg1 e25 e26 hb1 ia ib
      have ea : f1 oa = some (oSk X (oa + 1)) := fr_at hf kA.2.1 (fun q => by have := pr_in q; omega)
      refine xw_iload dX9_lookAtPair_57 rfl ?_
      refine xw_aload dX9_lookAtPair_59 rfl ?_
      refine xw_getfield dX9_lookAtPair_61 fl_X9_214 ea rfl ?_
      refine xw_icmpge (tgt := 143) dX9_lookAtPair_64 (by decide) (by first | assumption | (unfold inI; omega) | (unfold inI at *; omega)) (by first | assumption | (unfold inI; omega) | (unfold inI at *; omega)) (fun c_64 => ?_) (fun c_64 => ?_)
      · skip
        exact xw_vret dX9_lookAtPair_143 rfl (hq f1 av1 bv1 hf hg1 e25 e26 hb1 (inc_cg ia (vUp_e (by omega)) (vDn_e (by omega))) (inc_cg ib (vUp_e (by omega)) (vDn_e (by omega))))
      · skip
        exfalso; omega
    | succ m ih =>
      intro i f1 av1 bv1 hm hf hg1 e25 e26 hb1 ia ib
      have ea : f1 oa = some (oSk X (oa + 1)) := fr_at hf kA.2.1 (fun q => by have := pr_in q; omega)
      have E : ∀ f2 av2 bv2, fr prS f f2 → sgt f2 d → f2 25 = some (aS 40 av2) → f2 26 = some (aS 40 bv2) → (∀ j, j < 40 → av2 j < 2 ^ 40 ∧ bv2 j < 2 ^ 40) → inc av av2 a b (vUp d X Y (i + 1) 0) (vDn d X Y (i + 1) 0) → inc bv bv2 b a (vUp d X Y (i + 1) 0) (vDn d X Y (i + 1) 0) → xw g M_X9_lookAtPair Q 0 0 137 [(0, vR 0), (1, vI (a : Int)), (2, vI (b : Int)), (5, vR oa), (6, vR ob), (7, vI (i : Int))] [] n f2 := by
        intro f2 av2 bv2 k1 k2 k3 k4 k5 k6 k7
        refine xw_iinc dX9_lookAtPair_137 rfl (by decide) ?_
        refine xw_goto (tgt := 57) dX9_lookAtPair_140 (by decide) ?_
        exact xw_ls [(0, vR 0), (1, vI (a : Int)), (2, vI (b : Int)), (5, vR oa), (6, vR ob), (7, vI ((i + 1 : Nat) : Int))] ⟨rfl, rfl, rfl, rfl, rfl, rfl, trivial⟩ (ih (i + 1) f2 av2 bv2 (by omega) k1 k2 k3 k4 k5 k6 k7)
      refine xw_iload dX9_lookAtPair_57 rfl ?_
      refine xw_aload dX9_lookAtPair_59 rfl ?_
      refine xw_getfield dX9_lookAtPair_61 fl_X9_214 ea rfl ?_
      refine xw_icmpge (tgt := 143) dX9_lookAtPair_64 (by decide) (by first | assumption | (unfold inI; omega) | (unfold inI at *; omega)) (by first | assumption | (unfold inI; omega) | (unfold inI at *; omega)) (fun c_64 => ?_) (fun c_64 => ?_)
      · skip
        exfalso; omega
      · skip
        refine xw_iconst dX9_lookAtPair_67 ?_
        refine xw_istore dX9_lookAtPair_68 (by decide) ?_
        exact xw_ls [(0, vR 0), (1, vI (a : Int)), (2, vI (b : Int)), (5, vR oa), (6, vR ob), (7, vI (i : Int)), (8, vI ((0 : Nat) : Int))] ⟨rfl, rfl, rfl, rfl, rfl, rfl, rfl, trivial⟩ (J i (by omega) E (pcS Y) 0 f1 av1 bv1 (by omega) hf hg1 e25 e26 hb1 ia ib)
  have xa : xnum c sz (a : Int) = (na : Int) := by unfold xnum; rw [if_pos (by omega), Int.toNat_natCast, hna]
  have xb : xnum c sz (b : Int) = (nb9 : Int) := by unfold xnum; rw [if_pos (by omega), Int.toNat_natCast, hnb]
  refine xw_aload_n dX9_lookAtPair_0 rfl ?_
  refine xw_getfield dX9_lookAtPair_1 fl_X9_52 h0 rfl ?_
  refine xw_iload_n dX9_lookAtPair_4 rfl ?_
  refine xw_callV (rc := 0) (rs := 0) (mc2 := 0) (ms2 := 0) (a := 22) (As := [vI (a : Int)]) (st := []) dX9_lookAtPair_5 mv_X9_282 h22 rfl rfl (by decide) (by decide) (Nat.le_of_ble_eq_true rfl) rfl (ct_numberAt h22 h23 hsz (by unfold inI; omega) ?_)
  refine xw_topi _ xa ?_
  refine xw_istore_n dX9_lookAtPair_8 (by decide) ?_
  refine xw_aload_n dX9_lookAtPair_9 rfl ?_
  refine xw_getfield dX9_lookAtPair_10 fl_X9_52 h0 rfl ?_
  refine xw_iload_n dX9_lookAtPair_13 rfl ?_
  refine xw_callV (rc := 0) (rs := 0) (mc2 := 0) (ms2 := 0) (a := 22) (As := [vI (b : Int)]) (st := []) dX9_lookAtPair_14 mv_X9_282 h22 rfl rfl (by decide) (by decide) (Nat.le_of_ble_eq_true rfl) rfl (ct_numberAt h22 h23 hsz (by unfold inI; omega) ?_)
  refine xw_topi _ xb ?_
  refine xw_istore dX9_lookAtPair_17 (by decide) ?_
  refine xw_aload_n dX9_lookAtPair_19 rfl ?_
  refine xw_iload_n dX9_lookAtPair_20 rfl ?_
  refine xw_callV (rc := 0) (rs := 0) (mc2 := 0) (ms2 := 0) (a := 0) (As := [vI (na : Int)]) (st := []) dX9_lookAtPair_21 mv_X9_190 h0 rfl rfl (by decide) (by decide) (Nat.le_of_ble_eq_true rfl) rfl (ct_wasGiven h0 hs (by unfold inI; omega) (fun s hs1 hs2 => ?_) (fun q => absurd ga (q na rfl)))
  refine xw_ifeq (tgt := 36) dX9_lookAtPair_24 (by decide) (by unfold inI; omega) (fun c => absurd c (by decide)) (fun _ => ?_)
  refine xw_aload_n dX9_lookAtPair_27 rfl ?_
  refine xw_iload dX9_lookAtPair_28 rfl ?_
  refine xw_callV (rc := 0) (rs := 0) (mc2 := 0) (ms2 := 0) (a := 0) (As := [vI (nb9 : Int)]) (st := []) dX9_lookAtPair_30 mv_X9_190 h0 rfl rfl (by decide) (by decide) (Nat.le_of_ble_eq_true rfl) rfl (ct_wasGiven h0 hs (by unfold inI; omega) (fun s hs1 hs2 => ?_) (fun q => absurd gb (q nb9 rfl)))
  refine xw_ifne (tgt := 37) dX9_lookAtPair_33 (by decide) (by unfold inI; omega) (fun _ => ?_) (fun c => absurd c (by decide))
  refine xw_aload_n dX9_lookAtPair_37 rfl ?_
  refine xw_getfield dX9_lookAtPair_38 fl_X9_17 h0 rfl ?_
  refine xw_iload_n dX9_lookAtPair_41 rfl ?_
  refine xw_aald dX9_lookAtPair_42 hs.1 rfl (j := na) rfl (by omega) (by decide) ?_
  refine xw_topr oa (by rw [hoa]; exact if_pos ga) ?_
  refine xw_astore dX9_lookAtPair_43 (by decide) ?_
  refine xw_aload_n dX9_lookAtPair_45 rfl ?_
  refine xw_getfield dX9_lookAtPair_46 fl_X9_17 h0 rfl ?_
  refine xw_iload dX9_lookAtPair_49 rfl ?_
  refine xw_aald dX9_lookAtPair_51 hs.1 rfl (j := nb9) rfl (by omega) (by decide) ?_
  refine xw_topr ob (by rw [hob]; exact if_pos gb) ?_
  refine xw_astore dX9_lookAtPair_52 (by decide) ?_
  refine xw_iconst dX9_lookAtPair_54 ?_
  refine xw_istore dX9_lookAtPair_55 (by decide) ?_
  have z1 : ¬ vUp d X Y 0 0 := fun ⟨i', j', h1, _⟩ => by omega
  have z2 : ¬ vDn d X Y 0 0 := fun ⟨i', j', h1, _⟩ => by omega
  exact xw_ls [(0, vR 0), (1, vI (a : Int)), (2, vI (b : Int)), (5, vR oa), (6, vR ob), (7, vI ((0 : Nat) : Int))] ⟨rfl, rfl, rfl, rfl, rfl, rfl, trivial⟩ (I (pcS X) 0 f av bv (by omega) (fr_rf _ f) hg h25 h26 hav (inc_rf av a b z1 z2) (inc_rf bv b a z1 z2))
end C61
