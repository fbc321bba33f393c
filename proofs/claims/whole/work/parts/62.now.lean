/-! the tangle as it is now -/
theorem hc_le {σ : Nat → xSt} {s t : Nat} (h : s ≤ t) : hc σ s ≤ hc σ t := by
  induction t with
  | zero => rw [show s = 0 by omega]; exact Nat.le_refl _
  | succ t ih =>
    by_cases e : s = t + 1
    · rw [e]; exact Nat.le_refl _
    · exact Nat.le_trans (ih (by omega)) (Nat.le_add_right _ _)
theorem hc_1 {σ : Nat → xSt} {s : Nat} (h : hrS (σ s) = 1) : hc σ (s + 1) = hc σ s + 1 := by show hc σ s + (if hrS (σ s) = 1 then 1 else 0) = _; rw [if_pos h]
theorem hc_0 {σ : Nat → xSt} {s : Nat} (h : hrS (σ s) ≠ 1) : hc σ (s + 1) = hc σ s := by show hc σ s + (if hrS (σ s) = 1 then 1 else 0) = _; rw [if_neg h]; rfl
theorem hc_lt {σ : Nat → xSt} {s t : Nat} (h : s < t) (hs : hrS (σ s) = 1) : hc σ s < hc σ t := by
  have h1 := hc_1 hs
  have h2 := hc_le (σ := σ) (show s + 1 ≤ t by omega)
  omega
theorem hc_ex {σ : Nat → xSt} : ∀ (s p : Nat), p < hc σ s → ∃ t, t < s ∧ hrS (σ t) = 1 ∧ hc σ t = p := by
  intro s
  induction s with
  | zero => intro p h; exact absurd h (Nat.not_lt_zero p)
  | succ s ih =>
    intro p h
    by_cases e : hrS (σ s) = 1
    · rw [hc_1 e] at h
      by_cases e2 : p = hc σ s
      · exact ⟨s, by omega, e, e2.symm⟩
      · obtain ⟨t, h1, h2, h3⟩ := ih p (by omega)
        exact ⟨t, by omega, h2, h3⟩
    · rw [hc_0 e] at h
      obtain ⟨t, h1, h2, h3⟩ := ih p h
      exact ⟨t, by omega, h2, h3⟩
def AB (d : Nat → Int) (σ : Nat → xSt) (N : Nat → Nat) (p q : Nat) : Prop := (p < q ∧ pUp d (σ (N p)) (σ (N q))) ∨ (q < p ∧ pDn d (σ (N q)) (σ (N p)))
def tgH (f : xH) (sz : Nat) (ls kc : Int) (c w : Nat → Int) (av bv rv : Nat → Nat) (lf ly : Nat → Int) (ks wv : Nat → Nat) : Prop := f 22 = some (oTg sz ls kc) ∧ f 23 = some (aI 40 c) ∧ f 24 = some (aI 40 w) ∧ f 25 = some (aS 40 av) ∧ f 26 = some (aS 40 bv) ∧ f 27 = some (aS 40 rv) ∧ f 28 = some (aI 40 lf) ∧ f 29 = some (aI 40 ly) ∧ f 30 = some (aS 20 ks) ∧ f 31 = some (aS 41 wv)
def tgB (av bv : Nat → Nat) (ly : Nat → Int) : Prop := (∀ j, j < 40 → av j < 2 ^ 40 ∧ bv j < 2 ^ 40) ∧ ∀ j, j < 40 → 0 ≤ ly j ∧ ly j ≤ 40
def tgG (gn : Nat) (σ : Nat → xSt) (d : Nat → Int) (sz : Nat) (N : Nat → Nat) (c w : Nat → Int) (av bv : Nat → Nat) : Prop := sz = hc σ gn ∧ sz ≤ 40 ∧ (∀ p, p < sz → N p < gn ∧ hrS (σ (N p)) = 1 ∧ hc σ (N p) = p ∧ c p = (N p : Int) ∧ w p = woS (σ (N p))) ∧ (∀ p q, p < sz → ((av p).testBit q = true ↔ (q < sz ∧ AB d σ N p q))) ∧ ∀ p q, p < sz → ((bv p).testBit q = true ↔ (q < sz ∧ AB d σ N q p))
def tgR (sz : Nat) (av : Nat → Nat) (ls kc : Int) (rv : Nat → Nat) (lf ly : Nat → Int) (ks : Nat → Nat) : Prop := (∃ lf0 ly0, (∀ j, j < 40 → 0 ≤ ly0 j ∧ ly0 j ≤ 40) ∧ ls = ((lio av sz sz 0 (2 ^ sz - 1) lf0 ly0).1 : Int) ∧ lf = (lio av sz sz 0 (2 ^ sz - 1) lf0 ly0).2.1 ∧ ly = (lio av sz sz 0 (2 ^ sz - 1) lf0 ly0).2.2) ∧ (∀ j, j < sz → rv j < 2 ^ 40 ∧ ∀ q, (rv j).testBit q = true ↔ WP av sz q j) ∧ ∃ ks0, kc = ((kns rv sz sz 0 0 0 ks0).1 : Int) ∧ ks = (kns rv sz sz 0 0 0 ks0).2
def rmH (f : xH) (rw rp : Int) (h : Nat) (hp : Nat → Nat) (hw : Nat → Int) (ha : Nat → Nat) (sw : Nat → Int) : Prop := f 32 = some (oRm rw rp h) ∧ f 33 = some (aN 12 hp) ∧ f 34 = some (aI 12 hw) ∧ f 35 = some (aN 12 ha) ∧ f 36 = some (aI 4096 sw)
def rmK (f : xH) (rk : Int) (av : Nat → Nat) (w : Nat → Int) (sz : Nat) (ks : Nat → Nat) (kc : Int) : Prop := ∃ rw rp h hp hw ha sw, rmH f rw rp h hp hw ha sw ∧ (rk = 0 ∨ (rk = 1 ∧ rw = (rmd av w sz ks kc.toNat 0 0 0).1 ∧ rp = ((rmd av w sz ks kc.toNat 0 0 0).2 : Int)))
def rmS (f : xH) : Prop := ∃ rw rp h hp hw ha sw, rmH f rw rp h hp hw ha sw
def tgM (f : xH) (gn : Nat) (σ : Nat → xSt) (d : Nat → Int) (rk : Int) : Prop := ∃ sz ls kc c w av bv rv lf ly ks wv N, tgH f sz ls kc c w av bv rv lf ly ks wv ∧ tgB av bv ly ∧ tgG gn σ d sz N c w av bv ∧ tgR sz av ls kc rv lf ly ks ∧ rmK f rk av w sz ks kc
def tgS (f : xH) : Prop := ∃ sz ls kc c w av bv rv lf ly ks wv, tgH f sz ls kc c w av bv rv lf ly ks wv ∧ tgB av bv ly
def tgA (f : xH) (tk rk : Int) (gn : Nat) (σ : Nat → xSt) (d : Nat → Int) : Prop := (tk = 0 ∧ rk = 0 ∧ tgS f ∧ rmS f) ∨ (tk = 1 ∧ tgM f gn σ d rk)
theorem rmH_fr {f f1 : xH} {rw rp : Int} {h : Nat} {hp : Nat → Nat} {hw : Nat → Int} {ha : Nat → Nat} {sw : Nat → Int} (H : rmH f rw rp h hp hw ha sw) (hf : ∀ k, 32 ≤ k → k ≤ 36 → f1 k = f k) : rmH f1 rw rp h hp hw ha sw := by
  obtain ⟨h1, h2, h3, h4, h5⟩ := H
  exact ⟨(hf 32 (by omega) (by omega)).trans h1, (hf 33 (by omega) (by omega)).trans h2, (hf 34 (by omega) (by omega)).trans h3, (hf 35 (by omega) (by omega)).trans h4, (hf 36 (by omega) (by omega)).trans h5⟩
theorem rmK_fr {f f1 : xH} {rk : Int} {av : Nat → Nat} {w : Nat → Int} {sz : Nat} {ks : Nat → Nat} {kc : Int} (h : rmK f rk av w sz ks kc) (hf : ∀ k, 32 ≤ k → k ≤ 36 → f1 k = f k) : rmK f1 rk av w sz ks kc := by
  obtain ⟨rw, rp, h9, hp, hw, ha, sw, h1, h2⟩ := h
  exact ⟨rw, rp, h9, hp, hw, ha, sw, rmH_fr h1 hf, h2⟩
theorem rmK_S {f : xH} {rk : Int} {av : Nat → Nat} {w : Nat → Int} {sz : Nat} {ks : Nat → Nat} {kc : Int} (h : rmK f rk av w sz ks kc) : rmS f := by
  obtain ⟨rw, rp, h9, hp, hw, ha, sw, h1, h2⟩ := h
  exact ⟨rw, rp, h9, hp, hw, ha, sw, h1⟩
theorem rmS_fr {f f1 : xH} (h : rmS f) (hf : ∀ k, 32 ≤ k → k ≤ 36 → f1 k = f k) : rmS f1 := by
  obtain ⟨rw, rp, h9, hp, hw, ha, sw, h1⟩ := h
  exact ⟨rw, rp, h9, hp, hw, ha, sw, rmH_fr h1 hf⟩
theorem tgH_fr {f f1 : xH} {sz : Nat} {ls kc : Int} {c w : Nat → Int} {av bv rv : Nat → Nat} {lf ly : Nat → Int} {ks wv : Nat → Nat} (h : tgH f sz ls kc c w av bv rv lf ly ks wv) (hf : ∀ k, 22 ≤ k → k ≤ 31 → f1 k = f k) : tgH f1 sz ls kc c w av bv rv lf ly ks wv := by
  obtain ⟨h1, h2, h3, h4, h5, h6, h7, h8, h9, h10⟩ := h
  exact ⟨(hf 22 (by omega) (by omega)).trans h1, (hf 23 (by omega) (by omega)).trans h2, (hf 24 (by omega) (by omega)).trans h3, (hf 25 (by omega) (by omega)).trans h4, (hf 26 (by omega) (by omega)).trans h5, (hf 27 (by omega) (by omega)).trans h6, (hf 28 (by omega) (by omega)).trans h7, (hf 29 (by omega) (by omega)).trans h8, (hf 30 (by omega) (by omega)).trans h9, (hf 31 (by omega) (by omega)).trans h10⟩
theorem tgM_fr {f f1 : xH} {gn : Nat} {σ : Nat → xSt} {d : Nat → Int} {rk : Int} (h : tgM f gn σ d rk) (hf : ∀ k, 22 ≤ k → k ≤ 36 → f1 k = f k) : tgM f1 gn σ d rk := by
  obtain ⟨sz, ls, kc, c, w, av, bv, rv, lf, ly, ks, wv, N, h1, h2, h3, h4, h5⟩ := h
  exact ⟨sz, ls, kc, c, w, av, bv, rv, lf, ly, ks, wv, N, tgH_fr h1 (fun k a b => hf k a (by omega)), h2, h3, h4, rmK_fr h5 (fun k a b => hf k (by omega) b)⟩
theorem tgS_fr {f f1 : xH} (h : tgS f) (hf : ∀ k, 22 ≤ k → k ≤ 31 → f1 k = f k) : tgS f1 := by
  obtain ⟨sz, ls, kc, c, w, av, bv, rv, lf, ly, ks, wv, h1, h2⟩ := h
  exact ⟨sz, ls, kc, c, w, av, bv, rv, lf, ly, ks, wv, tgH_fr h1 hf, h2⟩
theorem tgM_S {f : xH} {gn : Nat} {σ : Nat → xSt} {d : Nat → Int} {rk : Int} (h : tgM f gn σ d rk) : tgS f ∧ rmS f := by
  obtain ⟨sz, ls, kc, c, w, av, bv, rv, lf, ly, ks, wv, N, h1, h2, _, _, h5⟩ := h
  exact ⟨⟨sz, ls, kc, c, w, av, bv, rv, lf, ly, ks, wv, h1, h2⟩, rmK_S h5⟩
theorem tgA_S {f : xH} {tk rk : Int} {gn : Nat} {σ : Nat → xSt} {d : Nat → Int} (h : tgA f tk rk gn σ d) : tgS f ∧ rmS f := by
  rcases h with ⟨_, _, h⟩ | ⟨_, h⟩
  · exact h
  · exact tgM_S h
theorem tgA_fr {f f1 : xH} {tk rk : Int} {gn : Nat} {σ : Nat → xSt} {d : Nat → Int} (h : tgA f tk rk gn σ d) (hf : ∀ k, 22 ≤ k → k ≤ 36 → f1 k = f k) : tgA f1 tk rk gn σ d := by
  rcases h with ⟨h1, h2, h3, h4⟩ | ⟨h1, h2⟩
  · exact Or.inl ⟨h1, h2, tgS_fr h3 (fun k a b => hf k a (by omega)), rmS_fr h4 (fun k a b => hf k (by omega) b)⟩
  · exact Or.inr ⟨h1, tgM_fr h2 hf⟩
theorem kns_ok (rv : Nat → Nat) (sz : Nat) : ∀ (m p dn kc : Nat) (ks : Nat → Nat), kc ≤ 20 → (∀ j, j < kc → ks j < 2 ^ sz) → (kns rv sz m p dn kc ks).1 ≤ 20 ∧ ∀ j, j < (kns rv sz m p dn kc ks).1 → (kns rv sz m p dn kc ks).2 j < 2 ^ sz := by
  intro m
  induction m with
  | zero => intro p dn kc ks h1 h2; exact ⟨h1, h2⟩
  | succ m ih =>
    intro p dn kc ks h1 h2
    unfold kns
    split
    · next h =>
      refine ih _ _ _ _ (by omega) (fun j hj => ?_)
      unfold xui
      split
      · exact hld_lt rv p sz
      · exact h2 j (by omega)
    · exact ih _ _ _ _ h1 h2
theorem lio_o (av : Nat → Nat) (sz j : Nat) (hj : sz ≤ j) : ∀ (m t L : Nat) (lf ly : Nat → Int), (lio av sz m t L lf ly).2.2 j = ly j := by
  intro m
  induction m with
  | zero => intro t L lf ly; rfl
  | succ m ih =>
    intro t L lf ly
    unfold lio
    split
    · rfl
    · next h =>
      rw [ih]
      rcases lfree_in av L sz 0 with h1 | ⟨p, h1, h2, h3, h4⟩
      · exact absurd h1.1 h
      · rw [h3, Int.toNat_natCast]
        exact xui_n _ _ (by omega)
/-- the pairs that were looked at -/
def dn (a b p q : Nat) : Prop := (p < q ∧ (p < a ∨ (p = a ∧ q < b))) ∨ (q < p ∧ (q < a ∨ (q = a ∧ p < b)))
theorem AB_dn {d : Nat → Int} {σ : Nat → xSt} {N : Nat → Nat} {p q a : Nat} (h : AB d σ N p q ∨ AB d σ N q p) (hp : p < a) (hq : q < a) : dn a 0 p q := by
  have hne : p ≠ q := by
    rcases h with (h | h) | (h | h) <;> omega
  unfold dn; omega
def inv2 (d : Nat → Int) (σ : Nat → xSt) (N : Nat → Nat) (sz a b : Nat) (av bv : Nat → Nat) : Prop := (∀ p q, p < sz → ((av p).testBit q = true ↔ (q < sz ∧ dn a b p q ∧ AB d σ N p q))) ∧ ∀ p q, p < sz → ((bv p).testBit q = true ↔ (q < sz ∧ dn a b p q ∧ AB d σ N q p))
theorem inv2_s {d : Nat → Int} {σ : Nat → xSt} {N : Nat → Nat} {sz a b : Nat} {av bv av1 bv1 : Nat → Nat} (h : inv2 d σ N sz a b av bv) (hab : a < b) (hb : b < sz) (ia : inc av av1 a b (pUp d (σ (N a)) (σ (N b))) (pDn d (σ (N a)) (σ (N b)))) (ib : inc bv bv1 b a (pUp d (σ (N a)) (σ (N b))) (pDn d (σ (N a)) (σ (N b)))) : inv2 d σ N sz a (b + 1) av1 bv1 := by
  have hdn : ∀ p q, dn a (b + 1) p q ↔ (dn a b p q ∨ (p = a ∧ q = b) ∨ (p = b ∧ q = a)) := by
    intro p q; unfold dn; omega
  constructor
  · intro p q hp
    rw [ia p q, h.1 p q hp, hdn]
    constructor
    · rintro (⟨h1, h2, h3⟩ | ⟨rfl, rfl, h3⟩ | ⟨rfl, rfl, h3⟩)
      · exact ⟨h1, Or.inl h2, h3⟩
      · exact ⟨hb, Or.inr (Or.inl ⟨rfl, rfl⟩), Or.inl ⟨hab, h3⟩⟩
      · exact ⟨by omega, Or.inr (Or.inr ⟨rfl, rfl⟩), Or.inr ⟨hab, h3⟩⟩
    · rintro ⟨h1, h2 | ⟨rfl, rfl⟩ | ⟨rfl, rfl⟩, h3⟩
      · exact Or.inl ⟨h1, h2, h3⟩
      · rcases h3 with h3 | h3
        · exact Or.inr (Or.inl ⟨rfl, rfl, h3.2⟩)
        · omega
      · rcases h3 with h3 | h3
        · omega
        · exact Or.inr (Or.inr ⟨rfl, rfl, h3.2⟩)
  · intro p q hp
    rw [ib p q, h.2 p q hp, hdn]
    constructor
    · rintro (⟨h1, h2, h3⟩ | ⟨rfl, rfl, h3⟩ | ⟨rfl, rfl, h3⟩)
      · exact ⟨h1, Or.inl h2, h3⟩
      · exact ⟨by omega, Or.inr (Or.inr ⟨rfl, rfl⟩), Or.inl ⟨hab, h3⟩⟩
      · exact ⟨hb, Or.inr (Or.inl ⟨rfl, rfl⟩), Or.inr ⟨hab, h3⟩⟩
    · rintro ⟨h1, h2 | ⟨rfl, rfl⟩ | ⟨rfl, rfl⟩, h3⟩
      · exact Or.inl ⟨h1, h2, h3⟩
      · rcases h3 with h3 | h3
        · omega
        · exact Or.inr (Or.inr ⟨rfl, rfl, h3.2⟩)
      · rcases h3 with h3 | h3
        · exact Or.inr (Or.inl ⟨rfl, rfl, h3.2⟩)
        · omega
theorem inv2_c {d : Nat → Int} {σ : Nat → xSt} {N : Nat → Nat} {sz a b a1 b1 : Nat} {av bv : Nat → Nat} (h : inv2 d σ N sz a b av bv) (hd : ∀ p q, p < sz → q < sz → (dn a b p q ↔ dn a1 b1 p q)) : inv2 d σ N sz a1 b1 av bv :=
  ⟨fun p q hp => by rw [h.1 p q hp]; exact ⟨fun ⟨h1, h2, h3⟩ => ⟨h1, (hd p q hp h1).mp h2, h3⟩, fun ⟨h1, h2, h3⟩ => ⟨h1, (hd p q hp h1).mpr h2, h3⟩⟩,
   fun p q hp => by rw [h.2 p q hp]; exact ⟨fun ⟨h1, h2, h3⟩ => ⟨h1, (hd p q hp h1).mp h2, h3⟩, fun ⟨h1, h2, h3⟩ => ⟨h1, (hd p q hp h1).mpr h2, h3⟩⟩⟩
abbrev nwS : List Nat := [0, 3, 5, 6, 7, 8, 9, 10, 11, 22, 23, 24, 25, 26, 27, 28, 29, 30]
theorem nw_in {k : Nat} (h : k ∈ nwS) : k = 0 ∨ k = 3 ∨ (5 ≤ k ∧ k ≤ 11) ∨ (22 ≤ k ∧ k ≤ 30) := by
  simp only [nwS, List.mem_cons, List.not_mem_nil, or_false] at h; omega
theorem in_nw {k : Nat} (h : k = 0 ∨ k = 3 ∨ (5 ≤ k ∧ k ≤ 11) ∨ (22 ≤ k ∧ k ≤ 30)) : k ∈ nwS := by
  simp only [nwS, List.mem_cons, List.not_mem_nil, or_false]; omega
section C62
variable {g : xG} {y : xM} {Q : xP} {n : Nat} {f : xH}
set_option maxHeartbeats 8000000 in
theorem ct_tangleNow {bn on tk rk pu : Int} {gn : Nat} {so : Nat → Nat} {σ : Nat → xSt} {d : Nat → Int} (h0 : f 0 = some (oTb bn gn on tk rk pu)) (hs : stk f gn so σ) (hg : sgt f d) (ht : tgA f tk rk gn σ d) (h40 : hc σ gn ≤ 40)
    (hq : ∀ f1, fr nwS f f1 → f1 0 = some (oTb bn gn on 1 rk pu) → sgt f1 d → tgM f1 gn σ d rk → Q (.inl (some (vR 22))) n f1) : xct g M_X9_tangleNow 0 0 [vR 0] n f Q := by
  refine xct_of rfl rfl (Nat.le_of_ble_eq_true rfl) ?_
  have hgn := hs.2.1
  rcases ht with ⟨rfl, rfl, ht, hrm⟩ | ⟨rfl, ht⟩
  · obtain ⟨sz0, ls, kc, c0, w0, av0, bv0, rv, lf, ly, ks, wv, ⟨h22, h23, h24, h25, h26, h27, h28, h29, h30, h31⟩, hB1, hB2⟩ := ht
    -- the pairs
    have P : ∀ (N : Nat → Nat) (c w : Nat → Int), (∀ p, p < hc σ gn → N p < gn ∧ hrS (σ (N p)) = 1 ∧ hc σ (N p) = p ∧ c p = (N p : Int) ∧ w p = woS (σ (N p))) → ∀ (m a : Nat) (f1 : xH) (av bv : Nat → Nat), a + m = hc σ gn → fr nwS f f1 → sgt f1 d → f1 0 = some (oTb bn gn on 0 0 pu) → f1 22 = some (oTg (hc σ gn) ls kc) → f1 23 = some (aI 40 c) → f1 24 = some (aI 40 w) → f1 25 = some (aS 40 av) → f1 26 = some (aS 40 bv) → f1 27 = some (aS 40 rv) → f1 28 = some (aI 40 lf) → f1 29 = some (aI 40 ly) → f1 30 = some (aS 20 ks) → (∀ j, j < 40 → av j < 2 ^ 40 ∧ bv j < 2 ^ 40) → inv2 d σ N (hc σ gn) a 0 av bv → xw g M_X9_tangleNow Q 0 0 57 [(0, vR 0), (1, vI (a : Int))] [] n f1 := by
      intro N c w hN m
      induction m with
      | zero =>
        intro a f1 av bv hm hf hg1 e0 e22 e23 e24 e25 e26 e27 e28 e29 e30 hb hi
        refine xw_iload_n dX9_tangleNow_57 rfl ?_
        refine xw_aload_n dX9_tangleNow_58 rfl ?_
        refine xw_getfield dX9_tangleNow_59 fl_X9_52 e0 rfl ?_
        refine xw_getfield dX9_tangleNow_62 fl_X9_357 e22 rfl ?_
        refine xw_icmpge (tgt := 101) dX9_tangleNow_65 (by decide) (by first | assumption | (unfold inI; omega) | (unfold inI at *; omega)) (by first | assumption | (unfold inI; omega) | (unfold inI at *; omega)) (fun c_65 => ?_) (fun c_65 => ?_)
        · skip
          refine xw_aload_n dX9_tangleNow_101 rfl ?_
          refine xw_getfield dX9_tangleNow_102 fl_X9_52 e0 rfl ?_
          refine xw_callV (rc := 0) (rs := 0) (mc2 := 0) (ms2 := 0) (a := 22) (As := []) (st := []) dX9_tangleNow_105 mv_X9_361 e22 rfl rfl (by decide) (by decide) (Nat.le_of_ble_eq_true rfl) rfl (ct_settle e22 e25 e27 e28 e29 e30 h40 (fun j hj => (hb j (by omega)).1) (fun j hj => hB2 j (by omega)) (fun f2 rv1 r k hf2 hr hrv hk i22 i27 i28 i29 i30 => ?_))
          have i0 : f2 0 = some (oTb bn gn on 0 0 pu) := fr_at hf2 e0 (by decide)
          refine xw_aload_n dX9_tangleNow_108 rfl ?_
          refine xw_iconst dX9_tangleNow_109 ?_
          refine xw_putfield dX9_tangleNow_110 (fp_X9_342 _) i0 rfl rfl ?_
          rw [fX9_10]
          refine xw_aload_n dX9_tangleNow_113 rfl ?_
          refine xw_getfield dX9_tangleNow_114 fl_X9_52 rfl rfl ?_
          exact xw_aret dX9_tangleNow_117 rfl (hq _ (fun k9 hk9 => (xup_n _ _ (fun e => hk9 (in_nw (by omega)))).trans ((hf2 k9 (fun q => hk9 (in_nw (by simp only [List.mem_cons, List.not_mem_nil, or_false] at q; omega)))).trans (hf k9 hk9))) rfl (by
              obtain ⟨s9, q3, q4, q5, q6, q7, q8⟩ := hg1
              exact ⟨s9, (hf2 3 (by decide)).trans q3, (hf2 4 (by decide)).trans q4, fun j j1 j2 => by rw [xup_n _ _ (by omega), hf2 j (fun q => by simp only [List.mem_cons, List.not_mem_nil, or_false] at q; omega)]; exact q5 j j1 j2, q6, q7, q8⟩) (by
              have hok := lio_ok av (hc σ gn) h40 (hc σ gn) 0 (2 ^ hc σ gn - 1) lf ly (by omega) ⟨by have := xp2 h40; have := Nat.one_le_two_pow (n := hc σ gn); omega, fun j hj => hB2 j (by omega), fun j hj hb9 => by rw [Nat.testBit_two_pow_sub_one] at hb9; simp at hb9; omega⟩
              refine ⟨hc σ gn, (r.1 : Int), (k.1 : Int), c, w, av, bv, rv1, r.2.1, r.2.2, k.2, wv, N, ⟨i22, (hf2 23 (by decide)).trans e23, (hf2 24 (by decide)).trans e24, (hf2 25 (by decide)).trans e25, (hf2 26 (by decide)).trans e26, i27, i28, i29, i30, (hf2 31 (by decide)).trans ((hf 31 (by decide)).trans h31)⟩, ⟨hb, fun j hj => ?_⟩, ⟨rfl, h40, hN, fun p q hp => ?_, fun p q hp => ?_⟩, ⟨⟨lf, ly, hB2, by rw [hr], by rw [hr], by rw [hr]⟩, hrv, ks, by rw [hk], by rw [hk]⟩, ?_⟩
              · rw [hr]
                by_cases e : j < hc σ gn
                · exact hok.2 j e
                · rw [lio_o av (hc σ gn) j (by omega)]; exact hB2 j hj
              · rw [hi.1 p q hp]
                exact ⟨fun ⟨h1, _, h3⟩ => ⟨h1, h3⟩, fun ⟨h1, h3⟩ => ⟨h1, AB_dn (Or.inl h3) (by omega) (by omega), h3⟩⟩
              · rw [hi.2 p q hp]
                exact ⟨fun ⟨h1, _, h3⟩ => ⟨h1, h3⟩, fun ⟨h1, h3⟩ => ⟨h1, AB_dn (Or.inr h3) (by omega) (by omega), h3⟩⟩
              · obtain ⟨rw, rp, h9, hp, hw, ha, sw, q1⟩ := hrm
                exact ⟨rw, rp, h9, hp, hw, ha, sw, rmH_fr q1 (fun k9 a9 b9 => (xup_n _ _ (by omega)).trans ((hf2 k9 (fun q => by simp only [List.mem_cons, List.not_mem_nil, or_false] at q; omega)).trans (hf k9 (fun q => by have := nw_in q; omega)))), Or.inl rfl⟩))
        · skip
          exfalso; omega
      | succ m ih =>
        intro a f1 av bv hm hf hg1 e0 e22 e23 e24 e25 e26 e27 e28 e29 e30 hb hi
        have B : ∀ (m2 b : Nat) (f2 : xH) (av2 bv2 : Nat → Nat), b + m2 = hc σ gn → a < b → fr prS f1 f2 → sgt f2 d → f2 25 = some (aS 40 av2) → f2 26 = some (aS 40 bv2) → (∀ j, j < 40 → av2 j < 2 ^ 40 ∧ bv2 j < 2 ^ 40) → inv2 d σ N (hc σ gn) a b av2 bv2 → xw g M_X9_tangleNow Q 0 0 72 [(0, vR 0), (1, vI (a : Int)), (2, vI (b : Int))] [] n f2 := by
          intro m2
          induction m2 with
          | zero =>
            intro b f2 av2 bv2 hm2 hab hf2 hg2 i25 i26 hb2 hi2
            have i0 : f2 0 = some (oTb bn gn on 0 0 pu) := fr_at hf2 e0 (by decide)
            have i22 : f2 22 = some (oTg (hc σ gn) ls kc) := fr_at hf2 e22 (by decide)
            refine xw_iload_n dX9_tangleNow_72 rfl ?_
            refine xw_aload_n dX9_tangleNow_73 rfl ?_
            refine xw_getfield dX9_tangleNow_74 fl_X9_52 i0 rfl ?_
            refine xw_getfield dX9_tangleNow_77 fl_X9_357 i22 rfl ?_
            refine xw_icmpge (tgt := 95) dX9_tangleNow_80 (by decide) (by first | assumption | (unfold inI; omega) | (unfold inI at *; omega)) (by first | assumption | (unfold inI; omega) | (unfold inI at *; omega)) (fun c_80 => ?_) (fun c_80 => ?_)
            · skip
              refine xw_iinc dX9_tangleNow_95 rfl (by decide) ?_
              refine xw_goto (tgt := 57) dX9_tangleNow_98 (by decide) ?_
              exact xw_ls [(0, vR 0), (1, vI ((a + 1 : Nat) : Int))] ⟨rfl, rfl, trivial⟩ (ih (a + 1) f2 av2 bv2 (by omega) (fr_tr hf (fr_sub hf2 (fun k hk => in_nw (by have := pr_in hk; omega)))) hg2 i0 i22 (fr_at hf2 e23 (by decide)) (fr_at hf2 e24 (by decide)) i25 i26 (fr_at hf2 e27 (by decide)) (fr_at hf2 e28 (by decide)) (fr_at hf2 e29 (by decide)) (fr_at hf2 e30 (by decide)) hb2 (inv2_c hi2 (fun p q hp hq9 => by unfold dn; omega)))
            · skip
              exfalso; omega
          | succ m2 ih2 =>
            intro b f2 av2 bv2 hm2 hab hf2 hg2 i25 i26 hb2 hi2
            have i0 : f2 0 = some (oTb bn gn on 0 0 pu) := fr_at hf2 e0 (by decide)
            have i22 : f2 22 = some (oTg (hc σ gn) ls kc) := fr_at hf2 e22 (by decide)
            have i23 : f2 23 = some (aI 40 c) := fr_at hf2 e23 (by decide)
            have is2 : stk f2 gn so σ := stk_fr hs ((hf2 2 (by decide)).trans (hf 2 (by decide))) (fun k hk => (hf2 k (fun q => by have := pr_in q; omega)).trans (hf k (fun q => by have := nw_in q; omega)))
            have na := hN a (by omega)
            have nbb := hN b (by omega)
            refine xw_iload_n dX9_tangleNow_72 rfl ?_
            refine xw_aload_n dX9_tangleNow_73 rfl ?_
            refine xw_getfield dX9_tangleNow_74 fl_X9_52 i0 rfl ?_
            refine xw_getfield dX9_tangleNow_77 fl_X9_357 i22 rfl ?_
            refine xw_icmpge (tgt := 95) dX9_tangleNow_80 (by decide) (by first | assumption | (unfold inI; omega) | (unfold inI at *; omega)) (by first | assumption | (unfold inI; omega) | (unfold inI at *; omega)) (fun c_80 => ?_) (fun c_80 => ?_)
            · skip
              exfalso; omega
            · skip
              refine xw_aload_n dX9_tangleNow_83 rfl ?_
              refine xw_iload_n dX9_tangleNow_84 rfl ?_
              refine xw_iload_n dX9_tangleNow_85 rfl ?_
              refine xw_callV (rc := 0) (rs := 0) (mc2 := 0) (ms2 := 0) (a := 0) (As := [vI (a : Int), vI (b : Int)]) (st := []) dX9_tangleNow_86 mv_X9_358 i0 rfl rfl (by decide) (by decide) (Nat.le_of_ble_eq_true rfl) rfl (ct_lookAtPair i0 is2 hg2 i22 i23 i25 i26 h40 (by omega) (by omega) (by omega) na.2.2.2.1 nbb.2.2.2.1 na.1 nbb.1 hb2 (fun f3 av3 bv3 hf3 hg3 j25 j26 hb3 ia ib => ?_))
              refine xw_iinc dX9_tangleNow_89 rfl (by decide) ?_
              refine xw_goto (tgt := 72) dX9_tangleNow_92 (by decide) ?_
              exact xw_ls [(0, vR 0), (1, vI (a : Int)), (2, vI ((b + 1 : Nat) : Int))] ⟨rfl, rfl, rfl, trivial⟩ (ih2 (b + 1) f3 av3 bv3 (by omega) (by omega) (fr_tr hf2 hf3) hg3 j25 j26 hb3 (inv2_s hi2 hab (by omega) ia ib))
        refine xw_iload_n dX9_tangleNow_57 rfl ?_
        refine xw_aload_n dX9_tangleNow_58 rfl ?_
        refine xw_getfield dX9_tangleNow_59 fl_X9_52 e0 rfl ?_
        refine xw_getfield dX9_tangleNow_62 fl_X9_357 e22 rfl ?_
        refine xw_icmpge (tgt := 101) dX9_tangleNow_65 (by decide) (by first | assumption | (unfold inI; omega) | (unfold inI at *; omega)) (by first | assumption | (unfold inI; omega) | (unfold inI at *; omega)) (fun c_65 => ?_) (fun c_65 => ?_)
        · skip
          exfalso; omega
        · skip
          refine xw_iload_n dX9_tangleNow_68 rfl ?_
          refine xw_iconst dX9_tangleNow_69 ?_
          refine xw_iadd dX9_tangleNow_70 ?_
          refine xw_istore_n dX9_tangleNow_71 (by decide) ?_
          exact xw_ls [(0, vR 0), (1, vI (a : Int)), (2, vI ((a + 1 : Nat) : Int))] ⟨rfl, rfl, rfl, trivial⟩ (B (hc σ gn - (a + 1)) (a + 1) f1 av bv (by omega) (by omega) (fr_rf _ f1) hg1 e25 e26 hb (inv2_c hi (fun p q _ _ => by unfold dn; omega)))
    -- those that lie
    have L : ∀ (m s : Nat) (f1 : xH) (c w : Nat → Int) (av bv : Nat → Nat), s + m = gn → fr [22, 23, 24, 25, 26] f f1 → f1 22 = some (oTg (hc σ s) ls kc) → f1 23 = some (aI 40 c) → f1 24 = some (aI 40 w) → f1 25 = some (aS 40 av) → f1 26 = some (aS 40 bv) → (∀ j, j < 40 → av j < 2 ^ 40 ∧ bv j < 2 ^ 40) → (∀ j, j < hc σ s → av j = 0 ∧ bv j = 0) → (∀ t, t < s → hrS (σ t) = 1 → c (hc σ t) = (t : Int) ∧ w (hc σ t) = woS (σ t)) → xw g M_X9_tangleNow Q 0 0 16 [(0, vR 0), (1, vI (s : Int))] [] n f1 := by
      intro m
      induction m with
      | zero =>
        intro s f1 c w av bv hm hf e22 e23 e24 e25 e26 hb hz hcw
        obtain rfl : s = gn := by omega
        have e0 : f1 0 = some (oTb bn s on 0 0 pu) := fr_at hf h0 (by decide)
        refine xw_iload_n dX9_tangleNow_16 rfl ?_
        refine xw_aload_n dX9_tangleNow_17 rfl ?_
        refine xw_getfield dX9_tangleNow_18 fl_X9_134 e0 rfl ?_
        refine xw_icmpge (tgt := 55) dX9_tangleNow_21 (by decide) (by first | assumption | (unfold inI; omega) | (unfold inI at *; omega)) (by first | assumption | (unfold inI; omega) | (unfold inI at *; omega)) (fun c_21 => ?_) (fun c_21 => ?_)
        · skip
          refine xw_iconst dX9_tangleNow_55 ?_
          refine xw_istore_n dX9_tangleNow_56 (by decide) ?_
          refine xw_ls [(0, vR 0), (1, vI ((0 : Nat) : Int))] ⟨rfl, rfl, trivial⟩ (P (fun p => (c p).toNat) c w (fun p hp => ?_) (hc σ s) 0 f1 av bv (by omega) (fr_sub hf (fun k hk => in_nw (by simp only [List.mem_cons, List.not_mem_nil, or_false] at hk; omega))) ?_ e0 e22 e23 e24 e25 e26 (fr_at hf h27 (by decide)) (fr_at hf h28 (by decide)) (fr_at hf h29 (by decide)) (fr_at hf h30 (by decide)) hb ⟨fun p q hp => ?_, fun p q hp => ?_⟩)
          · obtain ⟨t, h1, h2, h3⟩ := hc_ex s p hp
            have h4 := hcw t h1 h2
            rw [h3] at h4
            have h5 : (c p).toNat = t := by rw [h4.1, Int.toNat_natCast]
            rw [h5]
            exact ⟨h1, h2, h3, h4.1, h4.2⟩
          · obtain ⟨s9, q3, q4, q5, q6, q7, q8⟩ := hg
            exact ⟨s9, (hf 3 (by decide)).trans q3, (hf 4 (by decide)).trans q4, fun j j1 j2 => by rw [hf j (fun q => by simp only [List.mem_cons, List.not_mem_nil, or_false] at q; omega)]; exact q5 j j1 j2, q6, q7, q8⟩
          · rw [(hz p hp).1]
            exact ⟨fun q9 => absurd q9 (by rw [Nat.zero_testBit]; decide), fun ⟨_, h2, _⟩ => by unfold dn at h2; omega⟩
          · rw [(hz p hp).2]
            exact ⟨fun q9 => absurd q9 (by rw [Nat.zero_testBit]; decide), fun ⟨_, h2, _⟩ => by unfold dn at h2; omega⟩
        · skip
          exfalso; omega
      | succ m ih =>
        intro s f1 c w av bv hm hf e22 e23 e24 e25 e26 hb hz hcw
        have hlt : s < gn := by omega
        have e0 : f1 0 = some (oTb bn gn on 0 0 pu) := fr_at hf h0 (by decide)
        have es : stk f1 gn so σ := stk_fr hs (hf 2 (by decide)) (fun k hk => hf k (fun q => by simp only [List.mem_cons, List.not_mem_nil, or_false] at q; omega))
        have hk := es.2.2.1 s hlt
        have hl40 := hc_le (σ := σ) (show s + 1 ≤ gn by omega)
        refine xw_iload_n dX9_tangleNow_16 rfl ?_
        refine xw_aload_n dX9_tangleNow_17 rfl ?_
        refine xw_getfield dX9_tangleNow_18 fl_X9_134 e0 rfl ?_
        refine xw_icmpge (tgt := 55) dX9_tangleNow_21 (by decide) (by first | assumption | (unfold inI; omega) | (unfold inI at *; omega)) (by first | assumption | (unfold inI; omega) | (unfold inI at *; omega)) (fun c_21 => ?_) (fun c_21 => ?_)
        · skip
          exfalso; omega
        · skip
          refine xw_aload_n dX9_tangleNow_24 rfl ?_
          refine xw_iload_n dX9_tangleNow_25 rfl ?_
          refine xw_callV (rc := 0) (rs := 0) (mc2 := 0) (ms2 := 0) (a := 0) (As := [vI (s : Int)]) (st := []) dX9_tangleNow_26 mv_X9_229 e0 rfl rfl (by decide) (by decide) (Nat.le_of_ble_eq_true rfl) rfl (ct_isHere e0 es (by unfold inI; omega) (fun t ht9 hlt2 hr => ?_) (fun hn => ?_))
          · skip
            refine xw_ifeq (tgt := 49) dX9_tangleNow_29 (by decide) (by unfold inI; omega) (fun c => absurd c (by decide)) (fun _ => ?_)
            obtain rfl : s = t := by omega
            have h1 := hc_1 hr
            refine xw_aload_n dX9_tangleNow_32 rfl ?_
            refine xw_getfield dX9_tangleNow_33 fl_X9_52 e0 rfl ?_
            refine xw_iload_n dX9_tangleNow_36 rfl ?_
            refine xw_aload_n dX9_tangleNow_37 rfl ?_
            refine xw_getfield dX9_tangleNow_38 fl_X9_17 e0 rfl ?_
            refine xw_iload_n dX9_tangleNow_41 rfl ?_
            refine xw_aald dX9_tangleNow_42 es.1 rfl (j := s) rfl (by omega) (by decide) ?_
            refine xw_topr (so s) (if_pos hlt) ?_
            refine xw_getfield dX9_tangleNow_43 fl_X9_211 hk.2.1 rfl ?_
            refine xw_callV (rc := 0) (rs := 0) (mc2 := 0) (ms2 := 0) (a := 22) (As := [vI (s : Int), vI (woS (σ s))]) (st := []) dX9_tangleNow_46 mv_X9_354 e22 rfl rfl (by decide) (by decide) (Nat.le_of_ble_eq_true rfl) rfl (ct_include e22 e23 e24 e25 e26 (by omega) ?_)
            refine xw_iinc dX9_tangleNow_49 rfl (by decide) ?_
            refine xw_goto (tgt := 16) dX9_tangleNow_52 (by decide) ?_
            first
              | exact xw_ls [(0, vR 0), (1, vI ((s + 1 : Nat) : Int))] ⟨rfl, rfl, trivial⟩ (ih (s + 1) f1 c w av bv (by omega) hf (by rw [hc_0 (fun q => hn ⟨s, rfl, hlt, q⟩)]; exact e22) e23 e24 e25 e26 hb (by rw [hc_0 (fun q => hn ⟨s, rfl, hlt, q⟩)]; exact hz) (fun t ht9 hr => by
                  by_cases e : t = s
                  · subst e; exact absurd ⟨t, rfl, hlt, hr⟩ hn
                  · exact hcw t (by omega) hr))
              | exact xw_ls [(0, vR 0), (1, vI ((s + 1 : Nat) : Int))] ⟨rfl, rfl, trivial⟩ (ih (s + 1) _ (xui c (hc σ s) (s : Int)) (xui w (hc σ s) (woS (σ s))) (xui av (hc σ s) 0) (xui bv (hc σ s) 0) (by omega) (fr_up (fr_up (fr_up (fr_up (fr_up hf (by decide)) (by decide)) (by decide)) (by decide)) (by decide)) (by rw [h1]; rfl) rfl rfl rfl rfl (fun j hj => by
                  unfold xui
                  split
                  · exact ⟨Nat.two_pow_pos 40, Nat.two_pow_pos 40⟩
                  · exact hb j hj) (fun j hj => by
                  unfold xui
                  split
                  · exact ⟨rfl, rfl⟩
                  · exact hz j (by omega)) (fun t ht9 hr9 => by
                  by_cases e : t = s
                  · subst e; rw [xui_s, xui_s]; exact ⟨rfl, rfl⟩
                  · have h9 := hc_lt (show t < s by omega) hr9
                    rw [xui_n _ _ (by omega), xui_n _ _ (by omega)]
                    exact hcw t (by omega) hr9))
          · skip
            refine xw_ifeq (tgt := 49) dX9_tangleNow_29 (by decide) (by unfold inI; omega) (fun _ => ?_) (fun c => absurd c (by decide))
            refine xw_iinc dX9_tangleNow_49 rfl (by decide) ?_
            refine xw_goto (tgt := 16) dX9_tangleNow_52 (by decide) ?_
            first
              | exact xw_ls [(0, vR 0), (1, vI ((s + 1 : Nat) : Int))] ⟨rfl, rfl, trivial⟩ (ih (s + 1) f1 c w av bv (by omega) hf (by rw [hc_0 (fun q => hn ⟨s, rfl, hlt, q⟩)]; exact e22) e23 e24 e25 e26 hb (by rw [hc_0 (fun q => hn ⟨s, rfl, hlt, q⟩)]; exact hz) (fun t ht9 hr => by
                  by_cases e : t = s
                  · subst e; exact absurd ⟨t, rfl, hlt, hr⟩ hn
                  · exact hcw t (by omega) hr))
              | exact xw_ls [(0, vR 0), (1, vI ((s + 1 : Nat) : Int))] ⟨rfl, rfl, trivial⟩ (ih (s + 1) _ (xui c (hc σ s) (s : Int)) (xui w (hc σ s) (woS (σ s))) (xui av (hc σ s) 0) (xui bv (hc σ s) 0) (by omega) (fr_up (fr_up (fr_up (fr_up (fr_up hf (by decide)) (by decide)) (by decide)) (by decide)) (by decide)) (by rw [h1]; rfl) rfl rfl rfl rfl (fun j hj => by
                  unfold xui
                  split
                  · exact ⟨Nat.two_pow_pos 40, Nat.two_pow_pos 40⟩
                  · exact hb j hj) (fun j hj => by
                  unfold xui
                  split
                  · exact ⟨rfl, rfl⟩
                  · exact hz j (by omega)) (fun t ht9 hr9 => by
                  by_cases e : t = s
                  · subst e; rw [xui_s, xui_s]; exact ⟨rfl, rfl⟩
                  · have h9 := hc_lt (show t < s by omega) hr9
                    rw [xui_n _ _ (by omega), xui_n _ _ (by omega)]
                    exact hcw t (by omega) hr9))
    refine xw_aload_n dX9_tangleNow_0 rfl ?_
    refine xw_getfield dX9_tangleNow_1 fl_X9_342 h0 rfl ?_
    refine xw_ifne (tgt := 113) dX9_tangleNow_4 (by decide) (by unfold inI; omega) (fun c_4 => ?_) (fun c_4 => ?_)
    · skip
      exact absurd rfl c_4
    · skip
      refine xw_aload_n dX9_tangleNow_7 rfl ?_
      refine xw_getfield dX9_tangleNow_8 fl_X9_52 h0 rfl ?_
      refine xw_callV (rc := 0) (rs := 0) (mc2 := 0) (ms2 := 0) (a := 22) (As := []) (st := []) dX9_tangleNow_11 mv_X9_351 h22 rfl rfl (by decide) (by decide) (Nat.le_of_ble_eq_true rfl) rfl (ct_clear h22 ?_)
      refine xw_iconst dX9_tangleNow_14 ?_
      refine xw_istore_n dX9_tangleNow_15 (by decide) ?_
      exact xw_ls [(0, vR 0), (1, vI ((0 : Nat) : Int))] ⟨rfl, rfl, trivial⟩ (L gn 0 _ c0 w0 av0 bv0 (by omega) (fr_up (fr_rf _ f) (by decide)) rfl h23 h24 h25 h26 hB1 (fun j hj => absurd hj (Nat.not_lt_zero j)) (fun t ht9 => absurd ht9 (by omega)))
  · skip
    refine xw_aload_n dX9_tangleNow_0 rfl ?_
    refine xw_getfield dX9_tangleNow_1 fl_X9_342 h0 rfl ?_
    refine xw_ifne (tgt := 113) dX9_tangleNow_4 (by decide) (by unfold inI; omega) (fun c_4 => ?_) (fun c_4 => ?_)
    · skip
      refine xw_aload_n dX9_tangleNow_113 rfl ?_
      refine xw_getfield dX9_tangleNow_114 fl_X9_52 h0 rfl ?_
      exact xw_aret dX9_tangleNow_117 rfl (hq f (fr_rf _ f) h0 hg ht)
    · skip
      exact absurd c_4 (by decide)
end C62
