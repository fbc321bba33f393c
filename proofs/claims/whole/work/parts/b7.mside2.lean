/-! the model follows the class: what is asked -/
theorem dws_cg (a : Nat) : ∀ (k s : Nat) (b b1 : Nat → Int), (∀ j, j < s → b j = b1 j) → ∀ j, j < s + k → dws a k s b j = dws a k s b1 j := by
  intro k
  induction k with
  | zero => intro s b b1 h j hj; exact h j hj
  | succ k ih =>
    intro s b b1 h j hj
    refine ih (s + 1) _ _ (fun i hi => ?_) j (by omega)
    by_cases e : i = s
    · subst e; rw [xui_s, xui_s]
    · rw [xui_n _ _ e, xui_n _ _ e]; exact h i (by omega)
theorem fr1_cg {a : Nat} {p p1 : Nat × (Nat → Int)} (e : p.1 = p1.1) (h : ∀ j, j < p.1 → p.2 j = p1.2 j) : (fr1 a p).1 = (fr1 a p1).1 ∧ ∀ j, j < (fr1 a p).1 → (fr1 a p).2 j = (fr1 a p1).2 j := by
  refine ⟨by show p.1 + _ + 1 = p1.1 + _ + 1; rw [e], fun j hj => ?_⟩
  show dws a (dgE 12 a + 1) p.1 p.2 j = dws a (dgE 12 a + 1) p1.1 p1.2 j
  rw [← e]
  have hj : j < p.1 + dgE 12 a + 1 := hj
  exact dws_cg a _ _ _ _ h j (by omega)
theorem frac_cg {neg : Bool} {a d : Nat} {b b1 : Nat → Int} : (frac neg a d b).1 = (frac neg a d b1).1 ∧ ∀ j, j < (frac neg a d b).1 → (frac neg a d b).2 j = (frac neg a d b1).2 j := by
  have h0 : (fr0 neg b).1 = (fr0 neg b1).1 ∧ ∀ j, j < (fr0 neg b).1 → (fr0 neg b).2 j = (fr0 neg b1).2 j := by
    cases neg with
    | false => exact ⟨rfl, fun j hj => absurd hj (Nat.not_lt_zero _)⟩
    | true =>
      refine ⟨rfl, fun j hj => ?_⟩
      have hj : j < 1 := hj
      obtain rfl : j = 0 := by omega
      show xui b 0 45 0 = xui b1 0 45 0
      rw [xui_s, xui_s]
  have h1 := fr1_cg (a := a) h0.1 h0.2
  unfold frac fr2
  by_cases e : d = 1
  · rw [if_pos e, if_pos e]; exact h1
  · rw [if_neg e, if_neg e]
    refine fr1_cg (by show _ + 1 = _ + 1; rw [h1.1]) (fun j hj => ?_)
    have hj : j < (fr1 a (fr0 neg b)).1 + 1 := hj
    show xui (fr1 a (fr0 neg b)).2 (fr1 a (fr0 neg b)).1 47 j = xui (fr1 a (fr0 neg b1)).2 (fr1 a (fr0 neg b1)).1 47 j
    rw [← h1.1]
    by_cases q : j = (fr1 a (fr0 neg b)).1
    · rw [q, xui_s, xui_s]
    · rw [xui_n _ _ q, xui_n _ _ q]; exact h1.2 j (by omega)
theorem wir_u {av : Nat → Nat} {c : Nat → Int} {sz : Nat} {pr : Nat → Int} {pu : Nat} : ∀ (m i S : Nat) (fi la r r' : Int), wir av c sz pr pu m i S fi la r → wir av c sz pr pu m i S fi la r' → r = r' := by
  intro m
  induction m with
  | zero => intro i S fi la r r' h h'; unfold wir at h h'; rw [h, h']
  | succ m ih =>
    intro i S fi la r r' h h'
    unfold wir at h h'
    rcases h with ⟨a, e⟩ | ⟨a, h⟩
    · rcases h' with ⟨_, e'⟩ | ⟨a', _⟩
      · rw [e, e']
      · exact absurd a a'
    · rcases h' with ⟨a', _⟩ | ⟨_, h'⟩
      · exact absurd a' a
      · exact ih _ _ _ _ _ _ h h'
theorem aftR_u {gn : Nat} {σ : Nat → xSt} {z r r' : Int} (h : aftR gn σ z r) (h' : aftR gn σ z r') : r = r' := by
  rcases h with ⟨e, a⟩ | ⟨s, h1, e, h2, h3, h4⟩
  · rcases h' with ⟨e', _⟩ | ⟨s', h1', e', h2', h3', h4'⟩
    · rw [e, e']
    · exact absurd h3' (a s' h1' h2')
  · rcases h' with ⟨e', a'⟩ | ⟨s', h1', e', h2', h3', h4'⟩
    · exact absurd h3 (a' s h1 h2)
    · rw [e, e']
      rcases Nat.lt_trichotomy s s' with k | k | k
      · exact absurd h3 (h4' s k h2)
      · rw [k]
      · exact absurd h3' (h4 s' k h2')
theorem free_av {gn : Nat} {σ : Nat → xSt} {d : Nat → Int} {sz : Nat} {N : Nat → Nat} {av : Nat → Nat} {s : Nat} (hN : onO gn σ sz N) (hav : avR sz av (fun i j => mBar d σ (N i) (N j))) (hs : s < gn) (hr : hrS (σ s) = 1) : av (hc σ s) = 0 ↔ ∀ o, o < gn → hrS (σ o) = 1 → ¬ mBar d σ o s := by
  obtain ⟨p1, p2⟩ := onO_at hN hs hr
  constructor
  · intro e o ho hro hb
    obtain ⟨q1, q2⟩ := onO_at hN ho hro
    have t := (hav (hc σ s) (hc σ o) p1).2 ⟨q1, by show mBar d σ (N (hc σ o)) (N (hc σ s)); rw [q2, p2]; exact hb⟩
    rw [e, Nat.zero_testBit] at t
    exact absurd t (by decide)
  · intro a
    refine Nat.eq_of_testBit_eq (fun q => ?_)
    rw [Nat.zero_testBit]
    cases e : (av (hc σ s)).testBit q with
    | false => rfl
    | true =>
      obtain ⟨q1, q2⟩ := (hav (hc σ s) q p1).1 e
      have q2 : mBar d σ (N q) (N (hc σ s)) := q2
      rw [p2] at q2
      obtain ⟨r1, r2, _⟩ := hN.2 q q1
      exact absurd q2 (a _ r1 r2)
theorem bars_av {gn : Nat} {σ : Nat → xSt} {d : Nat → Int} {sz : Nat} {N : Nat → Nat} {av : Nat → Nat} {s t : Nat} (hN : onO gn σ sz N) (hav : avR sz av (fun i j => mBar d σ (N i) (N j))) (hs : s < gn) (hr : hrS (σ s) = 1) (ht : t < gn) (hrt : hrS (σ t) = 1) : (av (hc σ t)).testBit (hc σ s) = true ↔ mBar d σ s t := by
  obtain ⟨p1, p2⟩ := onO_at hN hs hr
  obtain ⟨q1, q2⟩ := onO_at hN ht hrt
  rw [hav _ _ q1]
  show (_ ∧ mBar d σ (N (hc σ s)) (N (hc σ t))) ↔ _
  rw [p2, q2]
  exact ⟨fun a => a.2, fun a => ⟨p1, a⟩⟩
/-- what the tangle holds, in the model's words -/
def tgF (gn : Nat) (σ : Nat → xSt) (d : Nat → Int) (sz : Nat) (ls kc : Int) (c w : Nat → Int) (av bv rv : Nat → Nat) (lf ly : Nat → Int) (ks : Nat → Nat) (N : Nat → Nat) : Prop :=
  (onO gn σ sz N) ∧
  (sz ≤ 40) ∧
  (avR sz av (fun i j => mBar d σ (N i) (N j))) ∧
  (∀ i j, i < sz → ((bv i).testBit j = true ↔ (j < sz ∧ mBar d σ (N i) (N j)))) ∧
  (∀ p, p < sz → c p = (N p : Int)) ∧
  (∀ p, p < sz → w p = woS (σ (N p))) ∧
  (∃ lf0 ly0, ls = ((lio av sz sz 0 (2 ^ sz - 1) lf0 ly0).1 : Int) ∧ lf = (lio av sz sz 0 (2 ^ sz - 1) lf0 ly0).2.1 ∧ ly = (lio av sz sz 0 (2 ^ sz - 1) lf0 ly0).2.2) ∧
  (∀ j, j < 40 → 0 ≤ ly j ∧ ly j ≤ 40) ∧
  (∀ j, j < sz → ∀ q, (rv j).testBit q = true ↔ WP av sz q j) ∧
  (KI sz (fun i j => WP av sz i j) sz (mkA (fun i j => WP av sz i j) sz).1 (mkA (fun i j => WP av sz i j) sz).2) ∧
  (kc = ((mkA (fun i j => WP av sz i j) sz).2 : Int)) ∧
  (∀ k, k < (mkA (fun i j => WP av sz i j) sz).2 → ∀ q, (ks k).testBit q = true ↔ (q < sz ∧ (mkA (fun i j => WP av sz i j) sz).1 q = (k : Int))) ∧
  ((mkA (fun i j => WP av sz i j) sz).2 ≤ 20)
theorem tgF.hN {gn : Nat} {σ : Nat → xSt} {d : Nat → Int} {sz : Nat} {ls kc : Int} {c w : Nat → Int} {av bv rv : Nat → Nat} {lf ly : Nat → Int} {ks : Nat → Nat} {N : Nat → Nat} (F : tgF gn σ d sz ls kc c w av bv rv lf ly ks N) : onO gn σ sz N := F.1
theorem tgF.h40 {gn : Nat} {σ : Nat → xSt} {d : Nat → Int} {sz : Nat} {ls kc : Int} {c w : Nat → Int} {av bv rv : Nat → Nat} {lf ly : Nat → Int} {ks : Nat → Nat} {N : Nat → Nat} (F : tgF gn σ d sz ls kc c w av bv rv lf ly ks N) : sz ≤ 40 := F.2.1
theorem tgF.hav {gn : Nat} {σ : Nat → xSt} {d : Nat → Int} {sz : Nat} {ls kc : Int} {c w : Nat → Int} {av bv rv : Nat → Nat} {lf ly : Nat → Int} {ks : Nat → Nat} {N : Nat → Nat} (F : tgF gn σ d sz ls kc c w av bv rv lf ly ks N) : avR sz av (fun i j => mBar d σ (N i) (N j)) := F.2.2.1
theorem tgF.hbv {gn : Nat} {σ : Nat → xSt} {d : Nat → Int} {sz : Nat} {ls kc : Int} {c w : Nat → Int} {av bv rv : Nat → Nat} {lf ly : Nat → Int} {ks : Nat → Nat} {N : Nat → Nat} (F : tgF gn σ d sz ls kc c w av bv rv lf ly ks N) : ∀ i j, i < sz → ((bv i).testBit j = true ↔ (j < sz ∧ mBar d σ (N i) (N j))) := F.2.2.2.1
theorem tgF.hc {gn : Nat} {σ : Nat → xSt} {d : Nat → Int} {sz : Nat} {ls kc : Int} {c w : Nat → Int} {av bv rv : Nat → Nat} {lf ly : Nat → Int} {ks : Nat → Nat} {N : Nat → Nat} (F : tgF gn σ d sz ls kc c w av bv rv lf ly ks N) : ∀ p, p < sz → c p = (N p : Int) := F.2.2.2.2.1
theorem tgF.hw {gn : Nat} {σ : Nat → xSt} {d : Nat → Int} {sz : Nat} {ls kc : Int} {c w : Nat → Int} {av bv rv : Nat → Nat} {lf ly : Nat → Int} {ks : Nat → Nat} {N : Nat → Nat} (F : tgF gn σ d sz ls kc c w av bv rv lf ly ks N) : ∀ p, p < sz → w p = woS (σ (N p)) := F.2.2.2.2.2.1
theorem tgF.hio {gn : Nat} {σ : Nat → xSt} {d : Nat → Int} {sz : Nat} {ls kc : Int} {c w : Nat → Int} {av bv rv : Nat → Nat} {lf ly : Nat → Int} {ks : Nat → Nat} {N : Nat → Nat} (F : tgF gn σ d sz ls kc c w av bv rv lf ly ks N) : ∃ lf0 ly0, ls = ((lio av sz sz 0 (2 ^ sz - 1) lf0 ly0).1 : Int) ∧ lf = (lio av sz sz 0 (2 ^ sz - 1) lf0 ly0).2.1 ∧ ly = (lio av sz sz 0 (2 ^ sz - 1) lf0 ly0).2.2 := F.2.2.2.2.2.2.1
theorem tgF.hly {gn : Nat} {σ : Nat → xSt} {d : Nat → Int} {sz : Nat} {ls kc : Int} {c w : Nat → Int} {av bv rv : Nat → Nat} {lf ly : Nat → Int} {ks : Nat → Nat} {N : Nat → Nat} (F : tgF gn σ d sz ls kc c w av bv rv lf ly ks N) : ∀ j, j < 40 → 0 ≤ ly j ∧ ly j ≤ 40 := F.2.2.2.2.2.2.2.1
theorem tgF.hrv {gn : Nat} {σ : Nat → xSt} {d : Nat → Int} {sz : Nat} {ls kc : Int} {c w : Nat → Int} {av bv rv : Nat → Nat} {lf ly : Nat → Int} {ks : Nat → Nat} {N : Nat → Nat} (F : tgF gn σ d sz ls kc c w av bv rv lf ly ks N) : ∀ j, j < sz → ∀ q, (rv j).testBit q = true ↔ WP av sz q j := F.2.2.2.2.2.2.2.2.1
theorem tgF.hK {gn : Nat} {σ : Nat → xSt} {d : Nat → Int} {sz : Nat} {ls kc : Int} {c w : Nat → Int} {av bv rv : Nat → Nat} {lf ly : Nat → Int} {ks : Nat → Nat} {N : Nat → Nat} (F : tgF gn σ d sz ls kc c w av bv rv lf ly ks N) : KI sz (fun i j => WP av sz i j) sz (mkA (fun i j => WP av sz i j) sz).1 (mkA (fun i j => WP av sz i j) sz).2 := F.2.2.2.2.2.2.2.2.2.1
theorem tgF.hkc {gn : Nat} {σ : Nat → xSt} {d : Nat → Int} {sz : Nat} {ls kc : Int} {c w : Nat → Int} {av bv rv : Nat → Nat} {lf ly : Nat → Int} {ks : Nat → Nat} {N : Nat → Nat} (F : tgF gn σ d sz ls kc c w av bv rv lf ly ks N) : kc = ((mkA (fun i j => WP av sz i j) sz).2 : Int) := F.2.2.2.2.2.2.2.2.2.2.1
theorem tgF.hks {gn : Nat} {σ : Nat → xSt} {d : Nat → Int} {sz : Nat} {ls kc : Int} {c w : Nat → Int} {av bv rv : Nat → Nat} {lf ly : Nat → Int} {ks : Nat → Nat} {N : Nat → Nat} (F : tgF gn σ d sz ls kc c w av bv rv lf ly ks N) : ∀ k, k < (mkA (fun i j => WP av sz i j) sz).2 → ∀ q, (ks k).testBit q = true ↔ (q < sz ∧ (mkA (fun i j => WP av sz i j) sz).1 q = (k : Int)) := F.2.2.2.2.2.2.2.2.2.2.2.1
theorem tgF.h20 {gn : Nat} {σ : Nat → xSt} {d : Nat → Int} {sz : Nat} {ls kc : Int} {c w : Nat → Int} {av bv rv : Nat → Nat} {lf ly : Nat → Int} {ks : Nat → Nat} {N : Nat → Nat} (F : tgF gn σ d sz ls kc c w av bv rv lf ly ks N) : (mkA (fun i j => WP av sz i j) sz).2 ≤ 20 := F.2.2.2.2.2.2.2.2.2.2.2.2
theorem tgD_F {gn : Nat} {σ : Nat → xSt} {d : Nat → Int} {sz : Nat} {ls kc : Int} {c w : Nat → Int} {av bv rv : Nat → Nat} {lf ly : Nat → Int} {ks : Nat → Nat} {N : Nat → Nat} (hz : ¬ z3 d) (hn : NT gn σ) (h : tgD gn σ d sz ls kc c w av bv rv lf ly ks N) : tgF gn σ d sz ls kc c w av bv rv lf ly ks N := by
  obtain ⟨hB, hG, ⟨lf0, ly0, _, e1, e2, e3⟩, hrv, ks0, e4, e5⟩ := h
  obtain ⟨a, b, c9, d9, e9⟩ := tgG_av hz hn hG
  have k := knots_eq (ks0 := ks0) hG.2.1 b (fun p q => q.1 rfl) (fun j hj => (hrv j hj).2)
  exact ⟨a, hG.2.1, b, c9, d9, e9, ⟨lf0, ly0, e1, e2, e3⟩, hB.2, fun j hj => (hrv j hj).2, k.1, by rw [e4, k.2.1], fun i hi => by rw [e5]; exact k.2.2.1 i hi, k.2.2.2⟩
theorem MS_z {f : xH} {th : Int} {bn : Nat} {β : Nat → xBx} {gn : Nat} {σ : Nat → xSt} {d : Nat → Int} {as : List xAc} {ps : Nat} {pb : Nat → Int} {pu : Nat} {pr : Nat → Int} (h : MS f th bn β gn σ d as ps pb pu pr) : ¬ z3 d := by
  obtain ⟨m, _, _, _, _, _, _, _, _, _, _, hz⟩ := h
  exact hz
theorem bits_ex (P : Nat → Prop) : ∀ sz : Nat, ∃ m : Nat, ∀ q, m.testBit q = true ↔ (q < sz ∧ P q) := by
  intro sz
  induction sz with
  | zero => exact ⟨0, fun q => ⟨fun a => (by rw [Nat.zero_testBit] at a; cases a), fun a => absurd a.1 (Nat.not_lt_zero _)⟩⟩
  | succ sz ih =>
    obtain ⟨m, hm⟩ := ih
    by_cases hp : P sz
    · refine ⟨m ||| 2 ^ sz, fun q => ?_⟩
      rw [Nat.testBit_or, Bool.or_eq_true, hm, Nat.testBit_two_pow, decide_eq_true_iff]
      constructor
      · rintro (⟨a, b⟩ | a)
        · exact ⟨by omega, b⟩
        · subst a; exact ⟨by omega, hp⟩
      · rintro ⟨a, b⟩
        by_cases e : sz = q
        · exact Or.inr e
        · exact Or.inl ⟨by omega, b⟩
    · refine ⟨m, fun q => ?_⟩
      rw [hm]
      constructor
      · rintro ⟨a, b⟩; exact ⟨by omega, b⟩
      · rintro ⟨a, b⟩
        by_cases e : q = sz
        · subst e; exact absurd b hp
        · exact ⟨by omega, b⟩
theorem WP_lt {av : Nat → Nat} {sz : Nat} {B : Nat → Nat → Prop} (hav : avR sz av B) : ∀ (m q j : Nat), m ≤ sz → j < sz → WP av m q j → q < sz := by
  intro m
  induction m with
  | zero => intro q j _ hj h; exact ((hav j q hj).1 h).1
  | succ m ih =>
    intro q j hm hj h
    rcases h with h | ⟨_, h⟩
    · exact ih q j (by omega) hj h
    · exact ih q m (by omega) (by omega) h
theorem tgF_ly {gn : Nat} {σ : Nat → xSt} {d : Nat → Int} {sz : Nat} {ls kc : Int} {c w : Nat → Int} {av bv rv : Nat → Nat} {lf ly : Nat → Int} {ks : Nat → Nat} {N : Nat → Nat} (F : tgF gn σ d sz ls kc c w av bv rv lf ly ks N) (e0 : (mkA (fun i j => WP av sz i j) sz).2 = 0) : lyOK sz (fun i j => mBar d σ (N i) (N j)) (fun j => (ly j).toNat) := by
  have h40 := F.h40
  obtain ⟨lf0, ly0, _, _, e3⟩ := F.hio
  have L := lyOK_of (lf0 := lf0) (ly0 := ly0) F.hav F.hrv (fun p hp hw => ?_) (fun p q => q.1 rfl) (fun j hj => by rw [← e3]; exact F.hly j (by omega))
  · rw [← e3] at L; exact L
  · have a := F.hK.2.2.2 p hp hp hw
    have b := F.hK.1 p hp
    rw [e0] at b
    omega
theorem tgF_ex {gn : Nat} {σ : Nat → xSt} (d : Nat → Int) (h40 : hc σ gn ≤ 40) : ∃ sz ls kc c w av bv rv lf ly ks N, tgF gn σ d sz ls kc c w av bv rv lf ly ks N := by
  obtain ⟨sz, hsz⟩ : ∃ sz, sz = hc σ gn := ⟨_, rfl⟩
  rw [← hsz] at h40
  have exN : ∀ p, ∃ t, p < sz → t < gn ∧ hrS (σ t) = 1 ∧ hc σ t = p := by
    intro p
    by_cases hp : p < sz
    · obtain ⟨t, a, b, c⟩ := hc_ex (σ := σ) gn p (by omega)
      exact ⟨t, fun _ => ⟨a, b, c⟩⟩
    · exact ⟨0, fun q => absurd q hp⟩
  obtain ⟨N, hN⟩ := Classical.axiomOfChoice exN
  obtain ⟨B, hB⟩ : ∃ B : Nat → Nat → Prop, B = fun i j => mBar d σ (N i) (N j) := ⟨_, rfl⟩
  obtain ⟨av, hav⟩ := Classical.axiomOfChoice (fun i => bits_ex (fun j => B j i) sz)
  obtain ⟨bv, hbv⟩ := Classical.axiomOfChoice (fun i => bits_ex (fun j => B i j) sz)
  obtain ⟨rv, hrv⟩ := Classical.axiomOfChoice (fun j => bits_ex (fun q => WP av sz q j) sz)
  have hav' : avR sz av B := fun i j _ => hav i j
  have hrv' : ∀ j, j < sz → ∀ q, (rv j).testBit q = true ↔ WP av sz q j := fun j hj q => ⟨fun a => ((hrv j q).1 a).2, fun a => (hrv j q).2 ⟨WP_lt hav' sz q j (Nat.le_refl _) hj a, a⟩⟩
  have k := knots_eq (ks0 := fun _ => 0) h40 hav' (fun p q => by rw [hB] at q; exact q.1 rfl) hrv'
  have pp := Nat.two_pow_pos sz
  have p40 := xp2 h40
  have l := lio_ok av sz h40 sz 0 (2 ^ sz - 1) (fun _ => 0) (fun _ => 0) (by omega) ⟨by omega, fun j _ => ⟨by show (0 : Int) ≤ 0; decide, by show (0 : Int) ≤ 40; decide⟩, fun j hj hb => by rw [Nat.testBit_two_pow_sub_one, decide_eq_true hj] at hb; cases hb⟩
  refine ⟨sz, _, _, fun p => (N p : Int), fun p => woS (σ (N p)), av, bv, rv, _, _, _, N, ⟨hsz, hN⟩, h40, by rw [hB] at hav'; exact hav', fun i j _ => by rw [hB] at hbv; exact hbv i j, fun _ _ => rfl, fun _ _ => rfl, ⟨fun _ => 0, fun _ => 0, rfl, rfl, rfl⟩, fun j hj => ?_, hrv', k.1, rfl, k.2.2.1, k.2.2.2⟩
  by_cases e : j < sz
  · exact l.2 j e
  · rw [lio_o av sz j (by omega)]; omega
theorem MS_ex {f : xH} {th : Int} {bn : Nat} {β : Nat → xBx} {gn : Nat} {σ : Nat → xSt} {d : Nat → Int} {as : List xAc} {ps : Nat} {pb : Nat → Int} {pu : Nat} {pr : Nat → Int} (h : MS f th bn β gn σ d as ps pb pu pr) : ∃ sz ls kc c w av bv rv lf ly ks N, tgF gn σ d sz ls kc c w av bv rv lf ly ks N := by
  obtain ⟨m, _, _, _, _, _, _, _, _, h40, _, _⟩ := h
  exact tgF_ex d h40
section Cb7
variable {g : xG} {Q : xP} {n : Nat} {f : xH} {th : Int} {bn : Nat} {β : Nat → xBx} {gn : Nat} {σ : Nat → xSt} {d : Nat → Int} {as : List xAc} {ps : Nat} {pb : Nat → Int} {pu : Nat} {pr : Nat → Int} {k v : Int} {S1 : LSt}
theorem mwt_lift {z : Int} (h : MSs f th (mkS bn β gn σ d as ps pb pu pr)) (hi : chn gn σ as) (hz : inI z) (hr : rl_lift bn β gn σ d as ps pb pu pr z k v S1) (hq : ∀ f1 v', MSs f1 k S1 → kC f f1 → (k = 0 → v' = v) → Q (.inl (some (vI v'))) n f1) : xct g M_X10_lift 0 0 [vR 38, vI z] n f Q := by
  have h : MS f th bn β gn σ d as ps pb pu pr := h
  refine mct_lift h (chn_mem as σ hi) hz (fun s f1 e1 h1 h2 h3 hM hC => ?_) (fun s f1 e1 h1 h2 h3 hM hC => ?_) (fun a f1 hM hC => ?_)
  · rcases hr with ⟨s', e1', q1, q2, rfl, hr⟩ | ⟨c, _⟩
    · obtain rfl : s' = s := by omega
      rcases hr with ⟨rfl, _, rfl⟩ | ⟨_, ⟨sz, ls, kc, c, w, av, bv, rv, lf, ly, ks, N, hD, hv⟩, _⟩
      · rw [← e1] at hM
        exact hq f1 _ hM hC (fun _ => rfl)
      · have F := tgD_F (MS_z h) (chn_nt hi) hD
        exact absurd ((free_av F.hN F.hav h1 h2).2 h3) hv
    · exact absurd (hre_s e1 h1 h2) c
  · rcases hr with ⟨s', e1', q1, q2, rfl, hr⟩ | ⟨c, _⟩
    · obtain rfl : s' = s := by omega
      rcases hr with ⟨_, ⟨sz, ls, kc, c, w, av, bv, rv, lf, ly, ks, N, hD, hv⟩, _⟩ | ⟨rfl, _, rfl⟩
      · have F := tgD_F (MS_z h) (chn_nt hi) hD
        exact absurd ((free_av F.hN F.hav h1 h2).1 hv) h3
      · exact hq f1 _ hM hC (fun _ => rfl)
    · exact absurd (hre_s e1 h1 h2) c
  · rcases hr with ⟨s', e1', q1, q2, _⟩ | ⟨_, rfl, rfl⟩
    · exact absurd (hre_s e1' q1 q2) a
    · exact hq f1 _ hM hC (fun e => absurd e (by decide))
theorem mwt_free {z : Int} (h : MSs f th (mkS bn β gn σ d as ps pb pu pr)) (hi : chn gn σ as) (hz : inI z) (hr : rl_free bn β gn σ d as ps pb pu pr z k v S1) (hq : ∀ f1 v', MSs f1 k S1 → kC f f1 → (k = 0 → v' = v) → Q (.inl (some (vI v'))) n f1) : xct g M_X10_free 0 0 [vR 38, vI z] n f Q := by
  have h : MS f th bn β gn σ d as ps pb pu pr := h
  refine mct_free h hz (fun s r f1 e1 h1 h2 hM hC h3 => ?_) (fun a f1 hM hC => ?_)
  · rcases hr with ⟨s', e1', q1, q2, rfl, ⟨sz, ls, kc, c, w, av, bv, rv, lf, ly, ks, N, hD, hv⟩, rfl⟩ | ⟨c, _⟩
    · obtain rfl : s' = s := by omega
      have F := tgD_F (MS_z h) (chn_nt hi) hD
      have w := free_av F.hN F.hav h1 h2
      refine hq f1 _ hM hC (fun _ => ?_)
      rcases h3 with ⟨e, h3⟩ | ⟨e, h3⟩
      · rw [hv, if_pos (w.2 h3), e]
      · rw [hv, if_neg (fun q => h3 (w.1 q)), e]
    · exact absurd (hre_s e1 h1 h2) c
  · rcases hr with ⟨s', e1', q1, q2, _⟩ | ⟨_, rfl, rfl⟩
    · exact absurd (hre_s e1' q1 q2) a
    · exact hq f1 _ hM hC (fun e => absurd e (by decide))
theorem mwt_bars {z z2 : Int} (h : MSs f th (mkS bn β gn σ d as ps pb pu pr)) (hi : chn gn σ as) (hz : inI z) (hz2 : inI z2) (hr : rl_bars bn β gn σ d as ps pb pu pr z z2 k v S1) (hq : ∀ f1 v', MSs f1 k S1 → kC f f1 → (k = 0 → v' = v) → Q (.inl (some (vI v'))) n f1) : xct g M_X10_bars 0 0 [vR 38, vI z, vI z2] n f Q := by
  have h : MS f th bn β gn σ d as ps pb pu pr := h
  refine mct_bars h hz hz2 (fun s t r f1 e1 e2 h1 h2 h3 h4 hM hC h5 => ?_) (fun a f1 hM hC => ?_)
  · rcases hr with ⟨s', t', e1', e2', q1, q2, q3, q4, rfl, ⟨sz, ls, kc, c, w, av, bv, rv, lf, ly, ks, N, hD, hv⟩, rfl⟩ | ⟨c, _⟩
    · obtain rfl : s' = s := by omega
      obtain rfl : t' = t := by omega
      have F := tgD_F (MS_z h) (chn_nt hi) hD
      have w := bars_av F.hN F.hav h1 h3 h2 h4
      refine hq f1 _ hM hC (fun _ => ?_)
      rcases h5 with ⟨e, h5⟩ | ⟨e, h5⟩
      · rw [hv, if_pos (w.2 h5), e]
      · rw [hv, if_neg (fun q => h5 (w.1 q)), e]
    · exact absurd ⟨hre_s e1 h1 h3, hre_s e2 h2 h4⟩ c
  · rcases hr with ⟨s', t', e1', e2', q1, q2, q3, q4, _⟩ | ⟨_, rfl, rfl⟩
    · exact absurd ⟨hre_s e1' q1 q2, hre_s e2' q3 q4⟩ a
    · exact hq f1 _ hM hC (fun e => absurd e (by decide))
theorem mwt_layer {z : Int} (h : MSs f th (mkS bn β gn σ d as ps pb pu pr)) (hi : chn gn σ as) (hz : inI z) (hr : rl_layer bn β gn σ d as ps pb pu pr z k v S1) (hq : ∀ f1 v', MSs f1 k S1 → kC f f1 → (k = 0 → v' = v) → Q (.inl (some (vI v'))) n f1) : xct g M_X10_layer 0 0 [vR 38, vI z] n f Q := by
  have h : MS f th bn β gn σ d as ps pb pu pr := h
  rcases hr with ⟨s', e1', q1, q2, rfl, ⟨sz, ls, kc, c, w, av, bv, rv, lf, ly, ks, N, hD, hv⟩, rfl⟩ | ⟨c9, rfl, rfl⟩
  · have F := tgD_F (MS_z h) (chn_nt hi) hD
    have hlt := (onO_at F.hN q1 q2).1
    have h40 := F.h40
    refine mct_layer (ly := fun j => (ly j).toNat) h hz F.hN F.hav (fun e0 => ?_) (fun s f1 e1 h1 h2 hM hC => ?_) (fun a f1 hM hC => absurd (hre_s e1' q1 q2) a)
    · exact tgF_ly F e0
    · obtain rfl : s' = s := by omega
      refine hq f1 _ hM hC (fun _ => ?_)
      have l := F.hly (hc σ s') (by omega)
      rw [hv, F.hkc]
      by_cases e : 0 < (mkA (fun i j => WP av sz i j) sz).2
      · rw [if_pos e, if_pos (by omega)]
      · rw [if_neg e, if_neg (by omega)]
        show (((ly (hc σ s')).toNat : Nat) : Int) = _
        omega
  · obtain ⟨sz, ls, kc, c, w, av, bv, rv, lf, ly, ks, N, F⟩ := MS_ex h
    have h40 := F.h40
    refine mct_layer (ly := fun j => (ly j).toNat) h hz F.hN F.hav (fun e0 => tgF_ly F e0) (fun s f1 e1 h1 h2 hM hC => absurd (hre_s e1 h1 h2) c9) (fun a f1 hM hC => hq f1 _ hM hC (fun e => absurd e (by decide)))
theorem mwt_check {z : Int} (h : MSs f th (mkS bn β gn σ d as ps pb pu pr)) (hi : chn gn σ as) (hz : inI z) (hr : rl_check bn β gn σ d as ps pb pu pr z k v S1) (hq : ∀ f1 v', MSs f1 k S1 → kC f f1 → (k = 0 → v' = v) → Q (.inl (some (vI v'))) n f1) : xct g M_X10_check 0 0 [vR 38, vI z] n f Q := by
  have h : MS f th bn β gn σ d as ps pb pu pr := h
  rcases hr with ⟨c9, rfl, ⟨sz, ls, kc, c, w, av, bv, rv, lf, ly, ks, N, hD, hv1, hv2⟩, rfl⟩ | ⟨c9, rfl, rfl⟩
  · have F := tgD_F (MS_z h) (chn_nt hi) hD
    exact mct_check h hz F.hN F.hav F.hc (fun e f1 hM hC => hq f1 _ hM hC (fun _ => (hv1 e).symm)) (fun e f1 r h1 hM hC => hq f1 _ hM hC (fun _ => wir_u _ _ _ _ _ _ _ h1 (hv2 e))) (fun a => absurd c9 a)
  · obtain ⟨sz, ls, kc, c, w, av, bv, rv, lf, ly, ks, N, F⟩ := MS_ex h
    exact mct_check h hz F.hN F.hav F.hc (fun e => absurd (Or.inl e) c9) (fun e => absurd (Or.inr e) c9) (fun a f1 hM hC => hq f1 _ hM hC (fun e => absurd e (by decide)))
theorem mwt_crossings {z : Int} (h : MSs f th (mkS bn β gn σ d as ps pb pu pr)) (hi : chn gn σ as) (hz : inI z) (hr : rl_crossings bn β gn σ d as ps pb pu pr z k v S1) (hq : ∀ f1 v', MSs f1 k S1 → kC f f1 → (k = 0 → v' = v) → Q (.inl (some (vI v'))) n f1) : xct g M_X10_crossings 0 0 [vR 38, vI z] n f Q := by
  have h : MS f th bn β gn σ d as ps pb pu pr := h
  refine mct_crossings h hz (fun s f1 e1 h1 h2 hM hC => ?_) (fun a f1 hM hC => ?_)
  · rcases hr with ⟨s', e1', q1, q2, rfl, rfl, rfl⟩ | ⟨c, _⟩
    · obtain rfl : s' = s := by omega
      exact hq f1 _ hM hC (fun _ => by rw [(lists_same (MS_z h) (chn_nt hi) h1 h2).1])
    · exact absurd (hre_s e1 h1 h2) c
  · rcases hr with ⟨s', e1', q1, q2, _⟩ | ⟨_, rfl, rfl⟩
    · exact absurd (hre_s e1' q1 q2) a
    · exact hq f1 _ hM hC (fun e => absurd e (by decide))
theorem ps_both {s : Nat} (hz : ¬ z3 d) {a : Nat} : (a < (clist d gn σ s).1 → ps7 ((clist d gn σ s).2 a)) ∧ (a < (mlist d gn σ s).1 → ps7 ((mlist d gn σ s).2 a)) := by
  have pC : ∀ i o j, o < gn → tC d σ s i o j → 0 < (seV d (σ s) i (σ o) j).2.2.1 ∧ 0 < (seV d (σ s) i (σ o) j).2.2.2.2 := fun i o j _ k => ((cls_x hz).2 k.2.2.2).1
  have pM : ∀ i o j, o < gn → tM d σ s i o j → 0 < (xVl d (σ s) i (σ o) j).2.2.1 ∧ 0 < (xVl d (σ s) i (σ o) j).2.2.2.2 := fun i o j _ k => ((mod_x hz).2 k.2.2.2).1
  exact ⟨fun ha => memL_ps (clist_ok pC).2 (fun i o j k => pC i o j k.1 k.2) ha, fun ha => memL_ps (mlist_ok pM).2 (fun i o j k => pM i o j k.1 k.2) ha⟩
theorem mwt_crossing {z k9 w : Int} (h : MSs f th (mkS bn β gn σ d as ps pb pu pr)) (hi : chn gn σ as) (hz : inI z) (hk9 : inI k9) (hw : inI w) (hr : rl_crossing bn β gn σ d as ps pb pu pr z k9 w k v S1) (hq : ∀ f1 v', MSs f1 k S1 → kC f f1 → (k = 0 → v' = v) → Q (.inl (some (vI v'))) n f1) : xct g M_X10_crossing 0 0 [vR 38, vI z, vI k9, vI w] n f Q := by
  have h : MS f th bn β gn σ d as ps pb pu pr := h
  refine mct_crossing h hz hk9 hw (fun s f1 r e1 h1 h2 hM hC h3 => ?_) (fun a f1 hM hC => ?_)
  · rcases hr with ⟨s', e1', q1, q2, rfl, hr, rfl⟩ | ⟨c, _⟩
    · obtain rfl : s' = s := by omega
      have L := lists_same (MS_z h) (chn_nt hi) h1 h2
      have P := fun a => ps_both (gn := gn) (σ := σ) (s := s') (MS_z h) (a := a)
      refine hq f1 _ hM hC (fun _ => ?_)
      rw [L.1] at hr
      rcases hr with ⟨a, e⟩ | ⟨a, hr⟩
      · rcases h3 with ⟨_, e'⟩ | ⟨a', _⟩
        · rw [e, e']
        · exact absurd a' a
      · rcases h3 with ⟨a', _⟩ | ⟨_, h3⟩
        · exact absurd a a'
        · have hk : k9.toNat < (mlist d gn σ s').1 := by omega
          exact crsA_u h3 (crsA_eq ((P _).1 (by rw [L.1]; exact hk)) ((P _).2 hk) (L.2 _ (by rw [L.1]; exact hk)) hr)
    · exact absurd (hre_s e1 h1 h2) c
  · rcases hr with ⟨s', e1', q1, q2, _⟩ | ⟨_, rfl, rfl⟩
    · exact absurd (hre_s e1' q1 q2) a
    · exact hq f1 _ hM hC (fun e => absurd e (by decide))
theorem mwt_print {z k9 w : Int} (h : MSs f th (mkS bn β gn σ d as ps pb pu pr)) (hi : chn gn σ as) (hz : inI z) (hk9 : inI k9) (hw : inI w) (hr : rl_print bn β gn σ d as ps pb pu pr z k9 w k v S1) (hq : ∀ f1 v', MSs f1 k S1 → kC f f1 → (k = 0 → v' = v) → Q (.inl (some (vI v'))) n f1) : xct g M_X10_print 0 0 [vR 38, vI z, vI k9, vI w] n f Q := by
  have h : MS f th bn β gn σ d as ps pb pu pr := h
  refine mct_print h hz hk9 hw (fun s f1 e1 h1 h2 hM hC h3 => ?_) (fun s f1 c t b pb0 r e1 h1 h2 h3 ec hc9 ht er hM hC => ?_) (fun a f1 hM hC => ?_)
  · rcases hr with ⟨s', e1', q1, q2, rfl, hr⟩ | ⟨c, _⟩
    · obtain rfl : s' = s := by omega
      have L := lists_same (MS_z h) (chn_nt hi) h1 h2
      rw [L.1] at hr
      rcases hr with ⟨_, rfl, rfl⟩ | ⟨c, t, b, r, a1, _, _, a2, _⟩
      · exact hq f1 _ hM hC (fun _ => rfl)
      · exact absurd ⟨a1, a2.elim (fun q => Or.inl q.1) (fun q => Or.inr q.1)⟩ h3
    · exact absurd (hre_s e1 h1 h2) c
  · rcases hr with ⟨s', e1', q1, q2, rfl, hr⟩ | ⟨c, _⟩
    · obtain rfl : s' = s := by omega
      have L := lists_same (MS_z h) (chn_nt hi) h1 h2
      have P := fun a => ps_both (gn := gn) (σ := σ) (s := s') (MS_z h) (a := a)
      rw [L.1] at hr
      rcases hr with ⟨c9, _⟩ | ⟨c', t', b', r', a1, ec', hc9', ht', er', rfl, rfl⟩
      · exact absurd ⟨h3, ht.elim (fun q => Or.inl q.1) (fun q => Or.inr q.1)⟩ c9
      · have hk : k9.toNat < (mlist d gn σ s').1 := by omega
        have p1 := (P _).1 (by rw [L.1]; exact hk)
        have p2 := (P _).2 hk
        have p3 := L.2 _ (by rw [L.1]; exact hk)
        rw [← ec'] at p1 p3
        rw [← ec] at p2 p3
        have z1 : 0 < b ∧ 0 < b' ∧ t * (b' : Int) = t' * (b : Int) := by
          obtain ⟨p11, p12⟩ := p1
          obtain ⟨p21, p22⟩ := p2
          obtain ⟨_, _, _, x1, x2⟩ := p3
          rcases ht with ⟨w1, w2, w3⟩ | ⟨w1, w2, w3⟩
          · rcases ht' with ⟨_, w2', w3'⟩ | ⟨w1', _⟩
            · rw [w2, w2', w3, w3']
              exact ⟨by omega, by omega, x1.symm⟩
            · omega
          · rcases ht' with ⟨w1', _⟩ | ⟨_, w2', w3'⟩
            · omega
            · rw [w2, w2', w3, w3']
              exact ⟨by omega, by omega, x2.symm⟩
        have Z := red_z z1.1 z1.2.1 z1.2.2
        rw [Z.1, Z.2.1, Z.2.2] at er
        have G := frac_cg (neg := decide (t' < 0)) (a := t'.natAbs / Nat.gcd t'.natAbs b') (d := b' / Nat.gcd t'.natAbs b') (b := pb0) (b1 := pb)
        rw [← er, ← er'] at G
        have M := hM r'.2 G.2
        rw [G.1] at M ⊢
        exact hq f1 _ M hC (fun _ => rfl)
    · exact absurd (hre_s e1 h1 h2) c
  · rcases hr with ⟨s', e1', q1, q2, _⟩ | ⟨_, rfl, rfl⟩
    · exact absurd (hre_s e1' q1 q2) a
    · exact hq f1 _ hM hC (fun e => absurd e (by decide))
end Cb7
