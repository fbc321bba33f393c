/-! pairs; the places of a ring -/
def psum (av : Nat → Nat) : Nat → Nat
  | 0 => 0
  | k + 1 => psum av k + cnt (av k) 40
def rst (bv : Nat → Nat) (sz set : Nat) : Nat → Nat → Int → Nat → Nat → Int × Nat
  | 0, _, s, l, _ => (s, l)
  | k + 1, p, s, l, mo => if 0 < (if set.testBit p = true then rngf bv sz p mo 1 else 0) then rst bv sz set k (p + 1) (p : Int) (if set.testBit p = true then rngf bv sz p mo 1 else 0) ((if set.testBit p = true then rngf bv sz p mo 1 else 0) - 1) else rst bv sz set k (p + 1) s l mo
def rgo (av bv : Nat → Nat) (sz p len : Nat) : Nat → Nat → Nat → Int
  | 0, _, a => (a : Int)
  | k + 1, t, a => if xnth (fun q => (av a &&& wlk bv sz p (len - t)).testBit q) 0 0 0 40 = -1 then -1 else rgo av bv sz p len k (t + 1) (xnth (fun q => (av a &&& wlk bv sz p (len - t)).testBit q) 0 0 0 40).toNat
def pir (av bv : Nat → Nat) (sz set : Nat) (i : Int) : Int :=
  if i < 0 ∨ ((rst bv sz set sz 0 (-1) 0 (cnt set 40)).2 : Int) ≤ i then -1 else rgo av bv sz (rst bv sz set sz 0 (-1) 0 (cnt set 40)).1.toNat (rst bv sz set sz 0 (-1) 0 (cnt set 40)).2 i.toNat 1 (rst bv sz set sz 0 (-1) 0 (cnt set 40)).1.toNat
theorem cnt_le (x : Nat) : ∀ k, cnt x k ≤ k
  | 0 => Nat.le_refl 0
  | k + 1 => by have := cnt_le x k; show cnt x k + _ ≤ k + 1; split <;> omega
theorem rngf_in (bv : Nat → Nat) (sz p : Nat) : ∀ (k t : Nat), rngf bv sz p k t = 0 ∨ (t ≤ rngf bv sz p k t ∧ rngf bv sz p k t < t + k ∧ (wlk bv sz p (rngf bv sz p k t)).testBit p = true ∧ ∀ u, t ≤ u → u < rngf bv sz p k t → (wlk bv sz p u).testBit p = false) := by
  intro k
  induction k with
  | zero => intro t; exact Or.inl rfl
  | succ k ih =>
    intro t
    unfold rngf
    by_cases h : (wlk bv sz p t).testBit p = true
    · rw [if_pos h]; exact Or.inr ⟨by omega, by omega, h, fun u h1 h2 => by omega⟩
    · rw [if_neg h]
      rcases ih (t + 1) with h1 | ⟨h1, h2, h3, h4⟩
      · exact Or.inl h1
      · refine Or.inr ⟨by omega, by omega, h3, fun u q1 q2 => ?_⟩
        by_cases e : u = t
        · rw [e]; exact Bool.eq_false_iff.mpr h
        · exact h4 u (by omega) q2
theorem rngf_eq (bv : Nat → Nat) (sz p r : Nat) (hr : (wlk bv sz p r).testBit p = true) : ∀ (k t : Nat), t ≤ r → r < t + k → (∀ u, t ≤ u → u < r → (wlk bv sz p u).testBit p = false) → rngf bv sz p k t = r := by
  intro k
  induction k with
  | zero => intro t h1 h2 _; omega
  | succ k ih =>
    intro t h1 h2 h3
    unfold rngf
    by_cases e : t = r
    · rw [e, if_pos hr]
    · rw [if_neg (by rw [h3 t (by omega) (by omega)]; exact Bool.false_ne_true)]
      exact ih (t + 1) (by omega) (by omega) (fun u q1 q2 => h3 u (by omega) q2)
theorem rngf_self {bv : Nat → Nat} {sz p mo r : Nat} (h : rngf bv sz p mo 1 = r) (h0 : 0 < r) : r ≤ mo ∧ rngf bv sz p r 1 = r := by
  rcases rngf_in bv sz p mo 1 with h1 | ⟨h1, h2, h3, h4⟩
  · omega
  · rw [h] at h1 h2 h3 h4
    exact ⟨by omega, rngf_eq bv sz p r h3 r 1 h1 (by omega) h4⟩
theorem xnth_in (s : Nat → Bool) (i : Int) : ∀ (k a : Nat) (c : Int), xnth s i c a k = -1 ∨ ∃ p : Nat, a ≤ p ∧ p < a + k ∧ xnth s i c a k = (p : Int) ∧ s p = true := by
  intro k
  induction k with
  | zero => intro a c; exact Or.inl rfl
  | succ k ih =>
    intro a c
    unfold xnth
    by_cases h : s a = true
    · rw [if_pos h]
      by_cases h2 : c = i
      · rw [if_pos h2]; exact Or.inr ⟨a, by omega, by omega, rfl, h⟩
      · rw [if_neg h2]
        rcases ih (a + 1) (c + 1) with h1 | ⟨p, h1, h3, h4, h5⟩
        · exact Or.inl h1
        · exact Or.inr ⟨p, by omega, by omega, h4, h5⟩
    · rw [if_neg h]
      rcases ih (a + 1) c with h1 | ⟨p, h1, h3, h4, h5⟩
      · exact Or.inl h1
      · exact Or.inr ⟨p, by omega, by omega, h4, h5⟩
section C47
variable {g : xG} {Q : xP} {n : Nat} {f : xH}
set_option maxHeartbeats 4000000 in
theorem ct_pairs {sz : Nat} {ls kc : Int} {av : Nat → Nat} (h22 : f 22 = some (oTg sz ls kc)) (h25 : f 25 = some (aS 40 av)) (hsz : sz ≤ 40) (hav : ∀ j, j < sz → av j < 2 ^ 40) (hq : Q (.inl (some (vI ((psum av sz : Nat) : Int)))) n f) : xct g M_X8_pairs 0 0 [vR 22] n f Q := by
  refine xct_of rfl rfl (Nat.le_of_ble_eq_true rfl) ?_
  have K : ∀ (m i : Nat), i + m = sz → xw g M_X8_pairs Q 0 0 4 [(0, vR 22), (1, vI ((psum av i : Nat) : Int)), (2, vI (i : Int))] [] n f := by
    intro m
    induction m with
    | zero =>
      intro i hi
      refine xw_iload_n dX8_pairs_4 rfl ?_
      refine xw_aload_n dX8_pairs_5 rfl ?_
      refine xw_getfield dX8_pairs_6 fl_X8_40 h22 rfl ?_
      refine xw_icmpge (tgt := 30) dX8_pairs_9 (by decide) (by unfold inI; omega) (by unfold inI; omega) (fun c_9 => ?_) (fun c_9 => ?_)
      · skip
        refine xw_iload_n dX8_pairs_30 rfl ?_
        exact xw_iret dX8_pairs_31 rfl (by rw [show i = sz by omega]; exact hq)
      · skip
        exfalso; omega
    | succ m ih =>
      intro i hi
      refine xw_iload_n dX8_pairs_4 rfl ?_
      refine xw_aload_n dX8_pairs_5 rfl ?_
      refine xw_getfield dX8_pairs_6 fl_X8_40 h22 rfl ?_
      refine xw_icmpge (tgt := 30) dX8_pairs_9 (by decide) (by unfold inI; omega) (by unfold inI; omega) (fun c_9 => ?_) (fun c_9 => ?_)
      · skip
        exfalso; omega
      · skip
        refine xw_iload_n dX8_pairs_12 rfl ?_
        refine xw_aload_n dX8_pairs_13 rfl ?_
        refine xw_getfield dX8_pairs_14 fl_X8_18 h22 rfl ?_
        refine xw_iload_n dX8_pairs_17 rfl ?_
        refine xw_lald dX8_pairs_18 h25 (j := i) rfl (by omega) (by decide) ?_
        refine xw_callS (rc := 0) (rs := 0) (mc2 := 0) (ms2 := 0) (As := [vL ((av i : Nat) : Int)]) (st := [vI ((psum av i : Nat) : Int)]) dX8_pairs_19 ms_X8_56 rfl (by decide) (by decide) (Nat.le_of_ble_eq_true rfl) rfl (ct_bitL (hav i (by omega)) ?_)
        refine xw_iadd dX8_pairs_22 ?_
        refine xw_istore_n dX8_pairs_23 (by decide) ?_
        refine xw_iinc dX8_pairs_24 rfl (by decide) ?_
        refine xw_goto (tgt := 4) dX8_pairs_27 (by decide) ?_
        exact xw_ls [(0, vR 22), (1, vI ((psum av (i + 1) : Nat) : Int)), (2, vI ((i + 1 : Nat) : Int))] ⟨rfl, rfl, rfl, trivial⟩ (ih (i + 1) (by omega))
  refine xw_iconst dX8_pairs_0 ?_
  refine xw_istore_n dX8_pairs_1 (by decide) ?_
  refine xw_iconst dX8_pairs_2 ?_
  refine xw_istore_n dX8_pairs_3 (by decide) ?_
  exact xw_ls [(0, vR 22), (1, vI ((psum av 0 : Nat) : Int)), (2, vI ((0 : Nat) : Int))] ⟨rfl, rfl, rfl, trivial⟩ (K sz 0 (by omega))
set_option maxHeartbeats 4000000 in
theorem ct_placeInRing {sz set : Nat} {ls kc i : Int} {av bv wv : Nat → Nat} (h22 : f 22 = some (oTg sz ls kc)) (h25 : f 25 = some (aS 40 av)) (h26 : f 26 = some (aS 40 bv)) (h31 : f 31 = some (aS 41 wv)) (hsz : sz ≤ 40) (hset : set < 2 ^ 40) (hi : inI i) (hav : ∀ j, j < 40 → av j < 2 ^ 40) (hbv : ∀ j, j < 40 → bv j < 2 ^ 40)
    (hq : ∀ f1 wv1, fr [31] f f1 → f1 31 = some (aS 41 wv1) → Q (.inl (some (vI (pir av bv sz set i)))) n f1) : xct g M_X8_placeInRing 0 0 [vR 22, vL (set : Int), vI i] n f Q := by
  refine xct_of rfl rfl (Nat.le_of_ble_eq_true rfl) ?_
  have B62 : ∀ {x : Nat}, x < 2 ^ 40 → x < 2 ^ 62 := fun h => Nat.lt_of_lt_of_le h (xp2 (by decide))
  have hbv' : ∀ j, j < sz → bv j < 2 ^ 40 := fun j hj => hbv j (by omega)
  unfold pir at hq
  obtain ⟨R, hR⟩ : ∃ R, R = rst bv sz set sz 0 (-1) 0 (cnt set 40) := ⟨_, rfl⟩
  rw [← hR] at hq
  have G : ∀ (p len : Nat), p < 40 → len ≤ 40 → ∀ (m t a : Nat) (f1 : xH) (wv1 : Nat → Nat), 1 ≤ t → (t : Int) + m = i + 1 → t + m ≤ len → a < 40 → fr [31] f f1 → f1 31 = some (aS 41 wv1) → (∀ j, j ≤ len → wv1 j = wlk bv sz p j) → (∀ f1 wv1, fr [31] f f1 → f1 31 = some (aS 41 wv1) → Q (.inl (some (vI (rgo av bv sz p len m t a)))) n f1) → xw g M_X8_placeInRing Q 0 0 100 [(0, vR 22), (3, vI i), (5, vI (len : Int)), (7, vI (a : Int)), (8, vI (t : Int))] [] n f1 := by
    intro p len hp hlen m
    induction m with
    | zero =>
      intro t a f1 wv1 h1 ht htl ha hf e31 hw hq
      refine xw_iload dX8_placeInRing_100 rfl ?_
      refine xw_iload_n dX8_placeInRing_102 rfl ?_
      refine xw_icmpgt (tgt := 144) dX8_placeInRing_103 (by decide) (by unfold inI; omega) hi (fun c_103 => ?_) (fun c_103 => ?_)
      · skip
        refine xw_iload dX8_placeInRing_144 rfl ?_
        exact xw_iret dX8_placeInRing_146 rfl (hq f1 wv1 hf e31)
      · skip
        exfalso; omega
    | succ m ih =>
      intro t a f1 wv1 h1 ht htl ha hf e31 hw hq
      have e22 : f1 22 = some (oTg sz ls kc) := fr_at hf h22 (by decide)
      have e25 : f1 25 = some (aS 40 av) := fr_at hf h25 (by decide)
      unfold rgo at hq
      have hwl : wv1 (len - t) < 2 ^ 40 := by rw [hw (len - t) (by omega)]; exact wlk_lt hbv' hp _
      have hal : av a &&& wv1 (len - t) < 2 ^ 62 := Nat.and_lt_two_pow _ (B62 hwl)
      have hxi := xnth_in (fun q => (av a &&& wv1 (len - t)).testBit q) 0 40 0 0
      rw [← hw (len - t) (by omega)] at hq
      generalize ex : xnth (fun q => (av a &&& wv1 (len - t)).testBit q) 0 0 0 40 = x at *
      refine xw_iload dX8_placeInRing_100 rfl ?_
      refine xw_iload_n dX8_placeInRing_102 rfl ?_
      refine xw_icmpgt (tgt := 144) dX8_placeInRing_103 (by decide) (by unfold inI; omega) hi (fun c_103 => ?_) (fun c_103 => ?_)
      · skip
        exfalso; omega
      · skip
        refine xw_aload_n dX8_placeInRing_106 rfl ?_
        refine xw_getfield dX8_placeInRing_107 fl_X8_18 e22 rfl ?_
        refine xw_iload dX8_placeInRing_110 rfl ?_
        refine xw_lald dX8_placeInRing_112 e25 (j := a) rfl ha (by decide) ?_
        refine xw_aload_n dX8_placeInRing_113 rfl ?_
        refine xw_getfield dX8_placeInRing_114 fl_X8_37 e22 rfl ?_
        refine xw_iload dX8_placeInRing_117 rfl ?_
        refine xw_iload dX8_placeInRing_119 rfl ?_
        refine xw_isub dX8_placeInRing_121 ?_
        refine xw_lald dX8_placeInRing_122 e31 (j := len - t) (by omega) (by omega) (by decide) ?_
        refine xw_land dX8_placeInRing_123 (xb_and (B62 (hav a ha)) (B62 hwl)) ?_
        refine xw_iconst dX8_placeInRing_124 ?_
        refine xw_callSN (rc := 0) (rs := 0) (mc2 := 0) (ms2 := 0) (As := [vL ((av a &&& wv1 (len - t) : Nat) : Int), vI 0]) (st := []) dX8_placeInRing_125 sn_X8_102 (by decide) (by decide) (Nat.le_of_ble_eq_true rfl) rfl (ct_placeInSet hal (by unfold inI; omega) ?_)
        refine xw_topi x ex ?_
        refine xw_istore dX8_placeInRing_128 (by decide) ?_
        refine xw_iload dX8_placeInRing_130 rfl ?_
        refine xw_iconst dX8_placeInRing_132 ?_
        refine xw_icmpne (tgt := 138) dX8_placeInRing_133 (by decide) (by rcases hxi with h | ⟨q, h1, h2, h3, -⟩ <;> unfold inI <;> omega) (by unfold inI; omega) (fun c_133 => ?_) (fun c_133 => ?_)
        · skip
          obtain ⟨q, q1, q2, q3, -⟩ := hxi.resolve_left c_133
          subst q3
          refine xw_ls [(0, vR 22), (3, vI i), (5, vI (len : Int)), (7, vI (q : Int)), (8, vI (t : Int))] ⟨rfl, rfl, rfl, rfl, rfl, trivial⟩ ?_
          refine xw_iinc dX8_placeInRing_138 rfl (by decide) ?_
          refine xw_goto (tgt := 100) dX8_placeInRing_141 (by decide) ?_
          exact xw_ls [(0, vR 22), (3, vI i), (5, vI (len : Int)), (7, vI (q : Int)), (8, vI ((t + 1 : Nat) : Int))] ⟨rfl, rfl, rfl, rfl, rfl, trivial⟩ (ih (t + 1) q f1 wv1 (by omega) (by omega) (by omega) (by omega) hf e31 hw (fun f9 w9 g1 g2 => by have h9 := hq f9 w9 g1 g2; rw [if_neg c_133, Int.toNat_natCast] at h9; exact h9))
        · skip
          refine xw_iconst dX8_placeInRing_136 ?_
          exact xw_iret dX8_placeInRing_137 rfl (by have h9 := hq f1 wv1 hf e31; rw [if_pos c_133] at h9; exact h9)
  have E84 : ∀ (f1 : xH) (wv1 : Nat → Nat) (p l : Nat), fr [31] f f1 → f1 31 = some (aS 41 wv1) → l ≤ 40 → p < sz → rngf bv sz p l 1 = l → ¬ i < 0 → i < (l : Int) → (∀ f1 wv1, fr [31] f f1 → f1 31 = some (aS 41 wv1) → Q (.inl (some (vI (rgo av bv sz p l i.toNat 1 p)))) n f1) → xw g M_X8_placeInRing Q 0 0 84 [(0, vR 22), (3, vI i), (4, vI (p : Int)), (5, vI (l : Int))] [] n f1 := by
    intro f1 wv1 p l hf e31 hl hp hp3 c1 c2 hq3
    have e22 : f1 22 = some (oTg sz ls kc) := fr_at hf h22 (by decide)
    have e26 : f1 26 = some (aS 40 bv) := fr_at hf h26 (by decide)
    refine xw_aload_n dX8_placeInRing_84 rfl ?_
    refine xw_iload dX8_placeInRing_85 rfl ?_
    refine xw_iload dX8_placeInRing_87 rfl ?_
    refine xw_callV (rc := 0) (rs := 0) (mc2 := 0) (ms2 := 0) (a := 22) (As := [vI (p : Int), vI (l : Int)]) (st := []) dX8_placeInRing_89 mv_X8_99 e22 rfl rfl (by decide) (by decide) (Nat.le_of_ble_eq_true rfl) rfl (ct_ringThrough e22 e26 e31 hsz hp hl hbv' (fun f2 wv2 r hr hf2 e312 hw2 => ?_))
    refine xw_pop dX8_placeInRing_92 rfl ?_
    refine xw_iload dX8_placeInRing_93 rfl ?_
    refine xw_istore dX8_placeInRing_95 (by decide) ?_
    refine xw_iconst dX8_placeInRing_97 ?_
    refine xw_istore dX8_placeInRing_98 (by decide) ?_
    exact xw_ls [(0, vR 22), (3, vI i), (5, vI (l : Int)), (7, vI (p : Int)), (8, vI ((1 : Nat) : Int))] ⟨rfl, rfl, rfl, rfl, rfl, trivial⟩ (G p l (by omega) hl i.toNat 1 p f2 wv2 (by omega) (by omega) (by omega) (by omega) (fr_tr hf hf2) e312 (fun j hj => hw2 j (by rw [hr, hp3]; exact hj)) hq3)
  have E : ∀ (f1 : xH) (wv1 : Nat → Nat) (s : Int) (l : Nat), R = (s, l) → fr [31] f f1 → f1 31 = some (aS 41 wv1) → l ≤ 40 → (0 < l → ∃ p : Nat, s = (p : Int) ∧ p < sz ∧ rngf bv sz p l 1 = l) → xw g M_X8_placeInRing Q 0 0 72 [(0, vR 22), (3, vI i), (4, vI s), (5, vI (l : Int))] [] n f1 := by
    intro f1 wv1 s l he hf e31 hl hp
    rw [he] at hq
    have hq2 : ¬ (i < 0 ∨ (l : Int) ≤ i) → ∀ f1 wv1, fr [31] f f1 → f1 31 = some (aS 41 wv1) → Q (.inl (some (vI (rgo av bv sz s.toNat l i.toNat 1 s.toNat)))) n f1 := fun hc f9 w9 g1 g2 => by have h9 := hq f9 w9 g1 g2; rw [if_neg hc] at h9; exact h9
    have e22 : f1 22 = some (oTg sz ls kc) := fr_at hf h22 (by decide)
    have e26 : f1 26 = some (aS 40 bv) := fr_at hf h26 (by decide)
    refine xw_iload_n dX8_placeInRing_72 rfl ?_
    refine xw_iflt (tgt := 82) dX8_placeInRing_73 (by decide) hi (fun c_73 => ?_) (fun c_73 => ?_)
    · skip
      refine xw_iconst dX8_placeInRing_82 ?_
      exact xw_iret dX8_placeInRing_83 rfl (by have h9 := hq f1 wv1 hf e31; rw [if_pos (by omega)] at h9; exact h9)
    · skip
      refine xw_iload_n dX8_placeInRing_76 rfl ?_
      refine xw_iload dX8_placeInRing_77 rfl ?_
      refine xw_icmplt (tgt := 84) dX8_placeInRing_79 (by decide) hi (by unfold inI; omega) (fun c_79 => ?_) (fun c_79 => ?_)
      · skip
        obtain ⟨p, hps, hp2, hp3⟩ := hp (by omega)
        subst hps
        have hq3 := hq2 (by omega)
        rw [Int.toNat_natCast] at hq3
        exact E84 f1 wv1 p l hf e31 hl hp2 hp3 c_73 c_79 hq3
      · skip
        refine xw_iconst dX8_placeInRing_82 ?_
        exact xw_iret dX8_placeInRing_83 rfl (by have h9 := hq f1 wv1 hf e31; rw [if_pos (by omega)] at h9; exact h9)
  have L : ∀ (m q : Nat) (f1 : xH) (wv1 : Nat → Nat) (s : Int) (l mo : Nat), q + m = sz → rst bv sz set m q s l mo = R → fr [31] f f1 → f1 31 = some (aS 41 wv1) → mo ≤ 40 → l ≤ 40 → (0 < l → ∃ p : Nat, s = (p : Int) ∧ p < sz ∧ rngf bv sz p l 1 = l) → xw g M_X8_placeInRing Q 0 0 15 [(0, vR 22), (1, vL (set : Int)), (3, vI i), (4, vI s), (5, vI (l : Int)), (6, vI (mo : Int)), (7, vI (q : Int))] [] n f1 := by
    intro m
    induction m with
    | zero =>
      intro q f1 wv1 s l mo hq1 he hf e31 hmo hl hp
      have e22 : f1 22 = some (oTg sz ls kc) := fr_at hf h22 (by decide)
      refine xw_iload dX8_placeInRing_15 rfl ?_
      refine xw_aload_n dX8_placeInRing_17 rfl ?_
      refine xw_getfield dX8_placeInRing_18 fl_X8_40 e22 rfl ?_
      refine xw_icmpge (tgt := 72) dX8_placeInRing_21 (by decide) (by unfold inI; omega) (by unfold inI; omega) (fun c_21 => ?_) (fun c_21 => ?_)
      · skip
        exact xw_ls [(0, vR 22), (3, vI i), (4, vI s), (5, vI (l : Int))] ⟨rfl, rfl, rfl, rfl, trivial⟩ (E f1 wv1 s l he.symm hf e31 hl hp)
      · skip
        exfalso; omega
    | succ m ih =>
      intro q f1 wv1 s l mo hq1 he hf e31 hmo hl hp
      have e22 : f1 22 = some (oTg sz ls kc) := fr_at hf h22 (by decide)
      have e26 : f1 26 = some (aS 40 bv) := fr_at hf h26 (by decide)
      unfold rst at he
      have T : ∀ (r : Nat) (f2 : xH) (wv2 : Nat → Nat), r = (if set.testBit q = true then rngf bv sz q mo 1 else 0) → fr [31] f f2 → f2 31 = some (aS 41 wv2) → xw g M_X8_placeInRing Q 0 0 45 [(0, vR 22), (1, vL (set : Int)), (3, vI i), (4, vI s), (5, vI (l : Int)), (6, vI (mo : Int)), (7, vI (q : Int))] [vI (r : Int)] n f2 := by
        intro r f2 wv2 hr hf2 e312
        rw [← hr] at he
        have hr2 : 0 < r → r ≤ mo ∧ rngf bv sz q r 1 = r := by
          intro h0
          by_cases hb : set.testBit q = true
          · rw [if_pos hb] at hr; exact rngf_self hr.symm h0
          · rw [if_neg hb] at hr; omega
        have hr3 : r ≤ 40 := by
          by_cases h0 : 0 < r
          · have := (hr2 h0).1; omega
          · omega
        refine xw_istore dX8_placeInRing_45 (by decide) ?_
        refine xw_iload dX8_placeInRing_47 rfl ?_
        refine xw_ifle (tgt := 66) dX8_placeInRing_49 (by decide) (by unfold inI; omega) (fun c_49 => ?_) (fun c_49 => ?_)
        · skip
          refine xw_iinc dX8_placeInRing_66 rfl (by decide) ?_
          refine xw_goto (tgt := 15) dX8_placeInRing_69 (by decide) ?_
          first
            | (rw [if_neg (by omega)] at he; exact xw_ls [(0, vR 22), (1, vL (set : Int)), (3, vI i), (4, vI s), (5, vI (l : Int)), (6, vI (mo : Int)), (7, vI ((q + 1 : Nat) : Int))] ⟨rfl, rfl, rfl, rfl, rfl, rfl, rfl, trivial⟩ (ih (q + 1) f2 wv2 s l mo (by omega) he hf2 e312 hmo hl hp))
            | (rw [if_pos (by omega)] at he; exact xw_ls [(0, vR 22), (1, vL (set : Int)), (3, vI i), (4, vI (q : Int)), (5, vI (r : Int)), (6, vI ((r : Int) - 1)), (7, vI ((q + 1 : Nat) : Int))] ⟨rfl, rfl, rfl, rfl, rfl, rfl, rfl, trivial⟩ (by
                have e9 : (r : Int) - 1 = ((r - 1 : Nat) : Int) := by omega
                rw [e9]
                exact ih (q + 1) f2 wv2 (q : Int) r (r - 1) (by omega) he hf2 e312 (by omega) hr3 (fun h0 => ⟨q, rfl, by omega, (hr2 h0).2⟩)))
        · skip
          refine xw_iload dX8_placeInRing_52 rfl ?_
          refine xw_istore dX8_placeInRing_54 (by decide) ?_
          refine xw_iload dX8_placeInRing_56 rfl ?_
          refine xw_istore dX8_placeInRing_58 (by decide) ?_
          refine xw_iload dX8_placeInRing_60 rfl ?_
          refine xw_iconst dX8_placeInRing_62 ?_
          refine xw_isub dX8_placeInRing_63 ?_
          refine xw_istore dX8_placeInRing_64 (by decide) ?_
          refine xw_iinc dX8_placeInRing_66 rfl (by decide) ?_
          refine xw_goto (tgt := 15) dX8_placeInRing_69 (by decide) ?_
          first
            | (rw [if_neg (by omega)] at he; exact xw_ls [(0, vR 22), (1, vL (set : Int)), (3, vI i), (4, vI s), (5, vI (l : Int)), (6, vI (mo : Int)), (7, vI ((q + 1 : Nat) : Int))] ⟨rfl, rfl, rfl, rfl, rfl, rfl, rfl, trivial⟩ (ih (q + 1) f2 wv2 s l mo (by omega) he hf2 e312 hmo hl hp))
            | (rw [if_pos (by omega)] at he; exact xw_ls [(0, vR 22), (1, vL (set : Int)), (3, vI i), (4, vI (q : Int)), (5, vI (r : Int)), (6, vI ((r : Int) - 1)), (7, vI ((q + 1 : Nat) : Int))] ⟨rfl, rfl, rfl, rfl, rfl, rfl, rfl, trivial⟩ (by
                have e9 : (r : Int) - 1 = ((r - 1 : Nat) : Int) := by omega
                rw [e9]
                exact ih (q + 1) f2 wv2 (q : Int) r (r - 1) (by omega) he hf2 e312 (by omega) hr3 (fun h0 => ⟨q, rfl, by omega, (hr2 h0).2⟩)))
      refine xw_iload dX8_placeInRing_15 rfl ?_
      refine xw_aload_n dX8_placeInRing_17 rfl ?_
      refine xw_getfield dX8_placeInRing_18 fl_X8_40 e22 rfl ?_
      refine xw_icmpge (tgt := 72) dX8_placeInRing_21 (by decide) (by unfold inI; omega) (by unfold inI; omega) (fun c_21 => ?_) (fun c_21 => ?_)
      · skip
        exfalso; omega
      · skip
        refine xw_lload_n dX8_placeInRing_24 rfl ?_
        refine xw_iload dX8_placeInRing_25 rfl ?_
        refine xw_callSN (rc := 0) (rs := 0) (mc2 := 0) (ms2 := 0) (As := [vL (set : Int), vI (q : Int)]) (st := []) dX8_placeInRing_27 sn_X8_48 (by decide) (by decide) (Nat.le_of_ble_eq_true rfl) rfl (ct_isIn (B62 hset) (by omega) (fun h_27 => ?_) (fun h_27 => ?_))
        · skip
          refine xw_ifeq (tgt := 44) dX8_placeInRing_30 (by decide) (by unfold inI; omega) (fun c => absurd c (by decide)) (fun _ => ?_)
          refine xw_aload_n dX8_placeInRing_33 rfl ?_
          refine xw_iload dX8_placeInRing_34 rfl ?_
          refine xw_iload dX8_placeInRing_36 rfl ?_
          refine xw_callV (rc := 0) (rs := 0) (mc2 := 0) (ms2 := 0) (a := 22) (As := [vI (q : Int), vI (mo : Int)]) (st := []) dX8_placeInRing_38 mv_X8_99 e22 rfl rfl (by decide) (by decide) (Nat.le_of_ble_eq_true rfl) rfl (ct_ringThrough e22 e26 e31 hsz (by omega) hmo hbv' (fun f2 wv2 r hr hf2 e312 hw2 => ?_))
          refine xw_goto (tgt := 45) dX8_placeInRing_41 (by decide) ?_
          first
            | exact xw_ls [(0, vR 22), (1, vL (set : Int)), (3, vI i), (4, vI s), (5, vI (l : Int)), (6, vI (mo : Int)), (7, vI (q : Int))] ⟨rfl, rfl, rfl, rfl, rfl, rfl, rfl, trivial⟩ (T r f2 wv2 (by rw [if_pos h_27]; exact hr) (fr_tr hf hf2) e312)
            | exact xw_ls [(0, vR 22), (1, vL (set : Int)), (3, vI i), (4, vI s), (5, vI (l : Int)), (6, vI (mo : Int)), (7, vI (q : Int))] ⟨rfl, rfl, rfl, rfl, rfl, rfl, rfl, trivial⟩ (T 0 f1 wv1 (by rw [if_neg (fun h => Bool.noConfusion (h_27.symm.trans h))]) hf e31)
        · skip
          refine xw_ifeq (tgt := 44) dX8_placeInRing_30 (by decide) (by unfold inI; omega) (fun _ => ?_) (fun c => absurd c (by decide))
          refine xw_iconst dX8_placeInRing_44 ?_
          first
            | exact xw_ls [(0, vR 22), (1, vL (set : Int)), (3, vI i), (4, vI s), (5, vI (l : Int)), (6, vI (mo : Int)), (7, vI (q : Int))] ⟨rfl, rfl, rfl, rfl, rfl, rfl, rfl, trivial⟩ (T r f2 wv2 (by rw [if_pos h_27]; exact hr) (fr_tr hf hf2) e312)
            | exact xw_ls [(0, vR 22), (1, vL (set : Int)), (3, vI i), (4, vI s), (5, vI (l : Int)), (6, vI (mo : Int)), (7, vI (q : Int))] ⟨rfl, rfl, rfl, rfl, rfl, rfl, rfl, trivial⟩ (T 0 f1 wv1 (by rw [if_neg (fun h => Bool.noConfusion (h_27.symm.trans h))]) hf e31)
  refine xw_iconst dX8_placeInRing_0 ?_
  refine xw_istore dX8_placeInRing_1 (by decide) ?_
  refine xw_iconst dX8_placeInRing_3 ?_
  refine xw_istore dX8_placeInRing_4 (by decide) ?_
  refine xw_lload_n dX8_placeInRing_6 rfl ?_
  refine xw_callS (rc := 0) (rs := 0) (mc2 := 0) (ms2 := 0) (As := [vL (set : Int)]) (st := []) dX8_placeInRing_7 ms_X8_56 rfl (by decide) (by decide) (Nat.le_of_ble_eq_true rfl) rfl (ct_bitL hset ?_)
  refine xw_istore dX8_placeInRing_10 (by decide) ?_
  refine xw_iconst dX8_placeInRing_12 ?_
  refine xw_istore dX8_placeInRing_13 (by decide) ?_
  exact xw_ls [(0, vR 22), (1, vL (set : Int)), (3, vI i), (4, vI (-1)), (5, vI ((0 : Nat) : Int)), (6, vI ((cnt set 40 : Nat) : Int)), (7, vI ((0 : Nat) : Int))] ⟨rfl, rfl, rfl, rfl, rfl, rfl, rfl, trivial⟩ (L sz 0 f wv (-1) 0 (cnt set 40) (by omega) hR.symm (fr_rf _ _) h31 (cnt_le set 40) (by omega) (fun h0 => absurd h0 (by decide)))
end C47
