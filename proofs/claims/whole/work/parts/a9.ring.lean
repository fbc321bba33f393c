/-! the ring of a knot -/
theorem xnth_fst {s : Nat → Bool} {x : Nat} (hx : s x = true) : ∀ (k a : Nat), a ≤ x → x < a + k → (∀ j, a ≤ j → j < x → s j = false) → xnth s 0 0 a k = (x : Int) := by
  intro k
  induction k with
  | zero => intro a h1 h2 _; omega
  | succ k ih =>
    intro a h1 h2 h3
    rw [xnth]
    by_cases e : a = x
    · subst e; rw [if_pos hx, if_pos rfl]
    · rw [if_neg (by rw [h3 a (Nat.le_refl _) (by omega)]; decide)]
      exact ih (a + 1) (by omega) (by omega) (fun j hj => h3 j (by omega))
section Ca9
variable {av bv : Nat → Nat} {sz S : Nat} {B : Nat → Nat → Prop} {kn : Nat → Int} {kc : Nat} {k : Int}
theorem wlk_k {p v : Nat} (hav : avR sz av B) (hbv : ∀ i j, i < sz → ((bv i).testBit j = true ↔ (j < sz ∧ B i j))) (hK : KI sz (fun i j => WP av sz i j) sz kn kc) (hk : k ≠ -1) (hp : p < sz) (hkp : kn p = k) : (wlk bv sz p v).testBit p = true ↔ pth (kE sz kn k B) p v p := by
  rw [wlk_bit hbv hp]
  constructor
  · intro h
    have := pth_kn hav hK hp (by rw [hkp]; exact hk) v p h ⟨0, rfl⟩
    rw [hkp] at this
    exact this
  · exact pth_mono kE_Ez v p
theorem rngf_SH {p v mo : Nat} (hav : avR sz av B) (hbv : ∀ i j, i < sz → ((bv i).testBit j = true ↔ (j < sz ∧ B i j))) (hK : KI sz (fun i j => WP av sz i j) sz kn kc) (hk : k ≠ -1) (hp : p < sz) (hkp : kn p = k) (h : SH (kE sz kn k B) p v) : rngf bv sz p mo 1 = if v ≤ mo then v else 0 := by
  have w := fun u => wlk_k (v := u) hav hbv hK hk hp hkp
  by_cases e : v ≤ mo
  · rw [if_pos e]
    refine rngf_eq bv sz p v ((w v).2 h.2.1) mo 1 h.1 (by omega) (fun u h1 h2 => ?_)
    cases z : (wlk bv sz p u).testBit p
    · rfl
    · exact absurd ((w u).1 z) (h.2.2 u h1 h2)
  · rw [if_neg e]
    rcases rngf_in bv sz p mo 1 with z | ⟨z1, z2, z3, _⟩
    · exact z
    · exact absurd ((w _).1 z3) (h.2.2 _ z1 (by omega))
def rsI (sz : Nat) (kn : Nat → Int) (k : Int) (B : Nat → Nat → Prop) (M a : Nat) (s : Int) (l mo : Nat) : Prop := ((∀ a', a' < a → ¬ kn a' = k) ∧ l = 0 ∧ mo = M) ∨ ∃ p, p < a ∧ kn p = k ∧ s = (p : Int) ∧ SH (kE sz kn k B) p l ∧ mo = l - 1 ∧ ∀ a' v, a' < a → kn a' = k → SH (kE sz kn k B) a' v → l ≤ v ∧ (a' < p → l < v)
theorem rst_ok {M : Nat} (hav : avR sz av B) (hbv : ∀ i j, i < sz → ((bv i).testBit j = true ↔ (j < sz ∧ B i j))) (hK : KI sz (fun i j => WP av sz i j) sz kn kc) (hk : k ≠ -1) (hS : ∀ j, S.testBit j = true ↔ (j < sz ∧ kn j = k)) (hex : ∀ p, p < sz → kn p = k → ∃ v, SH (kE sz kn k B) p v ∧ v ≤ M) : ∀ (m a : Nat) (s : Int) (l mo : Nat), a + m = sz → rsI sz kn k B M a s l mo → ∃ mo', rsI sz kn k B M sz (rst bv sz S m a s l mo).1 (rst bv sz S m a s l mo).2 mo' := by
  intro m
  induction m with
  | zero =>
    intro a s l mo ha h
    have e : a = sz := by omega
    subst e
    exact ⟨mo, h⟩
  | succ m ih =>
    intro a s l mo ha h
    rw [rst]
    by_cases hb : S.testBit a = true
    · have ka := ((hS a).1 hb).2
      obtain ⟨v, hv, hM⟩ := hex a (by omega) ka
      rw [if_pos hb, rngf_SH hav hbv hK hk (by omega) ka hv]
      have v1 := hv.1
      rcases h with ⟨h1, h2, h3⟩ | ⟨p, h1, h2, h3, h4, h5, h6⟩
      · rw [if_pos (show v ≤ mo by omega), if_pos (by omega)]
        refine ih (a + 1) _ _ _ (by omega) (Or.inr ⟨a, by omega, ka, rfl, hv, rfl, fun a' v' ha' hk' hs' => ?_⟩)
        by_cases e : a' = a
        · subst e; rw [SH_u hv hs']; exact ⟨Nat.le_refl _, fun z => absurd z (Nat.lt_irrefl _)⟩
        · exact absurd hk' (h1 a' (by omega))
      · have l1 := h4.1
        by_cases e : v ≤ mo
        · rw [if_pos e, if_pos (by omega)]
          refine ih (a + 1) _ _ _ (by omega) (Or.inr ⟨a, by omega, ka, rfl, hv, rfl, fun a' v' ha' hk' hs' => ?_⟩)
          by_cases e' : a' = a
          · subst e'; rw [SH_u hv hs']; exact ⟨Nat.le_refl _, fun z => absurd z (Nat.lt_irrefl _)⟩
          · have := h6 a' v' (by omega) hk' hs'
            exact ⟨by omega, fun _ => by omega⟩
        · rw [if_neg e, if_neg (by omega)]
          refine ih (a + 1) _ _ _ (by omega) (Or.inr ⟨p, by omega, h2, h3, h4, h5, fun a' v' ha' hk' hs' => ?_⟩)
          by_cases e' : a' = a
          · subst e'
            have := SH_u hv hs'
            exact ⟨by omega, fun z => by omega⟩
          · exact h6 a' v' (by omega) hk' hs'
    · rw [if_neg hb, if_neg (Nat.lt_irrefl 0)]
      have ka : ¬ kn a = k := fun z => hb ((hS a).2 ⟨by omega, z⟩)
      refine ih (a + 1) _ _ _ (by omega) ?_
      rcases h with ⟨h1, h2, h3⟩ | ⟨p, h1, h2, h3, h4, h5, h6⟩
      · refine Or.inl ⟨fun a' ha' => ?_, h2, h3⟩
        by_cases e' : a' = a
        · subst e'; exact ka
        · exact h1 a' (by omega)
      · refine Or.inr ⟨p, by omega, h2, h3, h4, h5, fun a' v' ha' hk' hs' => ?_⟩
        by_cases e' : a' = a
        · subst e'; exact absurd hk' ka
        · exact h6 a' v' (by omega) hk' hs'
theorem rgo_ok {p least : Nat} {q : Nat → Nat} (h40 : sz ≤ 40) (hav : avR sz av B) (hbv : ∀ i j, i < sz → ((bv i).testBit j = true ↔ (j < sz ∧ B i j))) (hK : KI sz (fun i j => WP av sz i j) sz kn kc) (hk : k ≠ -1) (hP : rgP (kE sz kn k B) sz kn k p least) (hR : rgS (kE sz kn k B) p least q least) (hq : ∀ r, r < least → q r < sz) : ∀ (m t : Nat), 1 ≤ t → t + m ≤ least → rgo av bv sz p least m t (q (t - 1)) = (q (t - 1 + m) : Int) := by
  obtain ⟨hp, hkp, hSH, _⟩ := hP
  obtain ⟨q0, hq9⟩ := hR
  -- back to where it began
  have back : ∀ r, r < least → pth (kE sz kn k B) (q r) r p := by
    intro r
    induction r with
    | zero => intro _; exact q0.symm
    | succ r ih =>
      intro hr
      have a := ih (by omega)
      have b := (hq9 (r + 1) (by omega) hr).1
      rw [Nat.add_sub_cancel] at b
      have c := pth_app (p := q (r + 1)) r (u := 1) ⟨q (r + 1), rfl, b⟩ a
      rw [show 1 + r = r + 1 by omega] at c
      exact c
  have inK : ∀ r, r < least → kn (q r) = k := by
    intro r hr
    cases r with
    | zero => rw [q0]; exact hkp
    | succ r => exact (hq9 (r + 1) (by omega) hr).1.1.2
  have sel : ∀ t, 1 ≤ t → t < least → ∀ j, (av (q (t - 1)) &&& wlk bv sz p (least - t)).testBit j = true ↔ (kE sz kn k B j (q (t - 1)) ∧ DS (kE sz kn k B) p j (least - t)) := by
    intro t h1 h2 j
    have aq := hq (t - 1) (by omega)
    rw [and_bit, wlk_bit hbv hp, hav _ _ aq]
    constructor
    · rintro ⟨⟨hj, hB⟩, hw⟩
      have bk : pth (Ez sz B) j (1 + (t - 1)) p := pth_app (t - 1) (show pth (Ez sz B) j 1 (q (t - 1)) from ⟨j, rfl, hj, aq, hB⟩) (pth_mono kE_Ez _ _ (back (t - 1) (by omega)))
      have kj : kn j = k := by
        rw [← hkp]
        refine ((hK.2.2.1 p j hp hj (by rw [hkp]; exact hk)).2).2 ⟨?_, ?_⟩
        · obtain ⟨u, hu⟩ : ∃ u, least - t = u + 1 := ⟨least - t - 1, by omega⟩
          rw [hu] at hw
          exact pth_WP hav u j hw
        · rw [show 1 + (t - 1) = (t - 1) + 1 by omega] at bk
          exact pth_WP hav (t - 1) p bk
      have e : kE sz kn k B j (q (t - 1)) := ⟨⟨hj, kj⟩, ⟨aq, inK (t - 1) (by omega)⟩, hB⟩
      have pk : pth (kE sz kn k B) p (least - t) j := by
        have := pth_kn hav hK hp (by rw [hkp]; exact hk) (least - t) j hw ⟨_, bk⟩
        rw [hkp] at this
        exact this
      refine ⟨e, pk, fun w hw' hpw => ?_⟩
      have c := pth_app (t - 1) (pth_app 1 hpw (show pth (kE sz kn k B) j 1 (q (t - 1)) from ⟨j, rfl, e⟩)) (back (t - 1) (by omega))
      exact hSH.2.2 (w + 1 + (t - 1)) (by omega) (by omega) c
    · rintro ⟨e, d⟩
      exact ⟨⟨e.1.1, e.2.2⟩, pth_mono kE_Ez _ _ d.1⟩
  intro m
  induction m with
  | zero => intro t _ _; rfl
  | succ m ih =>
    intro t h1 h2
    have s := sel t h1 (by omega)
    obtain ⟨a, b, c⟩ := hq9 t (by omega) (by omega)
    have qt := hq t (by omega)
    have f := xnth_fst (s := fun j => (av (q (t - 1)) &&& wlk bv sz p (least - t)).testBit j) (x := q t) ((s (q t)).2 ⟨a, b⟩) 40 0 (Nat.zero_le _) (by omega) (fun j _ hj => by
      cases z : (av (q (t - 1)) &&& wlk bv sz p (least - t)).testBit j
      · rfl
      · exact absurd ((s j).1 z) (c j hj))
    rw [rgo, f, if_neg (by omega), Int.toNat_natCast]
    have := ih (t + 1) (by omega) (by omega)
    rw [Nat.add_sub_cancel] at this
    rw [this, show t + m = t - 1 + (m + 1) by omega]
theorem ring_eq {p least : Nat} {q : Nat → Nat} {i : Int} (h40 : sz ≤ 40) (hav : avR sz av B) (hbv : ∀ i j, i < sz → ((bv i).testBit j = true ↔ (j < sz ∧ B i j))) (hK : KI sz (fun i j => WP av sz i j) sz kn kc) (hok : knOK sz B kn kc) (hk : k ≠ -1) (hS : ∀ j, S.testBit j = true ↔ (j < sz ∧ kn j = k)) (hP : rgP (kE sz kn k B) sz kn k p least) (hR : rgS (kE sz kn k B) p least q least) (hq : ∀ r, r < least → q r < sz) : (0 ≤ i → pir av bv sz S i = if i < (least : Int) then (q i.toNat : Int) else -1) ∧ (i < 0 → pir av bv sz S i = -1) := by
  have c40 : cnt S 40 = cnt S sz := by
    have e := cnt_top (x := S) (sz := sz) (fun p hp9 => ((hS p).1 hp9).1) (40 - sz)
    rw [show sz + (40 - sz) = 40 by omega] at e
    exact e
  have hex : ∀ p, p < sz → kn p = k → ∃ v, SH (kE sz kn k B) p v ∧ v ≤ cnt S 40 := by
    intro p hp hkp
    obtain ⟨v, h1, h2⟩ := hok.2.2.1 p hp (by rw [hkp]; exact hk)
    rw [hkp] at h2
    obtain ⟨w, _, hw⟩ := SH_ex v h1 h2
    exact ⟨w, hw, by rw [c40]; exact SH_cnt hS ⟨hp, hkp⟩ hw⟩
  obtain ⟨mo', hr⟩ := rst_ok (S := S) hav hbv hK hk hS hex sz 0 (-1) 0 (cnt S 40) (by omega) (Or.inl ⟨fun a' h => absurd h (Nat.not_lt_zero _), rfl, rfl⟩)
  have key : (rst bv sz S sz 0 (-1) 0 (cnt S 40)).1 = (p : Int) ∧ (rst bv sz S sz 0 (-1) 0 (cnt S 40)).2 = least := by
    rcases hr with ⟨h1, _⟩ | ⟨p', h1, h2, h3, h4, _, h6⟩
    · exact absurd hP.2.1 (h1 p hP.1)
    · have a := h6 p least hP.1 hP.2.1 hP.2.2.1
      have b := hP.2.2.2 p' _ h1 h2 h4
      have e : p' = p := by omega
      exact ⟨by rw [h3, e], by omega⟩
  unfold pir
  rw [key.1, key.2, Int.toNat_natCast]
  refine ⟨fun h => ?_, fun h => if_pos (Or.inl h)⟩
  by_cases e : i < (least : Int)
  · rw [if_pos e, if_neg (by omega)]
    have := rgo_ok h40 hav hbv hK hk hP hR hq i.toNat 1 (Nat.le_refl _) (by omega)
    rw [show q (1 - 1) = p from hR.1] at this
    rw [this, show 1 - 1 + i.toNat = i.toNat by omega]
  · rw [if_neg e, if_pos (by omega)]
end Ca9
