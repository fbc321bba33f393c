/-! order, pairs, ways and knots: the class's and the model's -/
theorem lio_mor (av : Nat → Nat) (sz : Nat) (N : Nat → Nat) (k : Int) : ∀ (m t L : Nat) (lf ly : Nat → Int), t ≤ (lio av sz m t L lf ly).1 ∧ (∀ j, j < t → (lio av sz m t L lf ly).2.1 j = lf j) ∧ (((t : Int) ≤ k ∧ k < ((lio av sz m t L lf ly).1 : Int)) → ∃ p : Nat, p < sz ∧ (lio av sz m t L lf ly).2.1 k.toNat = (p : Int) ∧ mor av sz N k m t L = (N p : Int)) ∧ (¬ ((t : Int) ≤ k ∧ k < ((lio av sz m t L lf ly).1 : Int)) → mor av sz N k m t L = -1) := by
  intro m
  induction m with
  | zero => intro t L lf ly; exact ⟨Nat.le_refl _, fun j _ => rfl, fun h => by have h' : (t : Int) ≤ k ∧ k < (t : Int) := h; omega, fun _ => rfl⟩
  | succ m ih =>
    intro t L lf ly
    rw [lio, mor]
    by_cases e : lfree av L 0 sz = -1
    · rw [if_pos e, if_pos e]
      exact ⟨Nat.le_refl _, fun j _ => rfl, fun h => by have h' : (t : Int) ≤ k ∧ k < (t : Int) := h; omega, fun _ => rfl⟩
    · rw [if_neg e, if_neg e]
      obtain ⟨p, _, hp, hpe, _⟩ : ∃ p : Nat, 0 ≤ p ∧ p < 0 + sz ∧ lfree av L 0 sz = (p : Int) ∧ True := by
        rcases lfree_in av L sz 0 with ⟨h, _⟩ | ⟨p, h1, h2, h3, _⟩
        · exact absurd h e
        · exact ⟨p, h1, h2, h3, trivial⟩
      obtain ⟨i1, i2, i3, i4⟩ := ih (t + 1) (xclr L (lfree av L 0 sz).toNat) (xui lf t (lfree av L 0 sz)) (xui ly (lfree av L 0 sz).toNat (lund ly (av (lfree av L 0 sz).toNat) sz))
      refine ⟨by omega, fun j hj => by rw [i2 j (by omega), xui_n _ _ (by omega)], fun h => ?_, fun h => ?_⟩
      · by_cases ek : (t : Int) = k
        · refine ⟨p, by omega, ?_, ?_⟩
          · rw [show k.toNat = t by omega, i2 t (by omega), xui_s]; exact hpe
          · rw [if_pos ek, hpe, Int.toNat_natCast]
        · obtain ⟨p', a, b, c⟩ := i3 (by omega)
          exact ⟨p', a, b, by rw [if_neg ek]; exact c⟩
      · rw [if_neg (by omega)]
        exact i4 (by omega)
theorem order_eq {av : Nat → Nat} {sz : Nat} {N : Nat → Nat} {c lf0 ly0 : Nat → Int} {k : Int} (hc : ∀ p, p < sz → c p = (N p : Int)) : mor av sz N k sz 0 (2 ^ sz - 1) = if 0 ≤ k ∧ k < ((lio av sz sz 0 (2 ^ sz - 1) lf0 ly0).1 : Int) then xnum c sz ((lio av sz sz 0 (2 ^ sz - 1) lf0 ly0).2.1 k.toNat) else -1 := by
  obtain ⟨_, _, h3, h4⟩ := lio_mor av sz N k sz 0 (2 ^ sz - 1) lf0 ly0
  by_cases h : 0 ≤ k ∧ k < ((lio av sz sz 0 (2 ^ sz - 1) lf0 ly0).1 : Int)
  · obtain ⟨p, hp, e, e'⟩ := h3 h
    rw [if_pos h, e, e']
    unfold xnum
    rw [if_pos (by omega), Int.toNat_natCast, hc p hp]
  · rw [if_neg h]; exact h4 h
theorem cite_dec {P : Prop} {b : Bool} (h : P ↔ b = true) : cite P 1 0 = (if b = true then 1 else 0 : Nat) := by
  by_cases k : P
  · rw [cite_t k, if_pos (h.1 k)]
  · rw [cite_f k, if_neg (fun z => k (h.2 z))]
/-- pairs, counted by rows or by columns -/
theorem psum_cut {av : Nat → Nat} {sz : Nat} {R : Nat → Nat → Prop} (h40 : sz ≤ 40) (hav : avR sz av R) : psum av sz = msum R sz sz := by
  have col : ∀ i, i < sz → cnt (av i) 40 = cnt (av i) sz := fun i hi => by
    have := cnt_top (x := av i) (sz := sz) (fun p hp => ((hav i p hi).1 hp).1) (40 - sz)
    rw [show sz + (40 - sz) = 40 by omega] at this
    exact this
  -- sum over the first b columns, down a rows
  have add : ∀ b, b < sz → ∀ a, a ≤ sz → msum R (b + 1) a = msum R b a + cnt (av b) a := by
    intro b hb a
    induction a with
    | zero => intro _; rfl
    | succ a ih =>
      intro ha
      have e1 : msum R (b + 1) (a + 1) = msum R (b + 1) a + (rsum R a b + cite (R a b) 1 0) := rfl
      have e2 : msum R b (a + 1) = msum R b a + rsum R a b := rfl
      have e3 : cnt (av b) (a + 1) = cnt (av b) a + (if (av b).testBit a = true then 1 else 0) := rfl
      have e4 : cite (R a b) 1 0 = (if (av b).testBit a = true then 1 else 0 : Nat) := cite_dec ⟨fun k => (hav b a hb).2 ⟨by omega, k⟩, fun k => ((hav b a hb).1 k).2⟩
      have := ih (by omega)
      rw [e1, e2, e3, e4]
      omega
  have all : ∀ b, b ≤ sz → psum av b = msum R b sz := by
    intro b
    induction b with
    | zero =>
      intro _
      have z : ∀ a, msum R 0 a = 0 := by
        intro a
        induction a with
        | zero => rfl
        | succ a ih => show msum R 0 a + 0 = 0; omega
      rw [z]; rfl
    | succ b ih =>
      intro hb
      rw [add b (by omega) sz (Nat.le_refl _), ← ih (by omega), ← col b (by omega)]
      rfl
  exact all sz (Nat.le_refl _)
/-! ways -/
theorem WP_up {av : Nat → Nat} {q j : Nat} : ∀ (k m : Nat), WP av m q j → WP av (m + k) q j := by
  intro k
  induction k with
  | zero => intro m h; exact h
  | succ k ih => intro m h; exact Or.inl (ih m h)
theorem WP_tr {av : Nat → Nat} {i : Nat} : ∀ (k : Nat) (q j : Nat), WP av (i + 1 + k) q i → WP av (i + 1 + k) i j → WP av (i + 1 + k) q j := by
  intro k
  induction k with
  | zero =>
    intro q j h1 h2
    have a : WP av i q i := (WP_m av i q).1 h1
    have b : WP av i i j := by rcases h2 with h | h; exact h; exact h.1
    exact Or.inr ⟨b, a⟩
  | succ k ih =>
    intro q j h1 h2
    rcases h1 with h1 | ⟨h1, h1'⟩
    · rcases h2 with h2 | ⟨h2, h2'⟩
      · exact Or.inl (ih q j h1 h2)
      · exact Or.inr ⟨h2, ih q _ h1 h2'⟩
    · rcases h2 with h2 | ⟨h2, h2'⟩
      · exact Or.inr ⟨ih _ j h1 h2, h1'⟩
      · exact Or.inr ⟨h2, h1'⟩
theorem WP_t {av : Nat → Nat} {sz q i j : Nat} (hi : i < sz) (h1 : WP av sz q i) (h2 : WP av sz i j) : WP av sz q j := by
  have e : sz = i + 1 + (sz - (i + 1)) := by omega
  rw [e] at h1 h2 ⊢
  exact WP_tr _ q j h1 h2
def Ez (sz : Nat) (B : Nat → Nat → Prop) : Nat → Nat → Prop := fun i j => i < sz ∧ j < sz ∧ B i j
theorem pth_app {E : Nat → Nat → Prop} {p i : Nat} : ∀ (v : Nat) {u j : Nat}, pth E p u i → pth E i v j → pth E p (u + v) j := by
  intro v
  induction v with
  | zero => intro u j h1 h2; have : j = i := h2; subst this; exact h1
  | succ v ih =>
    intro u j h1 h2
    obtain ⟨x, a, b⟩ := h2
    exact ⟨x, ih h1 a, b⟩
theorem WP_pth {av : Nat → Nat} {sz : Nat} {B : Nat → Nat → Prop} (hav : avR sz av B) : ∀ (m q j : Nat), m ≤ sz → j < sz → WP av m q j → ∃ v, 1 ≤ v ∧ pth (Ez sz B) q v j := by
  intro m
  induction m with
  | zero =>
    intro q j _ hj h
    have a := (hav j q hj).1 h
    exact ⟨1, Nat.le_refl _, q, rfl, a.1, hj, a.2⟩
  | succ m ih =>
    intro q j hm hj h
    rcases h with h | ⟨h, h'⟩
    · exact ih q j (by omega) hj h
    · obtain ⟨v, a, b⟩ := ih q m (by omega) (by omega) h'
      obtain ⟨u, a', b'⟩ := ih m j (by omega) hj h
      exact ⟨v + u, by omega, pth_app u b b'⟩
theorem pth_WP {av : Nat → Nat} {sz : Nat} {B : Nat → Nat → Prop} (hav : avR sz av B) {q : Nat} : ∀ (v j : Nat), pth (Ez sz B) q (v + 1) j → WP av sz q j := by
  have one : ∀ i j, Ez sz B i j → WP av sz i j := fun i j h => by
    have : WP av 0 i j := (hav j i h.2.1).2 ⟨h.1, h.2.2⟩
    have := WP_up sz 0 this
    rw [Nat.zero_add] at this
    exact this
  intro v
  induction v with
  | zero =>
    intro j h
    obtain ⟨i, h1, h2⟩ := h
    have e : i = q := h1
    rw [e] at h2
    exact one q j h2
  | succ v ih =>
    intro j h
    obtain ⟨i, h1, h2⟩ := h
    exact WP_t h2.1 (ih i h1) (one i j h2)
/-! counting -/
theorem cnt_sub {x y : Nat} : ∀ k, (∀ i, i < k → x.testBit i = true → y.testBit i = true) → cnt x k ≤ cnt y k := by
  intro k
  induction k with
  | zero => intro _; exact Nat.le_refl _
  | succ k ih =>
    intro h
    have a := ih (fun i hi => h i (by omega))
    have b := h k (by omega)
    have e1 : cnt x (k + 1) = cnt x k + (if x.testBit k = true then 1 else 0) := rfl
    have e2 : cnt y (k + 1) = cnt y k + (if y.testBit k = true then 1 else 0) := rfl
    rw [e1, e2]
    by_cases q : x.testBit k = true
    · rw [if_pos q, if_pos (b q)]; omega
    · rw [if_neg q]; split <;> omega
theorem cnt_sub1 {x y p k : Nat} (h : ∀ i, i < k → x.testBit i = true → y.testBit i = true) (hp : p < k) (hy : y.testBit p = true) (hx : x.testBit p = false) : cnt x k + 1 ≤ cnt y k := by
  have a := cnt_clr k hp hy
  have b := cnt_sub (x := x) (y := xclr y p) k (fun i hi q => by
    rw [xclr_bit, h i hi q, Bool.true_and]
    exact decide_eq_true (fun e => by rw [e, hx] at q; cases q))
  omega
theorem cnt_sub2 {x y p q k : Nat} (h : ∀ i, i < k → x.testBit i = true → y.testBit i = true) (hp : p < k) (hq : q < k) (hpq : p ≠ q) (hy : y.testBit p = true) (hx : x.testBit p = false) (hy' : y.testBit q = true) (hx' : x.testBit q = false) : cnt x k + 2 ≤ cnt y k := by
  have a := cnt_clr k hp hy
  have b := cnt_sub1 (x := x) (y := xclr y p) (p := q) (k := k) (fun i hi z => by
    rw [xclr_bit, h i hi z, Bool.true_and]
    exact decide_eq_true (fun e => by rw [e, hx] at z; cases z)) hq (by rw [xclr_bit, hy', Bool.true_and]; exact decide_eq_true (Ne.symm hpq)) hx'
  omega
theorem cnt_lt {x p k : Nat} (hp : p < k) (hx : x.testBit p = false) : cnt x k < k := by
  have a := cnt_sub1 (x := x) (y := 2 ^ k - 1) (p := p) (k := k) (fun i hi _ => by rw [Nat.testBit_two_pow_sub_one]; exact decide_eq_true hi) hp (by rw [Nat.testBit_two_pow_sub_one]; exact decide_eq_true hp) hx
  rw [cnt_all k k (Nat.le_refl _)] at a
  omega
theorem cnt_inj {k : Nat} : ∀ (v : Nat) (S : Nat) (x : Nat → Nat), (∀ t, t < v → x t < k ∧ S.testBit (x t) = true) → (∀ t u, t < u → u < v → x t ≠ x u) → v ≤ cnt S k := by
  intro v
  induction v with
  | zero => intro S x _ _; exact Nat.zero_le _
  | succ v ih =>
    intro S x h1 h2
    have a := cnt_clr k (h1 v (by omega)).1 (h1 v (by omega)).2
    have b := ih (xclr S (x v)) x (fun t ht => ⟨(h1 t (by omega)).1, by rw [xclr_bit, (h1 t (by omega)).2, Bool.true_and]; exact decide_eq_true (h2 t v ht (by omega))⟩) (fun t u htu hu => h2 t u htu (by omega))
    omega
/-! knots -/
def KI (sz : Nat) (R : Nat → Nat → Prop) (p : Nat) (kn : Nat → Int) (kc : Nat) : Prop := (∀ i, i < sz → -1 ≤ kn i ∧ kn i < (kc : Int)) ∧ (∀ k : Nat, k < kc → ∃ q, q < sz ∧ kn q = (k : Int)) ∧ (∀ i j, i < sz → j < sz → kn i ≠ -1 → R i i ∧ (kn j = kn i ↔ (R i j ∧ R j i))) ∧ ∀ i, i < p → i < sz → R i i → kn i ≠ -1
def KS (sz : Nat) (kn : Nat → Int) (kc dn : Nat) (ks : Nat → Nat) : Prop := (∀ j, dn.testBit j = true ↔ (j < sz ∧ kn j ≠ -1)) ∧ (∀ k, k < kc → ∀ p, (ks k).testBit p = true ↔ (p < sz ∧ kn p = (k : Int))) ∧ 2 * kc ≤ cnt dn sz
theorem kns_mkn {rv : Nat → Nat} {sz : Nat} {R : Nat → Nat → Prop} (h40 : sz ≤ 40) (hrv : ∀ j, j < sz → ∀ q, (rv j).testBit q = true ↔ R q j) (htr : ∀ i j k, j < sz → R i j → R j k → R i k) (h2 : ∀ p, p < sz → R p p → ∃ q, q < sz ∧ q ≠ p ∧ R p q ∧ R q p) : ∀ (m p dn kc : Nat) (ks : Nat → Nat) (kn : Nat → Int), p + m = sz → KI sz R p kn kc → KS sz kn kc dn ks → KI sz R sz (mkn R sz m p (kn, kc)).1 (mkn R sz m p (kn, kc)).2 ∧ (kns rv sz m p dn kc ks).1 = (mkn R sz m p (kn, kc)).2 ∧ (∀ k, k < (mkn R sz m p (kn, kc)).2 → ∀ q, ((kns rv sz m p dn kc ks).2 k).testBit q = true ↔ (q < sz ∧ (mkn R sz m p (kn, kc)).1 q = (k : Int))) ∧ (mkn R sz m p (kn, kc)).2 ≤ 20 := by
  intro m
  induction m with
  | zero =>
    intro p dn kc ks kn hp hI hS
    have e : p = sz := by omega
    subst e
    have := cnt_le dn p
    exact ⟨hI, rfl, hS.2.1, by have := hS.2.2; show kc ≤ 20; omega⟩
  | succ m ih =>
    intro p dn kc ks kn hp hI hS
    obtain ⟨i1, i2, i3, i4⟩ := hI
    obtain ⟨s1, s2, s3⟩ := hS
    rw [mkn, kns]
    unfold mknS
    by_cases hc : kn p = -1 ∧ R p p
    · have dp : dn.testBit p = false := by
        cases e : dn.testBit p
        · rfl
        · exact absurd hc.1 ((s1 p).1 e).2
      have cl := cnt_lt (show p < sz by omega) dp
      rw [cite_t hc, if_pos ⟨dp, (hrv p (by omega) p).2 hc.2, by omega⟩]
      -- whoever goes both ways with p is new, and not before p
      have nw : ∀ j, j < sz → R p j → R j p → kn j = -1 ∧ p ≤ j := by
        intro j hj h1 h2'
        have z : kn j = -1 := Classical.byContradiction (fun k => by
          have := ((i3 j p hj (by omega) k).2).2 ⟨h2', h1⟩
          exact k (this.symm.trans hc.1))
        exact ⟨z, Nat.le_of_not_lt (fun k => i4 j k hj (htr j p j (by omega) h2' h1) z)⟩
      have kn' : ∀ j, j < sz → (fun j => cite (p ≤ j ∧ j < sz ∧ R p j ∧ R j p) (kc : Int) (kn j)) j = cite (R p j ∧ R j p) (kc : Int) (kn j) := by
        intro j hj
        show cite (p ≤ j ∧ j < sz ∧ R p j ∧ R j p) (kc : Int) (kn j) = _
        by_cases k : R p j ∧ R j p
        · rw [cite_t k, cite_t ⟨(nw j hj k.1 k.2).2, hj, k⟩]
        · rw [cite_f k, cite_f (fun z => k z.2.2)]
      obtain ⟨K, hK⟩ : ∃ K : Nat → Int, K = (fun j => cite (p ≤ j ∧ j < sz ∧ R p j ∧ R j p) (kc : Int) (kn j)) := ⟨_, rfl⟩
      have K1 : ∀ j, j < sz → R p j → R j p → K j = (kc : Int) := fun j hj a b => by rw [hK, kn' j hj, cite_t ⟨a, b⟩]
      have K0 : ∀ j, j < sz → ¬ (R p j ∧ R j p) → K j = kn j := fun j hj a => by rw [hK, kn' j hj, cite_f a]
      have hb : ∀ j, (hld rv p sz).testBit j = true ↔ (j < sz ∧ R j p ∧ R p j) := by
        intro j
        rw [hld_bit]
        constructor
        · rintro ⟨a, b, c⟩
          exact ⟨a, (hrv p (by omega) j).1 b, (hrv j a p).1 c⟩
        · rintro ⟨a, b, c⟩
          exact ⟨a, (hrv p (by omega) j).2 b, (hrv j a p).2 c⟩
      have ob : ∀ j, (dn ||| hld rv p sz).testBit j = true ↔ (dn.testBit j = true ∨ (j < sz ∧ R j p ∧ R p j)) := by
        intro j
        rw [Nat.testBit_or, Bool.or_eq_true, hb]
      have I' : KI sz R (p + 1) K (kc + 1) := by
        refine ⟨fun i hi => ?_, fun k hk => ?_, fun i j hi hj hn => ?_, fun i hip hi hr => ?_⟩
        · by_cases k : R p i ∧ R i p
          · rw [K1 i hi k.1 k.2]; omega
          · rw [K0 i hi k]; have := i1 i hi; omega
        · by_cases e : k = kc
          · exact ⟨p, by omega, by rw [K1 p (by omega) hc.2 hc.2, e]⟩
          · obtain ⟨q, a, b⟩ := i2 k (by omega)
            refine ⟨q, a, ?_⟩
            rw [K0 q a (fun z => by have := (nw q a z.1 z.2).1; omega)]; exact b
        · by_cases k : R p i ∧ R i p
          · refine ⟨htr i p i (by omega) k.2 k.1, ?_⟩
            rw [K1 i hi k.1 k.2]
            by_cases k' : R p j ∧ R j p
            · rw [K1 j hj k'.1 k'.2]
              exact ⟨fun _ => ⟨htr i p j (by omega) k.2 k'.1, htr j p i (by omega) k'.2 k.1⟩, fun _ => rfl⟩
            · rw [K0 j hj k']
              have := i1 j hj
              exact ⟨fun z => by omega, fun z => absurd ⟨htr p i j hi k.1 z.1, htr j i p hi z.2 k.2⟩ k'⟩
          · rw [K0 i hi k] at hn ⊢
            have old := i3 i j hi hj hn
            refine ⟨old.1, ?_⟩
            by_cases k' : R p j ∧ R j p
            · rw [K1 j hj k'.1 k'.2]
              have := i1 i hi
              exact ⟨fun z => by omega, fun z => absurd ⟨htr p j i hj k'.1 z.2, htr i j p hj z.1 k'.2⟩ k⟩
            · rw [K0 j hj k']; exact old.2
        · by_cases k : R p i ∧ R i p
          · rw [K1 i hi k.1 k.2]; omega
          · rw [K0 i hi k]
            by_cases e : i = p
            · subst e; exact absurd ⟨hr, hr⟩ k
            · exact i4 i (by omega) hi hr
      have S' : KS sz K (kc + 1) (dn ||| hld rv p sz) (xui ks kc (hld rv p sz)) := by
        refine ⟨fun j => ?_, fun k hk q => ?_, ?_⟩
        · rw [ob, s1]
          constructor
          · rintro (⟨a, b⟩ | ⟨a, b, c⟩)
            · exact ⟨a, by rw [K0 j a (fun z => b (nw j a z.1 z.2).1)]; exact b⟩
            · exact ⟨a, by rw [K1 j a c b]; omega⟩
          · rintro ⟨a, b⟩
            by_cases k : R p j ∧ R j p
            · exact Or.inr ⟨a, k.2, k.1⟩
            · rw [K0 j a k] at b; exact Or.inl ⟨a, b⟩
        · by_cases e : k = kc
          · subst e
            rw [xui_s, hb]
            constructor
            · rintro ⟨a, b, c⟩; exact ⟨a, K1 q a c b⟩
            · rintro ⟨a, b⟩
              by_cases z : R p q ∧ R q p
              · exact ⟨a, z.2, z.1⟩
              · rw [K0 q a z] at b; have := i1 q a; omega
          · rw [xui_n _ _ e, s2 k (by omega)]
            constructor
            · rintro ⟨a, b⟩
              exact ⟨a, by rw [K0 q a (fun z => by have := (nw q a z.1 z.2).1; omega)]; exact b⟩
            · rintro ⟨a, b⟩
              by_cases z : R p q ∧ R q p
              · rw [K1 q a z.1 z.2] at b; omega
              · rw [K0 q a z] at b; exact ⟨a, b⟩
        · obtain ⟨q, q1, q2, q3, q4⟩ := h2 p (by omega) hc.2
          have dq : dn.testBit q = false := by
            cases e : dn.testBit q
            · rfl
            · exact absurd (nw q q1 q3 q4).1 ((s1 q).1 e).2
          have := cnt_sub2 (x := dn) (y := dn ||| hld rv p sz) (p := p) (q := q) (k := sz) (fun i _ z => (ob i).2 (Or.inl z)) (by omega) q1 (Ne.symm q2) ((ob p).2 (Or.inr ⟨by omega, hc.2, hc.2⟩)) dp ((ob q).2 (Or.inr ⟨q1, q4, q3⟩)) dq
          omega
      rw [← hK]
      exact ih (p + 1) _ _ _ K (by omega) I' S'
    · rw [cite_f hc, if_neg (fun z => hc ⟨Classical.byContradiction (fun k => by have := (s1 p).2 ⟨by omega, k⟩; rw [z.1] at this; cases this), (hrv p (by omega) p).1 z.2.1⟩)]
      exact ih (p + 1) dn kc ks kn (by omega) ⟨i1, i2, i3, fun i hip hi hr => by
        by_cases e : i = p
        · subst e; exact fun z => hc ⟨z, hr⟩
        · exact i4 i (by omega) hi hr⟩ ⟨s1, s2, s3⟩
/-- whoever reaches itself has another beside it -/
theorem WP_two {av : Nat → Nat} {sz : Nat} {B : Nat → Nat → Prop} (hav : avR sz av B) (hir : ∀ p, ¬ B p p) {p : Nat} (hp : p < sz) (h : WP av sz p p) : ∃ q, q < sz ∧ q ≠ p ∧ WP av sz p q ∧ WP av sz q p := by
  obtain ⟨v, h1, h2⟩ := WP_pth hav sz p p (Nat.le_refl _) hp h
  obtain ⟨v', rfl⟩ : ∃ v', v = v' + 1 := ⟨v - 1, by omega⟩
  obtain ⟨i, a, b⟩ := h2
  have ne : i ≠ p := fun e => by rw [e] at b; exact hir p b.2.2
  obtain ⟨v'', rfl⟩ : ∃ v'', v' = v'' + 1 := by
    cases v' with
    | zero => exact absurd a ne
    | succ v => exact ⟨v, rfl⟩
  exact ⟨i, b.1, ne, pth_WP hav v'' i a, pth_WP hav 0 p ⟨i, rfl, b⟩⟩
theorem knots_eq {rv av : Nat → Nat} {sz : Nat} {B : Nat → Nat → Prop} {ks0 : Nat → Nat} (h40 : sz ≤ 40) (hav : avR sz av B) (hir : ∀ p, ¬ B p p) (hrv : ∀ j, j < sz → ∀ q, (rv j).testBit q = true ↔ WP av sz q j) : KI sz (fun i j => WP av sz i j) sz (mkA (fun i j => WP av sz i j) sz).1 (mkA (fun i j => WP av sz i j) sz).2 ∧ (kns rv sz sz 0 0 0 ks0).1 = (mkA (fun i j => WP av sz i j) sz).2 ∧ (∀ k, k < (mkA (fun i j => WP av sz i j) sz).2 → ∀ q, ((kns rv sz sz 0 0 0 ks0).2 k).testBit q = true ↔ (q < sz ∧ (mkA (fun i j => WP av sz i j) sz).1 q = (k : Int))) ∧ (mkA (fun i j => WP av sz i j) sz).2 ≤ 20 := by
  refine kns_mkn (R := fun i j => WP av sz i j) h40 hrv (fun i j k hj a b => WP_t hj a b) (fun p hp h => WP_two hav hir hp h) sz 0 0 0 ks0 (fun _ => -1) (by omega) ⟨fun i _ => ⟨Int.le_refl _, by show (-1 : Int) < ((0 : Nat) : Int); omega⟩, fun k hk => absurd hk (Nat.not_lt_zero _), fun i j _ _ h => absurd rfl h, fun i hi => absurd hi (Nat.not_lt_zero _)⟩ ⟨fun j => ⟨fun h => (by rw [Nat.zero_testBit] at h; cases h), fun h => absurd rfl h.2⟩, fun k hk => absurd hk (Nat.not_lt_zero _), by omega⟩
/-- on the way back to where it began a walk keeps within its knot -/
theorem pth_kn {av : Nat → Nat} {sz : Nat} {B : Nat → Nat → Prop} {kn : Nat → Int} {kc p : Nat} (hav : avR sz av B) (hK : KI sz (fun i j => WP av sz i j) sz kn kc) (hp : p < sz) (hkn : kn p ≠ -1) : ∀ (v j : Nat), pth (Ez sz B) p v j → (∃ u, pth (Ez sz B) j u p) → pth (kE sz kn (kn p) B) p v j := by
  have inK : ∀ (v j u : Nat), pth (Ez sz B) p v j → pth (Ez sz B) j u p → j < sz → kn j = kn p := by
    intro v j u h1 h2 hj
    cases v with
    | zero => have e : j = p := h1; rw [e]
    | succ v =>
      cases u with
      | zero => have e : p = j := h2; rw [← e]
      | succ u => exact ((hK.2.2.1 p j hp hj hkn).2).2 ⟨pth_WP hav v j h1, pth_WP hav u p h2⟩
  intro v
  induction v with
  | zero => intro j h _; exact h
  | succ v ih =>
    intro j h hu
    obtain ⟨i, a, b⟩ := id h
    obtain ⟨u, hu⟩ := hu
    have bk : pth (Ez sz B) i (1 + u) p := pth_app u (show pth (Ez sz B) i 1 j from ⟨i, rfl, b⟩) hu
    exact ⟨i, ih i a ⟨_, bk⟩, ⟨b.1, inK v i _ a bk b.1⟩, ⟨b.2.1, inK (v + 1) j u h hu b.2.1⟩, b.2.2⟩
theorem knOK_of {av : Nat → Nat} {sz : Nat} {B : Nat → Nat → Prop} {kn : Nat → Int} {kc : Nat} (hav : avR sz av B) (hK : KI sz (fun i j => WP av sz i j) sz kn kc) (h20 : kc ≤ 20) : knOK sz B kn kc := by
  refine ⟨hK.1, hK.2.1, fun p hp hn => ?_, by omega⟩
  obtain ⟨v, h1, h2⟩ := WP_pth hav sz p p (Nat.le_refl _) hp (hK.2.2.1 p p hp hp hn).1
  exact ⟨v, h1, pth_kn hav hK hp hn v p h2 ⟨0, rfl⟩⟩
