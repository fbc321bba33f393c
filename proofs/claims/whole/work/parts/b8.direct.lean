/-! what is asked without a wrapper; what stays true of the acts -/
def rd_undo (bn : Nat) (β : Nat → xBx) (gn : Nat) (σ : Nat → xSt) (d : Nat → Int) (as : List xAc) (ps : Nat) (pb : Nat → Int) (pu : Nat) (pr : Nat → Int) (v : Int) (S1 : LSt) : Prop := (as = [] ∧ v = -1 ∧ S1 = (mkS bn β gn σ d as ps pb pu pr)) ∨ ∃ x as1, as = x :: as1 ∧ v = x.1 ∧ S1 = (mkS bn β gn (und σ x) d as1 ps pb pu pr)
def rd_count (bn : Nat) (β : Nat → xBx) (gn : Nat) (σ : Nat → xSt) (d : Nat → Int) (as : List xAc) (ps : Nat) (pb : Nat → Int) (pu : Nat) (pr : Nat → Int) (z v : Int) (S1 : LSt) : Prop := cntA bn gn σ d as ps z v ∧ S1 = (mkS bn β gn σ d as ps pb pu pr)
def rd_after (bn : Nat) (β : Nat → xBx) (gn : Nat) (σ : Nat → xSt) (d : Nat → Int) (as : List xAc) (ps : Nat) (pb : Nat → Int) (pu : Nat) (pr : Nat → Int) (z v : Int) (S1 : LSt) : Prop := aftR gn σ z v ∧ S1 = (mkS bn β gn σ d as ps pb pu pr)
def rd_order (bn : Nat) (β : Nat → xBx) (gn : Nat) (σ : Nat → xSt) (d : Nat → Int) (as : List xAc) (ps : Nat) (pb : Nat → Int) (pu : Nat) (pr : Nat → Int) (z v : Int) (S1 : LSt) : Prop := onA gn σ d (fun sz ls kc c w av bv rv lf ly ks N => v = (if 0 ≤ z ∧ z < ls then xnum c sz (lf z.toNat) else -1)) ∧ S1 = (mkS bn β gn σ d as ps pb pu pr)
def rd_knots (bn : Nat) (β : Nat → xBx) (gn : Nat) (σ : Nat → xSt) (d : Nat → Int) (as : List xAc) (ps : Nat) (pb : Nat → Int) (pu : Nat) (pr : Nat → Int) (v : Int) (S1 : LSt) : Prop := onA gn σ d (fun sz ls kc c w av bv rv lf ly ks N => v = kc) ∧ S1 = (mkS bn β gn σ d as ps pb pu pr)
def rd_knot (bn : Nat) (β : Nat → xBx) (gn : Nat) (σ : Nat → xSt) (d : Nat → Int) (as : List xAc) (ps : Nat) (pb : Nat → Int) (pu : Nat) (pr : Nat → Int) (z x i v : Int) (S1 : LSt) : Prop := onA gn σ d (fun sz ls kc c w av bv rv lf ly ks N => v = (if 0 ≤ z ∧ z < kc then (if x = 0 then xnum c sz (xnth (fun p => (ks z.toNat).testBit p) i 0 0 40) else if x = 1 then xnum c sz (pir av bv sz (ks z.toNat) i) else -1) else -1)) ∧ S1 = (mkS bn β gn σ d as ps pb pu pr)
def rd_fewest (bn : Nat) (β : Nat → xBx) (gn : Nat) (σ : Nat → xSt) (d : Nat → Int) (as : List xAc) (ps : Nat) (pb : Nat → Int) (pu : Nat) (pr : Nat → Int) (v : Int) (S1 : LSt) : Prop := onA gn σ d (fun sz ls kc c w av bv rv lf ly ks N => v = (rmd av w sz ks kc.toNat 0 0 0).1) ∧ S1 = (mkS bn β gn σ d as ps pb pu pr)
def rd_few (bn : Nat) (β : Nat → xBx) (gn : Nat) (σ : Nat → xSt) (d : Nat → Int) (as : List xAc) (ps : Nat) (pb : Nat → Int) (pu : Nat) (pr : Nat → Int) (z v : Int) (S1 : LSt) : Prop := onA gn σ d (fun sz ls kc c w av bv rv lf ly ks N => v = xnum c sz (xnth (fun p => (rmd av w sz ks kc.toNat 0 0 0).2.testBit p) z 0 0 40)) ∧ S1 = (mkS bn β gn σ d as ps pb pu pr)
def rd_push (bn : Nat) (β : Nat → xBx) (gn : Nat) (σ : Nat → xSt) (d : Nat → Int) (as : List xAc) (ps : Nat) (pb : Nat → Int) (pu : Nat) (pr : Nat → Int) (z v : Int) (S1 : LSt) : Prop := (pu < 40 ∧ v = (pu : Int) + 1 ∧ S1 = (mkS bn β gn σ d as ps pb (pu + 1) (xui pr pu z))) ∨ (¬ pu < 40 ∧ v = -1 ∧ S1 = (mkS bn β gn σ d as ps pb pu pr))
def rd_octet (bn : Nat) (β : Nat → xBx) (gn : Nat) (σ : Nat → xSt) (d : Nat → Int) (as : List xAc) (ps : Nat) (pb : Nat → Int) (pu : Nat) (pr : Nat → Int) (z v : Int) (S1 : LSt) : Prop := v = (if 0 ≤ z ∧ z < (ps : Int) then pb z.toNat else -1) ∧ S1 = (mkS bn β gn σ d as ps pb pu pr)
section Cb8
variable {g : xG} {Q : xP} {n : Nat} {f : xH} {th : Int} {bn : Nat} {β : Nat → xBx} {gn : Nat} {σ : Nat → xSt} {d : Nat → Int} {as : List xAc} {ps : Nat} {pb : Nat → Int} {pu : Nat} {pr : Nat → Int} {k v : Int} {S1 : LSt}
theorem dct_undo (h : LSf n f (mkS bn β gn σ d as ps pb pu pr)) (hi : chn gn σ as) (hq : ∀ f1 v S1, rd_undo bn β gn σ d as ps pb pu pr v S1 → afC n f1 (mkS bn β gn σ d as ps pb pu pr) S1 → Q (.inl (some (vI v))) n f1) : xct g M_X9_undo 0 0 [vR 0] n f Q := by
  have hC : CS n f bn β gn σ d as ps pb pu pr := h.1
  exact ct_undo hC (fun e => hq f _ _ (Or.inl ⟨e, rfl, rfl⟩) (LS_C0 h (Nat.le_refl _))) (fun x as1 f1 e hC1 hk => hq f1 _ _ (Or.inr ⟨x, as1, e, rfl, rfl⟩) (LS_C h hC1 hk)) (fun x as1 e => by rw [e] at hi; exact hi.2.1)
theorem dct_count {z : Int} (h : LSf n f (mkS bn β gn σ d as ps pb pu pr)) (hi : chn gn σ as) (hz : inI z) (hq : ∀ f1 v S1, rd_count bn β gn σ d as ps pb pu pr z v S1 → afC n f1 (mkS bn β gn σ d as ps pb pu pr) S1 → Q (.inl (some (vI v))) n f1) : xct g M_X9_count 0 0 [vR 0, vI z] n f Q := by
  have hC : CS n f bn β gn σ d as ps pb pu pr := h.1
  exact ct_count hC hz (fun f1 r hC1 hk h1 => hq f1 _ _ ⟨h1, rfl⟩ (LS_C h hC1 hk))
theorem dct_after {z : Int} (h : LSf n f (mkS bn β gn σ d as ps pb pu pr)) (hi : chn gn σ as) (hz : inI z) (hq : ∀ f1 v S1, rd_after bn β gn σ d as ps pb pu pr z v S1 → afC n f1 (mkS bn β gn σ d as ps pb pu pr) S1 → Q (.inl (some (vI v))) n f1) : xct g M_X9_after 0 0 [vR 0, vI z] n f Q := by
  have hC : CS n f bn β gn σ d as ps pb pu pr := h.1
  exact ct_after hC hz (fun r h1 => hq f _ _ ⟨h1, rfl⟩ (LS_C0 h (Nat.le_refl _)))
theorem dct_order {z : Int} (h : LSf n f (mkS bn β gn σ d as ps pb pu pr)) (hi : chn gn σ as) (hz : inI z) (hq : ∀ f1 v S1, rd_order bn β gn σ d as ps pb pu pr z v S1 → afC n f1 (mkS bn β gn σ d as ps pb pu pr) S1 → Q (.inl (some (vI v))) n f1) : xct g M_X9_order 0 0 [vR 0, vI z] n f Q := by
  have hC : CS n f bn β gn σ d as ps pb pu pr := h.1
  exact ct_order hC hz (fun f1 r hC1 hk h1 => hq f1 _ _ ⟨h1, rfl⟩ (LS_C h hC1 hk))
theorem dct_knots (h : LSf n f (mkS bn β gn σ d as ps pb pu pr)) (hi : chn gn σ as) (hq : ∀ f1 v S1, rd_knots bn β gn σ d as ps pb pu pr v S1 → afC n f1 (mkS bn β gn σ d as ps pb pu pr) S1 → Q (.inl (some (vI v))) n f1) : xct g M_X9_knots 0 0 [vR 0] n f Q := by
  have hC : CS n f bn β gn σ d as ps pb pu pr := h.1
  exact ct_knots hC (fun f1 r hC1 hk h1 => hq f1 _ _ ⟨h1, rfl⟩ (LS_C h hC1 hk))
theorem dct_knot {z x i : Int} (h : LSf n f (mkS bn β gn σ d as ps pb pu pr)) (hi : chn gn σ as) (hz : inI z) (hx : inI x) (hi9 : inI i) (hq : ∀ f1 v S1, rd_knot bn β gn σ d as ps pb pu pr z x i v S1 → afC n f1 (mkS bn β gn σ d as ps pb pu pr) S1 → Q (.inl (some (vI v))) n f1) : xct g M_X9_knot 0 0 [vR 0, vI z, vI x, vI i] n f Q := by
  have hC : CS n f bn β gn σ d as ps pb pu pr := h.1
  exact ct_knot hC hz hx hi9 (fun f1 r hC1 hk h1 => hq f1 _ _ ⟨h1, rfl⟩ (LS_C h hC1 hk))
theorem dct_fewest (h : LSf n f (mkS bn β gn σ d as ps pb pu pr)) (hi : chn gn σ as) (hq : ∀ f1 v S1, rd_fewest bn β gn σ d as ps pb pu pr v S1 → afC n f1 (mkS bn β gn σ d as ps pb pu pr) S1 → Q (.inl (some (vI v))) n f1) : xct g M_X9_fewest 0 0 [vR 0] n f Q := by
  have hC : CS n f bn β gn σ d as ps pb pu pr := h.1
  exact ct_fewest hC (fun f1 r hC1 hk h1 => hq f1 _ _ ⟨h1, rfl⟩ (LS_C h hC1 hk))
theorem dct_few {z : Int} (h : LSf n f (mkS bn β gn σ d as ps pb pu pr)) (hi : chn gn σ as) (hz : inI z) (hq : ∀ f1 v S1, rd_few bn β gn σ d as ps pb pu pr z v S1 → afC n f1 (mkS bn β gn σ d as ps pb pu pr) S1 → Q (.inl (some (vI v))) n f1) : xct g M_X9_few 0 0 [vR 0, vI z] n f Q := by
  have hC : CS n f bn β gn σ d as ps pb pu pr := h.1
  exact ct_few hC hz (fun f1 r hC1 hk h1 => hq f1 _ _ ⟨h1, rfl⟩ (LS_C h hC1 hk))
theorem dct_push {z : Int} (h : LSf n f (mkS bn β gn σ d as ps pb pu pr)) (hi : chn gn σ as) (hz : inI z) (hq : ∀ f1 v S1, rd_push bn β gn σ d as ps pb pu pr z v S1 → afC n f1 (mkS bn β gn σ d as ps pb pu pr) S1 → Q (.inl (some (vI v))) n f1) : xct g M_X9_push 0 0 [vR 0, vI z] n f Q := by
  have hC : CS n f bn β gn σ d as ps pb pu pr := h.1
  exact ct_push hC hz (fun a f1 hC1 hk => hq f1 _ _ (Or.inl ⟨a, rfl, rfl⟩) (LS_C h hC1 hk)) (fun a => hq f _ _ (Or.inr ⟨a, rfl, rfl⟩) (LS_C0 h (Nat.le_refl _)))
theorem dct_octet {z : Int} (h : LSf n f (mkS bn β gn σ d as ps pb pu pr)) (hi : chn gn σ as) (hz : inI z) (hq : ∀ f1 v S1, rd_octet bn β gn σ d as ps pb pu pr z v S1 → afC n f1 (mkS bn β gn σ d as ps pb pu pr) S1 → Q (.inl (some (vI v))) n f1) : xct g M_X9_octet 0 0 [vR 0, vI z] n f Q := by
  have hC : CS n f bn β gn σ d as ps pb pu pr := h.1
  exact ct_octet hC hz (hq f _ _ ⟨rfl, rfl⟩ (LS_C0 h (Nat.le_refl _)))
theorem xnth_neg {s : Nat → Bool} {i : Int} (hi : i < 0) : ∀ {k a : Nat} {c : Int}, 0 ≤ c → xnth s i c a k = -1 := by
  intro k
  induction k with
  | zero => intro a c _; rfl
  | succ k ih =>
    intro a c hc
    unfold xnth
    by_cases e : s a = true
    · rw [if_pos e, if_neg (by omega)]; exact ih (by omega)
    · rw [if_neg e]; exact ih hc
theorem pir_neg {av bv : Nat → Nat} {sz set : Nat} {i : Int} (hi : i < 0) : pir av bv sz set i = -1 := by
  unfold pir
  exact if_pos (Or.inl hi)
theorem mdt_undo (h : MSs f th (mkS bn β gn σ d as ps pb pu pr)) (hi : chn gn σ as) (hr : rd_undo bn β gn σ d as ps pb pu pr v S1) (hq : ∀ f1 th', MSs f1 th' S1 → kC f f1 → Q (.inl (some (vI v))) n f1) : xct g M_X10_undo 0 0 [vR 38] n f Q := by
  have h : MS f th bn β gn σ d as ps pb pu pr := h
  refine mct_undo h (fun x as1 e => by rw [e] at hi; exact hi.2.1) (fun e f1 hM hC => ?_) (fun x as1 f1 e hM hC => ?_)
  · rcases hr with ⟨_, rfl, rfl⟩ | ⟨x, as1, e', _⟩
    · exact hq f1 _ hM hC
    · rw [e] at e'; cases e'
  · rcases hr with ⟨e', _⟩ | ⟨x', as1', e', rfl, rfl⟩
    · rw [e] at e'; cases e'
    · rw [e] at e'
      injection e' with e1 e2
      subst e1; subst e2
      exact hq f1 _ hM hC
theorem mdt_count {z : Int} (h : MSs f th (mkS bn β gn σ d as ps pb pu pr)) (hi : chn gn σ as) (hz : inI z) (hr : rd_count bn β gn σ d as ps pb pu pr z v S1) (hq : ∀ f1 th', MSs f1 th' S1 → kC f f1 → Q (.inl (some (vI v))) n f1) : xct g M_X10_count 0 0 [vR 38, vI z] n f Q := by
  have h : MS f th bn β gn σ d as ps pb pu pr := h
  obtain ⟨hr, rfl⟩ := hr
  obtain ⟨sz, N, hN, h5⟩ : ∃ sz N, onO gn σ sz N ∧ (z = 5 → v = ((msum (fun i j => mBar d σ (N i) (N j)) sz sz : Nat) : Int)) := by
    by_cases e : z = 5
    · rcases hr with ⟨q, _⟩ | ⟨q, _⟩ | ⟨q, _⟩ | ⟨q, _⟩ | ⟨q, _⟩ | ⟨_, sz, ls, kc, c, w, av, bv, rv, lf, ly, ks, N, hD, hv⟩ | ⟨q, _⟩
      · omega
      · omega
      · omega
      · omega
      · omega
      · have F := tgD_F (MS_z h) (chn_nt hi) hD
        exact ⟨sz, N, F.hN, fun _ => by rw [hv, psum_cut F.h40 F.hav]⟩
      · omega
    · obtain ⟨sz, ls, kc, c, w, av, bv, rv, lf, ly, ks, N, F⟩ := MS_ex h
      exact ⟨sz, N, F.hN, fun q => absurd q e⟩
  refine mct_count h hz hN (fun f1 r hM hC h1 => ?_)
  have e : r = v := by
    by_cases q5 : z = 5
    · have := h5 q5
      omega
    · rcases hr with q | q | q | q | q | ⟨q, _⟩ | q
      · omega
      · omega
      · omega
      · omega
      · omega
      · exact absurd q q5
      · omega
  rw [e]
  exact hq f1 _ hM hC
theorem mdt_after {z : Int} (h : MSs f th (mkS bn β gn σ d as ps pb pu pr)) (hi : chn gn σ as) (hz : inI z) (hr : rd_after bn β gn σ d as ps pb pu pr z v S1) (hq : ∀ f1 th', MSs f1 th' S1 → kC f f1 → Q (.inl (some (vI v))) n f1) : xct g M_X10_after 0 0 [vR 38, vI z] n f Q := by
  have h : MS f th bn β gn σ d as ps pb pu pr := h
  obtain ⟨hr, rfl⟩ := hr
  refine mct_after h hz (fun f1 r hM hC h1 => ?_)
  rw [aftR_u h1 hr]
  exact hq f1 _ hM hC
theorem mdt_order {z : Int} (h : MSs f th (mkS bn β gn σ d as ps pb pu pr)) (hi : chn gn σ as) (hz : inI z) (hr : rd_order bn β gn σ d as ps pb pu pr z v S1) (hq : ∀ f1 th', MSs f1 th' S1 → kC f f1 → Q (.inl (some (vI v))) n f1) : xct g M_X10_order 0 0 [vR 38, vI z] n f Q := by
  have h : MS f th bn β gn σ d as ps pb pu pr := h
  obtain ⟨⟨sz, ls, kc, c, w, av, bv, rv, lf, ly, ks, N, hD, hv⟩, rfl⟩ := hr
  have F := tgD_F (MS_z h) (chn_nt hi) hD
  obtain ⟨lf0, ly0, e1, e2, _⟩ := F.hio
  refine mct_order h hz F.hN F.hav (fun f1 hM hC => ?_)
  rw [order_eq (c := c) (lf0 := lf0) (ly0 := ly0) F.hc, ← e1, ← e2, ← hv]
  exact hq f1 _ hM hC
theorem mdt_knots (h : MSs f th (mkS bn β gn σ d as ps pb pu pr)) (hi : chn gn σ as) (hr : rd_knots bn β gn σ d as ps pb pu pr v S1) (hq : ∀ f1 th', MSs f1 th' S1 → kC f f1 → Q (.inl (some (vI v))) n f1) : xct g M_X10_knots 0 0 [vR 38] n f Q := by
  have h : MS f th bn β gn σ d as ps pb pu pr := h
  obtain ⟨⟨sz, ls, kc, c, w, av, bv, rv, lf, ly, ks, N, hD, hv⟩, rfl⟩ := hr
  have F := tgD_F (MS_z h) (chn_nt hi) hD
  refine mct_knots h F.hN F.hav (fun f1 hM hC => ?_)
  rw [← F.hkc, ← hv]
  exact hq f1 _ hM hC
theorem mdt_knot {z x i : Int} (h : MSs f th (mkS bn β gn σ d as ps pb pu pr)) (hi : chn gn σ as) (hz : inI z) (hx : inI x) (hi9 : inI i) (hr : rd_knot bn β gn σ d as ps pb pu pr z x i v S1) (hq : ∀ f1 th', MSs f1 th' S1 → kC f f1 → Q (.inl (some (vI v))) n f1) : xct g M_X10_knot 0 0 [vR 38, vI z, vI x, vI i] n f Q := by
  have h : MS f th bn β gn σ d as ps pb pu pr := h
  obtain ⟨⟨sz, ls, kc, c, w, av, bv, rv, lf, ly, ks, N, hD, hv⟩, rfl⟩ := hr
  have F := tgD_F (MS_z h) (chn_nt hi) hD
  have hok := knOK_of F.hav F.hK F.h20
  have h40 := F.h40
  have hkc := F.hkc
  have hS : ∀ kk : Nat, z = (kk : Int) → kk < (mkA (fun i j => WP av sz i j) sz).2 → ∀ q, (ks z.toNat).testBit q = true ↔ (q < sz ∧ (mkA (fun i j => WP av sz i j) sz).1 q = z) := by
    intro kk e hkk
    rw [e, Int.toNat_natCast]
    exact F.hks kk hkk
  refine mct_knot h hz hx hi9 F.hN F.hav rfl rfl hok (fun f1 hM hC h1 => ?_) (fun f1 hM hC h1 h2 h3 => ?_) (fun f1 p least q hM hC h1 h2 h3 hP hR hq9 => ?_)
  · have e : v = -1 := by
      rw [hv]
      by_cases a : 0 ≤ z ∧ z < kc
      · rw [if_pos a]
        have kE : z = ((z.toNat : Nat) : Int) := by omega
        have hb := hS z.toNat kE (by omega)
        by_cases b : x = 0
        · rw [if_pos b, knN_eq (c := c) h40 F.hc hb]
          have neg : i < 0 := by
            by_cases q : i < 0
            · exact q
            · exact absurd ⟨⟨a.1, by omega⟩, by omega, Or.inl b⟩ h1
          unfold knN
          have : xnth (fun p => decide ((mkA (fun i j => WP av sz i j) sz).1 p = z)) i 0 0 sz = -1 := xnth_neg neg (Int.le_refl 0)
          rw [if_pos this]
        · rw [if_neg b]
          by_cases b1 : x = 1
          · rw [if_pos b1]
            have neg : i < 0 := by
              by_cases q : i < 0
              · exact q
              · exact absurd ⟨⟨a.1, by omega⟩, by omega, Or.inr b1⟩ h1
            have e9 : pir av bv sz (ks z.toNat) i = -1 := pir_neg neg
            rw [e9]; rfl
          · rw [if_neg b1]
      · rw [if_neg a]
    rw [← e]
    exact hq f1 _ hM hC
  · have kE : z = ((z.toNat : Nat) : Int) := by omega
    have hb := hS z.toNat kE (by omega)
    rw [if_pos (by omega), if_pos h3, knN_eq (c := c) h40 F.hc hb] at hv
    rw [← hv]
    exact hq f1 _ hM hC
  · have kE : z = ((z.toNat : Nat) : Int) := by omega
    have hb := hS z.toNat kE (by omega)
    have R := (ring_eq (i := i) h40 F.hav F.hbv F.hK hok (by omega) hb hP hR hq9).1 h2
    rw [if_pos (by omega), if_neg (by omega), if_pos h3, R] at hv
    have e : v = (if i < (least : Int) then (N (q i.toNat) : Int) else -1) := by
      rw [hv]
      by_cases a : i < (least : Int)
      · rw [if_pos a, if_pos a]
        have b := hq9 i.toNat (by omega)
        unfold xnum
        rw [if_pos (by omega), Int.toNat_natCast, F.hc _ b]
      · rw [if_neg a, if_neg a]; rfl
    rw [← e]
    exact hq f1 _ hM hC
theorem mdt_fewest (h : MSs f th (mkS bn β gn σ d as ps pb pu pr)) (hi : chn gn σ as) (hr : rd_fewest bn β gn σ d as ps pb pu pr v S1) (hq : ∀ f1 th', MSs f1 th' S1 → kC f f1 → Q (.inl (some (vI v))) n f1) : xct g M_X10_fewest 0 0 [vR 38] n f Q := by
  have h : MS f th bn β gn σ d as ps pb pu pr := h
  obtain ⟨⟨sz, ls, kc, c, w, av, bv, rv, lf, ly, ks, N, hD, hv⟩, rfl⟩ := hr
  have F := tgD_F (MS_z h) (chn_nt hi) hD
  rw [F.hkc, Int.toNat_natCast] at hv
  refine mct_fewest (ks := ks) (wo := w) h F.hN F.hav rfl rfl (knOK_of F.hav F.hK F.h20) F.hks F.hw (fun f1 hM hC => ?_)
  rw [← hv]
  exact hq f1 _ hM hC
theorem mdt_few {z : Int} (h : MSs f th (mkS bn β gn σ d as ps pb pu pr)) (hi : chn gn σ as) (hz : inI z) (hr : rd_few bn β gn σ d as ps pb pu pr z v S1) (hq : ∀ f1 th', MSs f1 th' S1 → kC f f1 → Q (.inl (some (vI v))) n f1) : xct g M_X10_few 0 0 [vR 38, vI z] n f Q := by
  have h : MS f th bn β gn σ d as ps pb pu pr := h
  obtain ⟨⟨sz, ls, kc, c, w, av, bv, rv, lf, ly, ks, N, hD, hv⟩, rfl⟩ := hr
  have F := tgD_F (MS_z h) (chn_nt hi) hD
  rw [F.hkc, Int.toNat_natCast, few_eq (N := N) F.hc (rmd_bits _ _ _ _ (fun q e => by rw [Nat.zero_testBit] at e; cases e))] at hv
  refine mct_few (ks := ks) (wo := w) h hz F.hN F.hav rfl rfl (knOK_of F.hav F.hK F.h20) F.hks F.hw (fun f1 hM hC => ?_)
  rw [← hv]
  exact hq f1 _ hM hC
theorem mdt_push {z : Int} (h : MSs f th (mkS bn β gn σ d as ps pb pu pr)) (hi : chn gn σ as) (hz : inI z) (hr : rd_push bn β gn σ d as ps pb pu pr z v S1) (hq : ∀ f1 th', MSs f1 th' S1 → kC f f1 → Q (.inl (some (vI v))) n f1) : xct g M_X10_push 0 0 [vR 38, vI z] n f Q := by
  have h : MS f th bn β gn σ d as ps pb pu pr := h
  refine mct_push h hz (fun a f1 hM hC => ?_) (fun a f1 hM hC => ?_)
  · rcases hr with ⟨_, rfl, rfl⟩ | ⟨c, _⟩
    · exact hq f1 _ hM hC
    · exact absurd a c
  · rcases hr with ⟨c, _⟩ | ⟨_, rfl, rfl⟩
    · exact absurd c a
    · exact hq f1 _ hM hC
theorem mdt_octet {z : Int} (h : MSs f th (mkS bn β gn σ d as ps pb pu pr)) (hi : chn gn σ as) (hz : inI z) (hr : rd_octet bn β gn σ d as ps pb pu pr z v S1) (hq : ∀ f1 th', MSs f1 th' S1 → kC f f1 → Q (.inl (some (vI v))) n f1) : xct g M_X10_octet 0 0 [vR 38, vI z] n f Q := by
  have h : MS f th bn β gn σ d as ps pb pu pr := h
  obtain ⟨rfl, rfl⟩ := hr
  exact mct_octet h hz (fun f1 hM hC => hq f1 _ hM hC)
theorem iv_box {w : Int} (h : MSs f th (mkS bn β gn σ d as ps pb pu pr)) (hi : chn gn σ as) (hr : rl_box bn β gn σ d as ps pb pu pr w k v S1) : inv S1 := by
  rcases hr with ⟨_, _, _, _, rfl⟩ | ⟨_, _, rfl⟩ | ⟨_, _, _, rfl⟩ <;> exact hi
theorem iv_row {z w m : Int} (h : MSs f th (mkS bn β gn σ d as ps pb pu pr)) (hi : chn gn σ as) (hr : rl_row bn β gn σ d as ps pb pu pr z w m k v S1) : inv S1 := by
  rcases hr with ⟨_, _, _, _, _, _, _, ⟨_, _, rfl⟩ | ⟨_, _, rfl⟩⟩ | ⟨_, _, rfl⟩ <;> exact hi
theorem iv_put {z w m x : Int} (h : MSs f th (mkS bn β gn σ d as ps pb pu pr)) (hi : chn gn σ as) (hr : rl_put bn β gn σ d as ps pb pu pr z w m x k v S1) : inv S1 := by
  rcases hr with ⟨_, _, _, _, _, _, _, ⟨_, _, _, _, rfl⟩ | ⟨_, _, rfl⟩ | ⟨_, _, _, rfl⟩⟩ | ⟨_, _, rfl⟩ <;> exact hi
theorem iv_copy {z w x z2 w2 x2 m : Int} (h : MSs f th (mkS bn β gn σ d as ps pb pu pr)) (hi : chn gn σ as) (hr : rl_copy bn β gn σ d as ps pb pu pr z w x z2 w2 x2 m k v S1) : inv S1 := by
  rcases hr with ⟨_, _, _, _, _, _, _, _, _, _, _, _, _, ⟨_, _, rfl⟩ | ⟨_, _, _, rfl⟩ | ⟨_, _, _, _, rfl⟩ | ⟨_, _, _, _, _, _, _, _, _, _, _, rfl⟩⟩ | ⟨_, _, rfl⟩ <;> exact hi
theorem iv_tear {z w : Int} (h : MSs f th (mkS bn β gn σ d as ps pb pu pr)) (hi : chn gn σ as) (hr : rl_tear bn β gn σ d as ps pb pu pr z w k v S1) : inv S1 := by
  rcases hr with ⟨_, _, _, _, _, _, _, _, rfl⟩ | ⟨_, _, rfl⟩ <;> exact hi
theorem iv_turn {a b c : Int} (h : MSs f th (mkS bn β gn σ d as ps pb pu pr)) (hi : chn gn σ as) (hr : rl_turn bn β gn σ d as ps pb pu pr a b c k v S1) : inv S1 := by
  rcases hr with ⟨_, _, _, rfl⟩ | ⟨_, _, rfl⟩ <;> exact hi
theorem iv_told {z w : Int} (h : MSs f th (mkS bn β gn σ d as ps pb pu pr)) (hi : chn gn σ as) (hr : rl_told bn β gn σ d as ps pb pu pr z w k v S1) : inv S1 := by
  rcases hr with ⟨_, _, _, _, _, rfl⟩ | ⟨_, _, rfl⟩ <;> exact hi
theorem iv_bars {z z2 : Int} (h : MSs f th (mkS bn β gn σ d as ps pb pu pr)) (hi : chn gn σ as) (hr : rl_bars bn β gn σ d as ps pb pu pr z z2 k v S1) : inv S1 := by
  rcases hr with ⟨_, _, _, _, _, _, _, _, _, _, rfl⟩ | ⟨_, _, rfl⟩ <;> exact hi
theorem iv_crossings {z : Int} (h : MSs f th (mkS bn β gn σ d as ps pb pu pr)) (hi : chn gn σ as) (hr : rl_crossings bn β gn σ d as ps pb pu pr z k v S1) : inv S1 := by
  rcases hr with ⟨_, _, _, _, _, _, rfl⟩ | ⟨_, _, rfl⟩ <;> exact hi
theorem iv_crossing {z k9 w : Int} (h : MSs f th (mkS bn β gn σ d as ps pb pu pr)) (hi : chn gn σ as) (hr : rl_crossing bn β gn σ d as ps pb pu pr z k9 w k v S1) : inv S1 := by
  rcases hr with ⟨_, _, _, _, _, _, rfl⟩ | ⟨_, _, rfl⟩ <;> exact hi
theorem iv_print {z k9 w : Int} (h : MSs f th (mkS bn β gn σ d as ps pb pu pr)) (hi : chn gn σ as) (hr : rl_print bn β gn σ d as ps pb pu pr z k9 w k v S1) : inv S1 := by
  rcases hr with ⟨_, _, _, _, _, ⟨_, _, rfl⟩ | ⟨_, _, _, _, _, _, _, _, _, _, rfl⟩⟩ | ⟨_, _, rfl⟩ <;> exact hi
theorem iv_free {z : Int} (h : MSs f th (mkS bn β gn σ d as ps pb pu pr)) (hi : chn gn σ as) (hr : rl_free bn β gn σ d as ps pb pu pr z k v S1) : inv S1 := by
  rcases hr with ⟨_, _, _, _, _, _, rfl⟩ | ⟨_, _, rfl⟩ <;> exact hi
theorem iv_layer {z : Int} (h : MSs f th (mkS bn β gn σ d as ps pb pu pr)) (hi : chn gn σ as) (hr : rl_layer bn β gn σ d as ps pb pu pr z k v S1) : inv S1 := by
  rcases hr with ⟨_, _, _, _, _, _, rfl⟩ | ⟨_, _, rfl⟩ <;> exact hi
theorem iv_check {z : Int} (h : MSs f th (mkS bn β gn σ d as ps pb pu pr)) (hi : chn gn σ as) (hr : rl_check bn β gn σ d as ps pb pu pr z k v S1) : inv S1 := by
  rcases hr with ⟨_, _, _, rfl⟩ | ⟨_, _, rfl⟩ <;> exact hi
theorem iv_lay {kd z w mk wo : Int} (h : MSs f th (mkS bn β gn σ d as ps pb pu pr)) (hi : chn gn σ as) (hr : rl_lay bn β gn σ d as ps pb pu pr kd z w mk wo k v S1) : inv S1 := by
  rcases hr with ⟨_, _, _, _, _, _, _, _, ⟨_, rfl⟩ | ⟨hy, _, rfl⟩⟩ | ⟨_, _, rfl⟩ | ⟨_, _, _, rfl⟩
  · exact hi
  · exact chn_lay hi hy.2.2.2.2
  · exact hi
  · exact hi
theorem iv_move {z x y9 w : Int} (h : MSs f th (mkS bn β gn σ d as ps pb pu pr)) (hi : chn gn σ as) (hr : rl_move bn β gn σ d as ps pb pu pr z x y9 w k v S1) : inv S1 := by
  rcases hr with ⟨s, e, h1, h2, _, ⟨_, _, rfl⟩ | ⟨_, _, _, _, _, rfl⟩ | ⟨_, hl, _, rfl⟩⟩ | ⟨_, _, rfl⟩
  · exact hi
  · exact hi
  · have h : MS f th bn β gn σ d as ps pb pu pr := h
    obtain ⟨m, _, _, _, ⟨K, M, W, P, Z, _, _, _, _, _, _, hs, _⟩, _⟩ := h
    rw [e]
    exact chn_move hi h1 h2 (hs s h1).1 hl
  · exact hi
theorem iv_away {z : Int} (h : MSs f th (mkS bn β gn σ d as ps pb pu pr)) (hi : chn gn σ as) (hr : rl_away bn β gn σ d as ps pb pu pr z k v S1) : inv S1 := by
  rcases hr with ⟨s, e, h1, h2, _, _, rfl⟩ | ⟨_, _, rfl⟩
  · have h : MS f th bn β gn σ d as ps pb pu pr := h
    obtain ⟨m, _, _, _, _, _, _, _, _, h40, _, _⟩ := h
    rw [e]
    exact chn_away hi h1 h2 h40
  · exact hi
theorem iv_lift {z : Int} (h : MSs f th (mkS bn β gn σ d as ps pb pu pr)) (hi : chn gn σ as) (hr : rl_lift bn β gn σ d as ps pb pu pr z k v S1) : inv S1 := by
  rcases hr with ⟨s, e, h1, h2, _, ⟨_, _, rfl⟩ | ⟨_, _, rfl⟩⟩ | ⟨_, _, rfl⟩
  · have h : MS f th bn β gn σ d as ps pb pu pr := h
    obtain ⟨m, _, _, _, _, _, _, _, _, h40, _, _⟩ := h
    rw [e]
    exact chn_away hi h1 h2 h40
  · exact hi
  · exact hi
theorem jv_undo (hi : chn gn σ as) (hr : rd_undo bn β gn σ d as ps pb pu pr v S1) : inv S1 := by
  rcases hr with ⟨_, _, rfl⟩ | ⟨x, as1, e, _, rfl⟩
  · exact hi
  · rw [e] at hi; exact chn_undo hi
theorem jv_push {z : Int} (hi : chn gn σ as) (hr : rd_push bn β gn σ d as ps pb pu pr z v S1) : inv S1 := by
  rcases hr with ⟨_, _, rfl⟩ | ⟨_, _, rfl⟩ <;> exact hi
theorem jv_count {z : Int} (hi : chn gn σ as) (hr : rd_count bn β gn σ d as ps pb pu pr z v S1) : inv S1 := by obtain ⟨_, rfl⟩ := hr; exact hi
theorem jv_after {z : Int} (hi : chn gn σ as) (hr : rd_after bn β gn σ d as ps pb pu pr z v S1) : inv S1 := by obtain ⟨_, rfl⟩ := hr; exact hi
theorem jv_order {z : Int} (hi : chn gn σ as) (hr : rd_order bn β gn σ d as ps pb pu pr z v S1) : inv S1 := by obtain ⟨_, rfl⟩ := hr; exact hi
theorem jv_knots (hi : chn gn σ as) (hr : rd_knots bn β gn σ d as ps pb pu pr v S1) : inv S1 := by obtain ⟨_, rfl⟩ := hr; exact hi
theorem jv_knot {z x i : Int} (hi : chn gn σ as) (hr : rd_knot bn β gn σ d as ps pb pu pr z x i v S1) : inv S1 := by obtain ⟨_, rfl⟩ := hr; exact hi
theorem jv_fewest (hi : chn gn σ as) (hr : rd_fewest bn β gn σ d as ps pb pu pr v S1) : inv S1 := by obtain ⟨_, rfl⟩ := hr; exact hi
theorem jv_few {z : Int} (hi : chn gn σ as) (hr : rd_few bn β gn σ d as ps pb pu pr z v S1) : inv S1 := by obtain ⟨_, rfl⟩ := hr; exact hi
theorem jv_octet {z : Int} (hi : chn gn σ as) (hr : rd_octet bn β gn σ d as ps pb pu pr z v S1) : inv S1 := by obtain ⟨_, rfl⟩ := hr; exact hi
theorem zb_lift {z : Int} (hr : rl_lift bn β gn σ d as ps pb pu pr z k v S1) (e : k = 0) : v = 0 ∨ v = 1 := by
  rcases hr with ⟨_, _, _, _, _, ⟨q, _⟩ | ⟨q, _⟩⟩ | ⟨_, q, _⟩
  · exact Or.inr q
  · exact Or.inl q
  · omega
theorem zb_bars {z z2 : Int} (hr : rl_bars bn β gn σ d as ps pb pu pr z z2 k v S1) (e : k = 0) : v = 0 ∨ v = 1 := by
  rcases hr with ⟨_, _, _, _, _, _, _, _, _, ⟨_, _, _, _, _, _, _, _, _, _, _, _, _, q⟩, _⟩ | ⟨_, q, _⟩
  · rw [q]; split
    · exact Or.inr rfl
    · exact Or.inl rfl
  · omega
theorem zb_free {z : Int} (hr : rl_free bn β gn σ d as ps pb pu pr z k v S1) (e : k = 0) : v = 0 ∨ v = 1 := by
  rcases hr with ⟨_, _, _, _, _, ⟨_, _, _, _, _, _, _, _, _, _, _, _, _, q⟩, _⟩ | ⟨_, q, _⟩
  · rw [q]; split
    · exact Or.inr rfl
    · exact Or.inl rfl
  · omega
end Cb8
