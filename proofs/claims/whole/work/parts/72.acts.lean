/-! the acts -/
def mvS (X : xSt) (x y z : Int) : xSt := (X.1, (X.2.1, (X.2.2.1, (X.2.2.2.1, shf (ptS X) (pcS X + 1) x y z))))
def stS (X : xSt) (h : Int) : xSt := (X.1, (X.2.1, (X.2.2.1, (h, X.2.2.2.2))))
def aCt (k s x y z : Int) : xAc := (k, (s, (x, (y, z))))
theorem hc_cg {σ σ1 : Nat → xSt} : ∀ s, (∀ t, t < s → hrS (σ1 t) = hrS (σ t)) → hc σ1 s = hc σ s := by
  intro s
  induction s with
  | zero => intro _; rfl
  | succ s ih =>
    intro h
    unfold hc
    rw [ih (fun t ht => h t (by omega)), h s (by omega)]
theorem hc_off {σ : Nat → xSt} {s : Nat} {X : xSt} (h1 : hrS (σ s) = 1) (h0 : hrS X = 0) : ∀ g, hc (xui σ s X) g + (if s < g then 1 else 0) = hc σ g := by
  intro g
  induction g with
  | zero => rw [if_neg (by omega)]; rfl
  | succ g ih =>
    by_cases e : g = s
    · subst e
      have a1 : hc (xui σ g X) (g + 1) = hc (xui σ g X) g := hc_0 (by rw [xui_s, h0]; decide)
      have a2 := hc_1 h1
      rw [if_neg (by omega : ¬ g < g)] at ih
      rw [if_pos (by omega : g < g + 1), a1, a2]; omega
    · have a3 : hc (xui σ s X) (g + 1) = hc (xui σ s X) g + (if hrS (σ g) = 1 then 1 else 0) := by
        show _ + (if hrS (xui σ s X g) = 1 then 1 else 0) = _
        rw [xui_n _ _ e]
      have a4 : hc σ (g + 1) = hc σ g + (if hrS (σ g) = 1 then 1 else 0) := rfl
      rw [a3, a4]
      by_cases e2 : s < g
      · rw [if_pos e2] at ih; rw [if_pos (show s < g + 1 by omega)]; omega
      · rw [if_neg e2] at ih; rw [if_neg (show ¬ s < g + 1 by omega)]; omega
theorem hc_on {σ : Nat → xSt} {s : Nat} {X : xSt} (h1 : hrS (σ s) ≠ 1) (h0 : hrS X = 1) : ∀ g, hc (xui σ s X) g = hc σ g + (if s < g then 1 else 0) := by
  intro g
  induction g with
  | zero => rw [if_neg (by omega)]; rfl
  | succ g ih =>
    by_cases e : g = s
    · subst e
      have a1 : hc (xui σ g X) (g + 1) = hc (xui σ g X) g + 1 := hc_1 (by rw [xui_s]; exact h0)
      have a2 := hc_0 h1
      rw [if_neg (by omega : ¬ g < g)] at ih
      rw [if_pos (by omega : g < g + 1), a1, a2]; omega
    · have a3 : hc (xui σ s X) (g + 1) = hc (xui σ s X) g + (if hrS (σ g) = 1 then 1 else 0) := by
        show _ + (if hrS (xui σ s X g) = 1 then 1 else 0) = _
        rw [xui_n _ _ e]
      have a4 : hc σ (g + 1) = hc σ g + (if hrS (σ g) = 1 then 1 else 0) := rfl
      rw [a3, a4]
      by_cases e2 : s < g
      · rw [if_pos e2] at ih; rw [if_pos (show s < g + 1 by omega)]; omega
      · rw [if_neg e2] at ih; rw [if_neg (show ¬ s < g + 1 by omega)]; omega
theorem stk_set {f F : xH} {gn s : Nat} {so : Nat → Nat} {σ : Nat → xSt} {X : xSt} (h : stk f gn so σ) (hs : s < gn) (h2 : F 2 = f 2) (e0 : F (so s) = some (oSk X (so s + 1))) (e1 : F (so s + 1) = some (aI 9 (ptS X))) (hX : okK X) (hf : ∀ k, 79 ≤ k → k ≠ so s → k ≠ so s + 1 → F k = f k) : stk F gn so (xui σ s X) := by
  refine ⟨h2.trans h.1, h.2.1, fun t ht => ?_, h.2.2.2⟩
  have hk := h.2.2.1 t ht
  by_cases e : t = s
  · subst e
    rw [xui_s]
    exact ⟨hk.1, e0, e1, hX⟩
  · rw [xui_n _ _ e]
    have hsp : so t + 1 < so s ∨ so s + 1 < so t := by
      rcases Nat.lt_or_ge t s with q | q
      · exact Or.inl (h.2.2.2 t s q hs)
      · exact Or.inr (h.2.2.2 s t (by omega) ht)
    exact ⟨hk.1, (hf _ hk.1 (by omega) (by omega)).trans hk.2.1, (hf _ (by omega) (by omega) (by omega)).trans hk.2.2.1, hk.2.2.2⟩
theorem acs_note {F : xH} {as : List xAc} {p : Nat} {a13 a14 a15 a16 a17 : Nat → Int} {kd s x y z : Int} (hp : p < 8) (hl : as.length ≤ 8) (hi : ∀ i x, as[i]? = some x → a13 ((p + 15 - i) % 8) = x.1 ∧ a14 ((p + 15 - i) % 8) = x.2.1 ∧ a15 ((p + 15 - i) % 8) = x.2.2.1 ∧ a16 ((p + 15 - i) % 8) = x.2.2.2.1 ∧ a17 ((p + 15 - i) % 8) = x.2.2.2.2)
    (F12 : F 12 = some (.inr (0, fX0 (if 8 < (as.length : Int) + 1 then 8 else (as.length : Int) + 1) ((p + 1) % 8 : Nat)))) (F13 : F 13 = some (aI 8 (xui a13 p kd))) (F14 : F 14 = some (aI 8 (xui a14 p s))) (F15 : F 15 = some (aI 8 (xui a15 p x))) (F16 : F 16 = some (aI 8 (xui a16 p y))) (F17 : F 17 = some (aI 8 (xui a17 p z))) : acs F (aCt kd s x y z :: as.take 7) := by
  have hlen : (aCt kd s x y z :: as.take 7).length = if 8 < as.length + 1 then 8 else as.length + 1 := by
    rw [List.length_cons, List.length_take]
    split <;> omega
  refine ⟨(p + 1) % 8, _, _, _, _, _, ?_, F13, F14, F15, F16, F17, Nat.mod_lt _ (by decide), by rw [hlen]; split <;> omega, fun i a hia => ?_⟩
  · rw [F12, hlen]
    congr 3
    by_cases e : 8 < as.length + 1
    · rw [if_pos e, if_pos (by omega)]; rfl
    · rw [if_neg e, if_neg (by omega)]; rfl
  · cases i with
    | zero =>
      have e : ((p + 1) % 8 + 15 - 0) % 8 = p := by omega
      rw [e, xui_s, xui_s, xui_s, xui_s, xui_s]
      have h9 : aCt kd s x y z = a := Option.some.inj hia
      rw [← h9]
      exact ⟨rfl, rfl, rfl, rfl, rfl⟩
    | succ i =>
      rw [List.getElem?_cons_succ, List.getElem?_take] at hia
      by_cases hi7 : i < 7
      · rw [if_pos hi7] at hia
        have e : ((p + 1) % 8 + 15 - (i + 1)) % 8 = (p + 15 - i) % 8 := by omega
        have hne : (p + 15 - i) % 8 ≠ p := by omega
        rw [e, xui_n _ _ hne, xui_n _ _ hne, xui_n _ _ hne, xui_n _ _ hne, xui_n _ _ hne]
        exact hi i a hia
      · rw [if_neg hi7] at hia; cases hia
theorem CS_scr {n : Nat} {f f1 : xH} {bn : Nat} {β : Nat → xBx} {gn : Nat} {σ : Nat → xSt} {d : Nat → Int} {as : List xAc} {ps : Nat} {pb : Nat → Int} {pu : Nat} {pr : Nat → Int} (h : CS n f bn β gn σ d as ps pb pu pr) (hf : scr f f1) : CS n f1 bn β gn σ d as ps pb pu pr ∧ kM f f1 := by
  obtain ⟨bo, so, tk, rk, h0, hb, hs, hg, ha, hp, hl, ht, hr, h40, hrk, hw, hx⟩ := h
  have hn := n79 hw hx
  have hq : ∀ k, k < 5 ∨ 11 < k → f1 k = f k := hf.1
  refine ⟨⟨bo, so, tk, rk, (hq 0 (by omega)).trans h0, bxs_fr hb (hq 1 (by omega)) (fun k q => hq k (by omega)), stk_fr hs (hq 2 (by omega)) (fun k q => hq k (by omega)), sgt_scr hg hf, acs_fr ha (fun k a b => hq k (by omega)), pgs_fr hp (hq 18 (by omega)) (hq 19 (by omega)), lsA_k hl (hq 20 (by omega)) (hq 21 (by omega)) (fun k c q => (hq k (by have := fx_ne hx q; omega)).trans q), tgA_fr ht (fun k a b => hq k (by omega)), prf_fr hr (hq 37 (by omega)), h40, hrk, fun k hk => (hq k (by omega)).trans (hw k hk), fx_k hx (fun k a => ?_)⟩, fun k e a b q => (hq k (by omega)).trans q⟩
  by_cases e5 : 5 ≤ k ∧ k ≤ 11
  · obtain ⟨v, hv⟩ := hf.2 k e5.1 e5.2; exact Or.inr ⟨_, hv, Nat.ne_of_beq_eq_false rfl⟩
  · exact Or.inl (hq k (by omega))
theorem CS_ext {n n1 : Nat} {f f1 : xH} {bn : Nat} {β : Nat → xBx} {gn : Nat} {σ : Nat → xSt} {d : Nat → Int} {as : List xAc} {ps : Nat} {pb : Nat → Int} {pu : Nat} {pr : Nat → Int} (h : CS n f bn β gn σ d as ps pb pu pr) (hn1 : n ≤ n1) (hf : ∀ k, k < n → f1 k = f k) (hw1 : wf n1 f1) : CS n1 f1 bn β gn σ d as ps pb pu pr ∧ kM f f1 := by
  obtain ⟨bo, so, tk, rk, h0, hb, hs, hg, ha, hp, hl, ht, hr, h40, hrk, hw, hx⟩ := h
  have hn := n79 hw hx
  have hq : ∀ k e, f k = some e → f1 k = some e := fun k e q => (hf k (wf_ne hw q)).trans q
  have hl' : ∀ k, k < 79 → f1 k = f k := fun k q => hf k (by omega)
  exact ⟨⟨bo, so, tk, rk, (hl' 0 (by omega)).trans h0, bxs_k hb (hl' 1 (by omega)) (fun k e _ q _ => hq k e q), stk_k hs (hl' 2 (by omega)) (fun k e _ q _ => hq k e q), sgt_fr hg (fun k a b => hl' k (by omega)), acs_fr ha (fun k a b => hl' k (by omega)), pgs_fr hp (hl' 18 (by omega)) (hl' 19 (by omega)), lsA_k hl (hl' 20 (by omega)) (hl' 21 (by omega)) (fun k c q => hq k _ q), tgA_fr ht (fun k a b => hl' k (by omega)), prf_fr hr (hl' 37 (by omega)), h40, hrk, hw1, fx_k hx (fun k a => Or.inl (hl' k a))⟩, fun k e a b q => hq k e q⟩
theorem okK_st {X : xSt} {h : Int} (hX : okK X) (hh : h = 0 ∨ h = 1) : okK (stS X h) := ⟨hX.1, hX.2.1, hX.2.2.1, hh, hX.2.2.2.2⟩
theorem okK_mv {X : xSt} {x y z : Int} (hX : okK X) (h : nearAll (ptS X) (pcS X) x y z) : okK (mvS X x y z) := by
  refine ⟨hX.1, hX.2.1, hX.2.2.1, hX.2.2.2.1, fun j hj => ?_⟩
  show nr (shf (ptS X) (pcS X + 1) x y z j)
  unfold shf
  split
  · next hjl =>
    have h1 := h (j / 3) (by omega)
    rcases (by omega : j % 3 = 0 ∨ j % 3 = 1 ∨ j % 3 = 2) with e | e | e
    · rw [if_pos e]
      have e2 : 3 * (j / 3) = j := by omega
      rw [e2] at h1; exact h1.1
    · rw [if_neg (by omega), if_pos e]
      have e2 : 3 * (j / 3) + 1 = j := by omega
      rw [e2] at h1; exact h1.2.1
    · rw [if_neg (by omega), if_neg (by omega)]
      have e2 : 3 * (j / 3) + 2 = j := by omega
      rw [e2] at h1; exact h1.2.2
  · exact hX.2.2.2.2 j hj
theorem shf_bk (pt : Nat → Int) (m : Nat) (x y z : Int) : shf (shf pt m x y z) m (-x) (-y) (-z) = pt := by
  funext j
  unfold shf
  split
  · split
    · omega
    · split <;> omega
  · rfl
def und (σ : Nat → xSt) (x : xAc) : Nat → xSt := xui σ x.2.1.toNat (if x.1 = 1 then stS (σ x.2.1.toNat) 0 else if x.1 = 2 then mvS (σ x.2.1.toNat) (-x.2.2.1) (-x.2.2.2.1) (-x.2.2.2.2) else stS (σ x.2.1.toNat) 1)
def undOK (gn : Nat) (σ : Nat → xSt) (x : xAc) : Prop := ∃ s : Nat, x.2.1 = (s : Int) ∧ s < gn ∧ ((x.1 = 1 ∧ hrS (σ s) = 1) ∨ (x.1 = 2 ∧ okK (mvS (σ s) (-x.2.2.1) (-x.2.2.2.1) (-x.2.2.2.2))) ∨ (x.1 = 3 ∧ hrS (σ s) ≠ 1 ∧ hc σ gn < 40))
