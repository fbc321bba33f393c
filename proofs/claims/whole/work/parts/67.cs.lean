/-! the whole state of the table -/
def szA (e : xE) : Nat := match e with
  | .inl a => a.2.1
  | .inr o => 1000 + o.1
abbrev xAc : Type := Int × (Int × (Int × (Int × Int)))
def acs (f : xH) (as : List xAc) : Prop := ∃ (p : Nat) (a13 a14 a15 a16 a17 : Nat → Int), f 12 = some (.inr (0, fX0 (as.length : Int) p)) ∧ f 13 = some (aI 8 a13) ∧ f 14 = some (aI 8 a14) ∧ f 15 = some (aI 8 a15) ∧ f 16 = some (aI 8 a16) ∧ f 17 = some (aI 8 a17) ∧ p < 8 ∧ as.length ≤ 8 ∧ ∀ i x, as[i]? = some x → a13 ((p + 15 - i) % 8) = x.1 ∧ a14 ((p + 15 - i) % 8) = x.2.1 ∧ a15 ((p + 15 - i) % 8) = x.2.2.1 ∧ a16 ((p + 15 - i) % 8) = x.2.2.2.1 ∧ a17 ((p + 15 - i) % 8) = x.2.2.2.2
def pgs (f : xH) (ps : Nat) (pb : Nat → Int) : Prop := f 18 = some (oPg ps) ∧ f 19 = some (aB 40 pb) ∧ ps ≤ 40
def prf (f : xH) (pu : Nat) (pr : Nat → Int) : Prop := f 37 = some (aI 40 pr) ∧ pu ≤ 40 ∧ ∀ j, j < pu → inI (pr j)
def fx (f : xH) : Prop := ∀ k, k < 79 → ∃ e, f k = some e ∧ ∀ c, e ≠ oCr c
def kM (f f1 : xH) : Prop := ∀ k e, 38 ≤ k → k ≤ 78 → f k = some e → f1 k = some e
theorem kM_rf (f : xH) : kM f f := fun _ _ _ _ h => h
theorem kM_tr {f f1 f2 : xH} (h : kM f f1) (h2 : kM f1 f2) : kM f f2 := fun k e a b h9 => h2 k e a b (h k e a b h9)
def CS (n : Nat) (f : xH) (bn : Nat) (β : Nat → xBx) (gn : Nat) (σ : Nat → xSt) (d : Nat → Int) (as : List xAc) (ps : Nat) (pb : Nat → Int) (pu : Nat) (pr : Nat → Int) : Prop :=
  ∃ (bo so : Nat → Nat) (tk rk : Int), f 0 = some (oTb bn gn (hc σ gn : Int) tk rk pu) ∧ bxs f bn bo β ∧ stk f gn so σ ∧ sgt f d ∧ acs f as ∧ pgs f ps pb ∧ lsA n f gn σ d ∧ tgA f tk rk gn σ d ∧ prf f pu pr ∧ hc σ gn ≤ 40 ∧ (rk = 0 ∨ rk = 1) ∧ wf n f ∧ fx f
theorem acs_fr {f f1 : xH} {as : List xAc} (h : acs f as) (hf : ∀ k, 12 ≤ k → k ≤ 17 → f1 k = f k) : acs f1 as := by
  obtain ⟨p, a13, a14, a15, a16, a17, h1, h2, h3, h4, h5, h6, h7⟩ := h
  exact ⟨p, a13, a14, a15, a16, a17, (hf 12 (by omega) (by omega)).trans h1, (hf 13 (by omega) (by omega)).trans h2, (hf 14 (by omega) (by omega)).trans h3, (hf 15 (by omega) (by omega)).trans h4, (hf 16 (by omega) (by omega)).trans h5, (hf 17 (by omega) (by omega)).trans h6, h7⟩
theorem pgs_fr {f f1 : xH} {ps : Nat} {pb : Nat → Int} (h : pgs f ps pb) (h1 : f1 18 = f 18) (h2 : f1 19 = f 19) : pgs f1 ps pb := ⟨h1.trans h.1, h2.trans h.2.1, h.2.2⟩
theorem prf_fr {f f1 : xH} {pu : Nat} {pr : Nat → Int} (h : prf f pu pr) (h1 : f1 37 = f 37) : prf f1 pu pr := ⟨h1.trans h.1, h.2⟩
theorem sgt_fr {f f1 : xH} {d : Nat → Int} (h : sgt f d) (hf : ∀ k, 3 ≤ k → k ≤ 11 → f1 k = f k) : sgt f1 d := by
  obtain ⟨s, h3, h4, h5, h6, h7, h8⟩ := h
  exact ⟨s, (hf 3 (by omega) (by omega)).trans h3, (hf 4 (by omega) (by omega)).trans h4, fun j j1 j2 => by rw [hf j (by omega) (by omega)]; exact h5 j j1 j2, h6, h7, h8⟩
theorem bxs_k {f f1 : xH} {bn : Nat} {bo : Nat → Nat} {β : Nat → xBx} (h : bxs f bn bo β) (h2 : f1 1 = f 1) (hf : ∀ k e, 79 ≤ k → f k = some e → (szA e = 600 ∨ szA e = 20 ∨ szA e = 1001) → f1 k = some e) : bxs f1 bn bo β :=
  ⟨h2.trans h.1, h.2.1, fun s hs => by
    have hk := h.2.2.1 s hs
    exact ⟨hk.1, hf _ _ hk.1 hk.2.1 (Or.inr (Or.inr rfl)), hf _ _ (by omega) hk.2.2.1 (Or.inl rfl), hf _ _ (by omega) hk.2.2.2.1 (Or.inr (Or.inl rfl)), hk.2.2.2.2⟩, h.2.2.2⟩
theorem stk_k {f f1 : xH} {gn : Nat} {so : Nat → Nat} {σ : Nat → xSt} (h : stk f gn so σ) (h2 : f1 2 = f 2) (hf : ∀ k e, 79 ≤ k → f k = some e → (szA e = 9 ∨ szA e = 1007) → f1 k = some e) : stk f1 gn so σ :=
  ⟨h2.trans h.1, h.2.1, fun s hs => by
    have hk := h.2.2.1 s hs
    exact ⟨hk.1, hf _ _ hk.1 hk.2.1 (Or.inr rfl), hf _ _ (by omega) hk.2.2.1 (Or.inl rfl), hk.2.2.2⟩, h.2.2.2⟩
theorem lst_k {n n1 : Nat} {f f1 : xH} {sz : Nat} {L : Nat → xC7} (h : lst n f sz L) (h21 : f1 21 = f 21) (hf : ∀ k c, f k = some (oCr c) → f1 k = some (oCr c)) : lst n1 f1 sz L := by
  obtain ⟨rw0, g21, hinj, hall, hrow⟩ := h
  exact ⟨rw0, h21.trans g21, hinj, fun i b hi hb => by obtain ⟨c, hc⟩ := hall i b hi hb; exact ⟨c, hf _ _ hc⟩, fun j hj => by obtain ⟨b, h1, h2⟩ := hrow j hj; exact ⟨b, h1, hf _ _ h2⟩⟩
theorem lsA_k {n n1 : Nat} {f f1 : xH} {gn : Nat} {σ : Nat → xSt} {d : Nat → Int} (h : lsA n f gn σ d) (h20 : f1 20 = f 20) (h21 : f1 21 = f 21) (hf : ∀ k c, f k = some (oCr c) → f1 k = some (oCr c)) : lsA n1 f1 gn σ d := by
  obtain ⟨sz, ow, L, h1, h2, h3⟩ := h
  exact ⟨sz, ow, L, h20.trans h1, lst_k h2 h21 hf, h3⟩
/-- owner forgotten -/
theorem lsA_f {n n1 : Nat} {f f1 : xH} {gn1 : Nat} {σ1 : Nat → xSt} {d1 : Nat → Int} {sz : Nat} {ow : Int} {L : Nat → xC7} (h20 : f 20 = some (oLs sz ow)) (h2 : lst n f sz L) (h3 : sz ≤ 156) (h4 : okL (sz, L)) (h20' : f1 20 = some (oLs sz (-1))) (h21 : f1 21 = f 21) (hf : ∀ k c, f k = some (oCr c) → f1 k = some (oCr c)) : lsA n1 f1 gn1 σ1 d1 :=
  ⟨sz, -1, L, h20', lst_k h2 h21 hf, h3, h4, Or.inl rfl⟩
theorem fx_up {f : xH} {k : Nat} {e : xE} (h : fx f) (he : ∀ c, e ≠ oCr c) : fx (xup f k e) := by
  intro j hj
  by_cases q : j = k
  · subst q; exact ⟨e, xup_s _ _ _, he⟩
  · rw [xup_n _ _ q]; exact h j hj
theorem fx_n {f : xH} {k : Nat} {e : xE} (h : fx f) (hk : 79 ≤ k) : fx (xup f k e) := by
  intro j hj
  rw [xup_n _ _ (by omega)]; exact h j hj
theorem fx_fr {f f1 : xH} {S : List Nat} (h : fx f) (hf : fr S f f1) (hS : ∀ k ∈ S, ∃ e, f1 k = some e ∧ ∀ c, e ≠ oCr c) : fx f1 := by
  intro j hj
  by_cases q : j ∈ S
  · exact hS j q
  · rw [hf j q]; exact h j hj
theorem fx_ne {f : xH} (h : fx f) {a : Nat} {c : xC7} (ha : f a = some (oCr c)) : 79 ≤ a := by
  rcases Nat.lt_or_ge a 79 with q | q
  · obtain ⟨e, h1, h2⟩ := h a q
    rw [h1] at ha
    exact absurd (Option.some.inj ha) (h2 c)
  · exact q
theorem cr_sz {e : xE} (h : szA e ≠ 1002) : ∀ c, e ≠ oCr c := fun c q => h (by rw [q]; rfl)
theorem fx_k {f f1 : xH} (h : fx f) (hk : ∀ k, k < 79 → f1 k = f k ∨ ∃ e, f1 k = some e ∧ szA e ≠ 1002) : fx f1 := by
  intro j hj
  rcases hk j hj with q | ⟨e, q1, q2⟩
  · rw [q]; exact h j hj
  · exact ⟨e, q1, cr_sz q2⟩
theorem CS_n {n n1 : Nat} {f : xH} {bn : Nat} {β : Nat → xBx} {gn : Nat} {σ : Nat → xSt} {d : Nat → Int} {as : List xAc} {ps : Nat} {pb : Nat → Int} {pu : Nat} {pr : Nat → Int} (h : CS n f bn β gn σ d as ps pb pu pr) (hn : n ≤ n1) : CS n1 f bn β gn σ d as ps pb pu pr := by
  obtain ⟨bo, so, tk, rk, h0, hb, hs, hg, ha, hp, hl, ht, hr, h40, hrk, hw, hx⟩ := h
  exact ⟨bo, so, tk, rk, h0, hb, hs, hg, ha, hp, lsA_k hl rfl rfl (fun _ _ q => q), ht, hr, h40, hrk, wf_le hw hn, hx⟩
theorem CS_bx {n n1 : Nat} {f f1 : xH} {bn1 : Nat} {β1 : Nat → xBx} {gn : Nat} {σ : Nat → xSt} {d : Nat → Int} {as : List xAc} {ps : Nat} {pb : Nat → Int} {pu : Nat} {pr : Nat → Int} {bo1 so : Nat → Nat} {tk rk : Int} (h0 : f1 0 = some (oTb bn1 gn (hc σ gn : Int) tk rk pu)) (hb : bxs f1 bn1 bo1 β1) (hs : stk f gn so σ) (hg : sgt f d) (ha : acs f as) (hp : pgs f ps pb) (hl : lsA n f gn σ d) (ht : tgA f tk rk gn σ d) (hr : prf f pu pr) (h40 : hc σ gn ≤ 40) (hrk : rk = 0 ∨ rk = 1) (hw : wf n1 f1) (hx : fx f)
    (hk : ∀ k, 2 ≤ k → k < 79 → f1 k = f k) (hd : ∀ k e, 79 ≤ k → f k = some e → (szA e = 9 ∨ szA e = 1007 ∨ szA e = 1002) → f1 k = some e) : CS n1 f1 bn1 β1 gn σ d as ps pb pu pr :=
  ⟨bo1, so, tk, rk, h0, hb, stk_k hs (hk 2 (by omega) (by omega)) (fun k e a b c => hd k e a b (by omega)), sgt_fr hg (fun k a b => hk k (by omega) (by omega)), acs_fr ha (fun k a b => hk k (by omega) (by omega)), pgs_fr hp (hk 18 (by omega) (by omega)) (hk 19 (by omega) (by omega)), lsA_k hl (hk 20 (by omega) (by omega)) (hk 21 (by omega) (by omega)) (fun k c q => hd k _ (fx_ne hx q) q (Or.inr (Or.inr rfl))), tgA_fr ht (fun k a b => hk k (by omega) (by omega)), prf_fr hr (hk 37 (by omega) (by omega)), h40, hrk, hw, fx_k hx (fun k a => by
    by_cases e0 : k = 0
    · subst e0; exact Or.inr ⟨_, h0, Nat.ne_of_beq_eq_false rfl⟩
    · by_cases e1 : k = 1
      · subst e1; exact Or.inr ⟨_, hb.1, Nat.ne_of_beq_eq_false rfl⟩
      · exact Or.inl (hk k (by omega) a))⟩
theorem CS_st {n n1 : Nat} {f f1 : xH} {bn : Nat} {β : Nat → xBx} {gn gn0 : Nat} {σ σ0 : Nat → xSt} {d d0 : Nat → Int} {as : List xAc} {ps : Nat} {pb : Nat → Int} {pu : Nat} {pr : Nat → Int} {bo so1 : Nat → Nat} {tk rk : Int} (h0 : f1 0 = some (oTb bn gn (hc σ gn : Int) 0 0 pu)) (hb : bxs f bn bo β) (hs : stk f1 gn so1 σ) (hg : sgt f1 d) (ha : acs f1 as) (hp : pgs f ps pb) (hl : lsA n f gn0 σ0 d0) (h20 : ∀ (sz : Nat) (ow : Int), f 20 = some (oLs sz ow) → f1 20 = some (oLs sz (-1))) (ht : tgA f tk rk gn0 σ0 d0) (hr : prf f pu pr) (h40 : hc σ gn ≤ 40) (hw : wf n1 f1) (hx : fx f)
    (hk : ∀ k, (k = 1 ∨ 18 ≤ k) → k ≠ 20 → k < 79 → f1 k = f k) (hd : ∀ k e, 79 ≤ k → f k = some e → (szA e = 600 ∨ szA e = 20 ∨ szA e = 1001 ∨ szA e = 1002) → f1 k = some e) : CS n1 f1 bn β gn σ d as ps pb pu pr := by
  obtain ⟨sz, ow, L, l1, l2, l3, l4, l5⟩ := hl
  have h20' := h20 sz ow l1
  have hts := tgA_S ht
  obtain ⟨s, g3, g4, g5, g6⟩ := id hg
  obtain ⟨p, a13, a14, a15, a16, a17, c12, c13, c14, c15, c16, c17, c18⟩ := id ha
  refine ⟨bo, so1, 0, 0, h0, bxs_k hb (hk 1 (by omega) (by omega) (by omega)) (fun k e a b c => hd k e a b (by omega)), hs, hg, ha, pgs_fr hp (hk 18 (by omega) (by omega) (by omega)) (hk 19 (by omega) (by omega) (by omega)), lsA_f l1 l2 l3 l4 h20' (hk 21 (by omega) (by omega) (by omega)) (fun k c q => hd k _ (fx_ne hx q) q (Or.inr (Or.inr (Or.inr rfl)))), Or.inl ⟨rfl, rfl, tgS_fr hts.1 (fun k a b => hk k (by omega) (by omega) (by omega)), rmS_fr hts.2 (fun k a b => hk k (by omega) (by omega) (by omega))⟩, prf_fr hr (hk 37 (by omega) (by omega) (by omega)), h40, Or.inl rfl, hw, fx_k hx (fun k a => ?_)⟩
  by_cases q1 : k = 1 ∨ (18 ≤ k ∧ k ≠ 20)
  · exact Or.inl (hk k (by omega) (by omega) a)
  · refine Or.inr ?_
    by_cases e0 : k = 0
    · subst e0; exact ⟨_, h0, Nat.ne_of_beq_eq_false rfl⟩
    by_cases e2 : k = 2
    · subst e2; exact ⟨_, hs.1, Nat.ne_of_beq_eq_false rfl⟩
    by_cases e3 : k = 3
    · subst e3; exact ⟨_, g3, Nat.ne_of_beq_eq_false rfl⟩
    by_cases e4 : k = 4
    · subst e4; exact ⟨_, g4, Nat.ne_of_beq_eq_false rfl⟩
    by_cases e5 : 5 ≤ k ∧ k ≤ 11
    · obtain ⟨v, hv⟩ := g5 k e5.1 e5.2; exact ⟨_, hv, Nat.ne_of_beq_eq_false rfl⟩
    by_cases e12 : k = 12
    · subst e12; exact ⟨_, c12, Nat.ne_of_beq_eq_false rfl⟩
    by_cases e13 : k = 13
    · subst e13; exact ⟨_, c13, Nat.ne_of_beq_eq_false rfl⟩
    by_cases e14 : k = 14
    · subst e14; exact ⟨_, c14, Nat.ne_of_beq_eq_false rfl⟩
    by_cases e15 : k = 15
    · subst e15; exact ⟨_, c15, Nat.ne_of_beq_eq_false rfl⟩
    by_cases e16 : k = 16
    · subst e16; exact ⟨_, c16, Nat.ne_of_beq_eq_false rfl⟩
    by_cases e17 : k = 17
    · subst e17; exact ⟨_, c17, Nat.ne_of_beq_eq_false rfl⟩
    have e20 : k = 20 := by omega
    subst e20; exact ⟨_, h20', Nat.ne_of_beq_eq_false rfl⟩
/-- only the page, the proof or the table's own fields change -/
theorem CS_pp {n : Nat} {f f1 : xH} {bn : Nat} {β : Nat → xBx} {gn : Nat} {σ : Nat → xSt} {d : Nat → Int} {as : List xAc} {ps : Nat} {pb : Nat → Int} {pu : Nat} {pr : Nat → Int} {bo so : Nat → Nat} {tk rk : Int} (h0 : f1 0 = some (oTb bn gn (hc σ gn : Int) tk rk pu)) (hb : bxs f bn bo β) (hs : stk f gn so σ) (hg : sgt f d) (ha : acs f as) (hp : pgs f1 ps pb) (hl : lsA n f gn σ d) (ht : tgA f tk rk gn σ d) (hr : prf f1 pu pr) (h40 : hc σ gn ≤ 40) (hrk : rk = 0 ∨ rk = 1) (hw : wf n f1) (hx : fx f)
    (hk : ∀ k, k ≠ 0 → k ≠ 18 → k ≠ 19 → k ≠ 37 → f1 k = f k) : CS n f1 bn β gn σ d as ps pb pu pr :=
  ⟨bo, so, tk, rk, h0, bxs_fr hb (hk 1 (by omega) (by omega) (by omega) (by omega)) (fun k a => hk k (by omega) (by omega) (by omega) (by omega)), stk_fr hs (hk 2 (by omega) (by omega) (by omega) (by omega)) (fun k a => hk k (by omega) (by omega) (by omega) (by omega)), sgt_fr hg (fun k a b => hk k (by omega) (by omega) (by omega) (by omega)), acs_fr ha (fun k a b => hk k (by omega) (by omega) (by omega) (by omega)), hp, lsA_k hl (hk 20 (by omega) (by omega) (by omega) (by omega)) (hk 21 (by omega) (by omega) (by omega) (by omega)) (fun k c q => (hk k (by have := fx_ne hx q; omega) (by have := fx_ne hx q; omega) (by have := fx_ne hx q; omega) (by have := fx_ne hx q; omega)).trans q), tgA_fr ht (fun k a b => hk k (by omega) (by omega) (by omega) (by omega)), hr, h40, hrk, hw, fx_k hx (fun k a => by
    by_cases e0 : k = 0
    · subst e0; exact Or.inr ⟨_, h0, Nat.ne_of_beq_eq_false rfl⟩
    by_cases e1 : k = 18
    · subst e1; exact Or.inr ⟨_, hp.1, Nat.ne_of_beq_eq_false rfl⟩
    by_cases e2 : k = 19
    · subst e2; exact Or.inr ⟨_, hp.2.1, Nat.ne_of_beq_eq_false rfl⟩
    by_cases e3 : k = 37
    · subst e3; exact Or.inr ⟨_, hr.1, Nat.ne_of_beq_eq_false rfl⟩
    exact Or.inl (hk k e0 e1 e2 e3))⟩
theorem CS_now {n : Nat} {f f1 : xH} {bn : Nat} {β : Nat → xBx} {gn : Nat} {σ : Nat → xSt} {d : Nat → Int} {as : List xAc} {ps : Nat} {pb : Nat → Int} {pu : Nat} {pr : Nat → Int} {bo so : Nat → Nat} {rk : Int} (h0 : f1 0 = some (oTb bn gn (hc σ gn : Int) 1 rk pu)) (hb : bxs f bn bo β) (hs : stk f gn so σ) (hg1 : sgt f1 d) (ha : acs f as) (hp : pgs f ps pb) (hl : lsA n f gn σ d) (ht1 : tgM f1 gn σ d rk) (hr : prf f pu pr) (h40 : hc σ gn ≤ 40) (hrk : rk = 0 ∨ rk = 1) (hw : wf n f) (hx : fx f)
    (hf : ∀ k, (k = 1 ∨ k = 2 ∨ (12 ≤ k ∧ k ≤ 21) ∨ 37 ≤ k) → f1 k = f k) : CS n f1 bn β gn σ d as ps pb pu pr := by
  obtain ⟨s, g3, g4, g5, g6⟩ := id hg1
  obtain ⟨sz, ls, kc, c, w, av, bv, rv, lf, ly, ks, wv, N, ⟨m22, m23, m24, m25, m26, m27, m28, m29, m30, m31⟩, _, _, _, rw9, rp, h9, hp9, hw9, ha9, sw, ⟨m32, m33, m34, m35, m36⟩, _⟩ := id ht1
  have hfx : fx f1 := fx_k hx (fun k a => by
    by_cases q : k = 1 ∨ k = 2 ∨ (12 ≤ k ∧ k ≤ 21) ∨ 37 ≤ k
    · exact Or.inl (hf k q)
    · refine Or.inr ?_
      by_cases e0 : k = 0
      · subst e0; exact ⟨_, h0, Nat.ne_of_beq_eq_false rfl⟩
      by_cases e3 : k = 3
      · subst e3; exact ⟨_, g3, Nat.ne_of_beq_eq_false rfl⟩
      by_cases e4 : k = 4
      · subst e4; exact ⟨_, g4, Nat.ne_of_beq_eq_false rfl⟩
      by_cases e5 : 5 ≤ k ∧ k ≤ 11
      · obtain ⟨v, hv⟩ := g5 k e5.1 e5.2; exact ⟨_, hv, Nat.ne_of_beq_eq_false rfl⟩
      by_cases e : k = 22
      · subst e; exact ⟨_, m22, Nat.ne_of_beq_eq_false rfl⟩
      by_cases e : k = 23
      · subst e; exact ⟨_, m23, Nat.ne_of_beq_eq_false rfl⟩
      by_cases e : k = 24
      · subst e; exact ⟨_, m24, Nat.ne_of_beq_eq_false rfl⟩
      by_cases e : k = 25
      · subst e; exact ⟨_, m25, Nat.ne_of_beq_eq_false rfl⟩
      by_cases e : k = 26
      · subst e; exact ⟨_, m26, Nat.ne_of_beq_eq_false rfl⟩
      by_cases e : k = 27
      · subst e; exact ⟨_, m27, Nat.ne_of_beq_eq_false rfl⟩
      by_cases e : k = 28
      · subst e; exact ⟨_, m28, Nat.ne_of_beq_eq_false rfl⟩
      by_cases e : k = 29
      · subst e; exact ⟨_, m29, Nat.ne_of_beq_eq_false rfl⟩
      by_cases e : k = 30
      · subst e; exact ⟨_, m30, Nat.ne_of_beq_eq_false rfl⟩
      by_cases e : k = 31
      · subst e; exact ⟨_, m31, Nat.ne_of_beq_eq_false rfl⟩
      by_cases e : k = 32
      · subst e; exact ⟨_, m32, Nat.ne_of_beq_eq_false rfl⟩
      by_cases e : k = 33
      · subst e; exact ⟨_, m33, Nat.ne_of_beq_eq_false rfl⟩
      by_cases e : k = 34
      · subst e; exact ⟨_, m34, Nat.ne_of_beq_eq_false rfl⟩
      by_cases e : k = 35
      · subst e; exact ⟨_, m35, Nat.ne_of_beq_eq_false rfl⟩
      have e : k = 36 := by omega
      subst e; exact ⟨_, m36, Nat.ne_of_beq_eq_false rfl⟩)
  have hw1 : wf n f1 := fun k hk => by
    have h79 : 79 ≤ n := by
      rcases Nat.lt_or_ge n 79 with q | q
      · obtain ⟨e, h1, h2⟩ := hx n q
        rw [hw n (Nat.le_refl _)] at h1; cases h1
      · exact q
    rw [hf k (by omega)]; exact hw k hk
  exact ⟨bo, so, 1, rk, h0, bxs_fr hb (hf 1 (by omega)) (fun k a => hf k (by omega)), stk_fr hs (hf 2 (by omega)) (fun k a => hf k (by omega)), hg1, acs_fr ha (fun k a b => hf k (by omega)), pgs_fr hp (hf 18 (by omega)) (hf 19 (by omega)), lsA_k hl (hf 20 (by omega)) (hf 21 (by omega)) (fun k c9 q => (hf k (by have := fx_ne hx q; omega)).trans q), Or.inr ⟨rfl, ht1⟩, prf_fr hr (hf 37 (by omega)), h40, hrk, hw1, hfx⟩
theorem n79 {n : Nat} {f : xH} (hw : wf n f) (hx : fx f) : 79 ≤ n := by
  rcases Nat.lt_or_ge n 79 with q | q
  · obtain ⟨e, h1, h2⟩ := hx n q
    rw [hw n (Nat.le_refl _)] at h1; cases h1
  · exact q
