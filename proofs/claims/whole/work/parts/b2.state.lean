/-! class and model side by side -/
theorem MS_eq {f f1 : xH} {th : Int} {bn : Nat} {β : Nat → xBx} {gn : Nat} {σ : Nat → xSt} {d : Nat → Int} {as : List xAc} {ps : Nat} {pb : Nat → Int} {pu : Nat} {pr : Nat → Int} (h : MS f th bn β gn σ d as ps pb pu pr) (hf : ∀ k e, 38 ≤ k → k ≤ 77 → f k = some e → f1 k = some e) : MS f1 th bn β gn σ d as ps pb pu pr := by
  obtain ⟨m, h38, hm, ⟨W, R, U, b1, b2, b3, hb⟩, ⟨K, M, W2, P, Z, s1, s2, s3, s4, s5, hs⟩, ⟨A, S, AP, a1, a2, a3, ha⟩, ⟨c, p1, hp⟩, ⟨c2, r1, hr⟩, hsh, h40, hd, hz⟩ := h
  refine ⟨m, hf _ _ (by decide) (by decide) h38, hm, ⟨W, R, U, hf _ _ (by decide) (by decide) b1, hf _ _ (by decide) (by decide) b2, hf _ _ (by decide) (by decide) b3, hb⟩, ⟨K, M, W2, P, Z, hf _ _ (by decide) (by decide) s1, hf _ _ (by decide) (by decide) s2, hf _ _ (by decide) (by decide) s3, hf _ _ (by decide) (by decide) s4, hf _ _ (by decide) (by decide) s5, hs⟩, ⟨A, S, AP, hf _ _ (by decide) (by decide) a1, hf _ _ (by decide) (by decide) a2, hf _ _ (by decide) (by decide) a3, ha⟩, ⟨c, hf _ _ (by decide) (by decide) p1, hp⟩, ⟨c2, hf _ _ (by decide) (by decide) r1, hr⟩, fun p hp9 => ?_, h40, hd, hz⟩
  obtain ⟨cc, hcc⟩ := hsh p hp9
  have rg : ∀ p ∈ shL, 38 ≤ p.1 ∧ p.1 ≤ 77 := by decide
  exact ⟨cc, hf _ _ (rg p hp9).1 (rg p hp9).2 hcc⟩
theorem MS_fx {f : xH} {th : Int} {bn : Nat} {β : Nat → xBx} {gn : Nat} {σ : Nat → xSt} {d : Nat → Int} {as : List xAc} {ps : Nat} {pb : Nat → Int} {pu : Nat} {pr : Nat → Int} (h : MS f th bn β gn σ d as ps pb pu pr) : ∀ k, 38 ≤ k → k ≤ 77 → ∃ e, f k = some e ∧ szA e ≠ 1002 := by
  obtain ⟨m, h38, hm, ⟨W, R, U, h39, h40, h41, hb⟩, ⟨K, M, W2, P, Z, h43, h44, h45, h46, h47, hs⟩, ⟨A, S, AP, h52, h53, h54, ha⟩, ⟨c, h66, hp⟩, ⟨c2, h77, hr⟩, hsh, _⟩ := h
  have sh : ∀ k t N, (k, (t, N)) ∈ shL → N ≠ 1002 → ∃ e, f k = some e ∧ szA e ≠ 1002 := by
    intro k t N hm hN
    obtain ⟨c, hc⟩ := hsh _ hm
    exact ⟨_, hc, hN⟩
  intro k h1 h2
  have hk : k = 38 ∨ k = 39 ∨ k = 40 ∨ k = 41 ∨ k = 42 ∨ k = 43 ∨ k = 44 ∨ k = 45 ∨ k = 46 ∨ k = 47 ∨ k = 48 ∨ k = 49 ∨ k = 50 ∨ k = 51 ∨ k = 52 ∨ k = 53 ∨ k = 54 ∨ k = 55 ∨ k = 56 ∨ k = 57 ∨ k = 58 ∨ k = 59 ∨ k = 60 ∨ k = 61 ∨ k = 62 ∨ k = 63 ∨ k = 64 ∨ k = 65 ∨ k = 66 ∨ k = 67 ∨ k = 68 ∨ k = 69 ∨ k = 70 ∨ k = 71 ∨ k = 72 ∨ k = 73 ∨ k = 74 ∨ k = 75 ∨ k = 76 ∨ k = 77 := by omega
  rcases hk with rfl | rfl | rfl | rfl | rfl | rfl | rfl | rfl | rfl | rfl | rfl | rfl | rfl | rfl | rfl | rfl | rfl | rfl | rfl | rfl | rfl | rfl | rfl | rfl | rfl | rfl | rfl | rfl | rfl | rfl | rfl | rfl | rfl | rfl | rfl | rfl | rfl | rfl | rfl | rfl
  · exact ⟨_, h38, by show (1010 : Nat) ≠ 1002; decide⟩
  · exact ⟨_, h39, by show (8 : Nat) ≠ 1002; decide⟩
  · exact ⟨_, h40, by show (160 : Nat) ≠ 1002; decide⟩
  · exact ⟨_, h41, by show (4800 : Nat) ≠ 1002; decide⟩
  · exact sh 42 1 30 (by decide) (by decide)
  · exact ⟨_, h43, by show (101 : Nat) ≠ 1002; decide⟩
  · exact ⟨_, h44, by show (101 : Nat) ≠ 1002; decide⟩
  · exact ⟨_, h45, by show (101 : Nat) ≠ 1002; decide⟩
  · exact ⟨_, h46, by show (909 : Nat) ≠ 1002; decide⟩
  · exact ⟨_, h47, by show (101 : Nat) ≠ 1002; decide⟩
  · exact sh 48 1 3 (by decide) (by decide)
  · exact sh 49 1 3 (by decide) (by decide)
  · exact sh 50 1 3 (by decide) (by decide)
  · exact sh 51 1 3 (by decide) (by decide)
  · exact ⟨_, h52, by show (8 : Nat) ≠ 1002; decide⟩
  · exact ⟨_, h53, by show (8 : Nat) ≠ 1002; decide⟩
  · exact ⟨_, h54, by show (72 : Nat) ≠ 1002; decide⟩
  · exact sh 55 0 9 (by decide) (by decide)
  · exact sh 56 1 3 (by decide) (by decide)
  · exact sh 57 1 3 (by decide) (by decide)
  · exact sh 58 1 3 (by decide) (by decide)
  · exact sh 59 0 200 (by decide) (by decide)
  · exact sh 60 0 200 (by decide) (by decide)
  · exact sh 61 0 200 (by decide) (by decide)
  · exact sh 62 1 200 (by decide) (by decide)
  · exact sh 63 1 200 (by decide) (by decide)
  · exact sh 64 1 200 (by decide) (by decide)
  · exact sh 65 1 200 (by decide) (by decide)
  · exact ⟨_, h66, by show (100 : Nat) ≠ 1002; decide⟩
  · exact sh 67 2 10000 (by decide) (by decide)
  · exact sh 68 2 10000 (by decide) (by decide)
  · exact sh 69 2 101 (by decide) (by decide)
  · exact sh 70 0 40 (by decide) (by decide)
  · exact sh 71 0 101 (by decide) (by decide)
  · exact sh 72 0 101 (by decide) (by decide)
  · exact sh 73 0 41 (by decide) (by decide)
  · exact sh 74 0 101 (by decide) (by decide)
  · exact sh 75 0 40 (by decide) (by decide)
  · exact sh 76 0 40 (by decide) (by decide)
  · exact ⟨_, h77, by show (40 : Nat) ≠ 1002; decide⟩
theorem CS_eq {n : Nat} {f f1 : xH} {bn : Nat} {β : Nat → xBx} {gn : Nat} {σ : Nat → xSt} {d : Nat → Int} {as : List xAc} {ps : Nat} {pb : Nat → Int} {pu : Nat} {pr : Nat → Int} (h : CS n f bn β gn σ d as ps pb pu pr) (hf : ∀ k, (k < 38 ∨ 78 < k) → f1 k = f k) (hm : ∀ k, 38 ≤ k → k ≤ 78 → ∃ e, f1 k = some e ∧ szA e ≠ 1002) : CS n f1 bn β gn σ d as ps pb pu pr := by
  obtain ⟨bo, so, tk, rk, h0, hb, hs, hg, ha, hp, hl, ht, hr, h40, hrk, hw, hx⟩ := h
  have n79 := n79 hw hx
  refine ⟨bo, so, tk, rk, (hf 0 (by omega)).trans h0, bxs_fr hb (hf 1 (by omega)) (fun k hk => hf k (by omega)), stk_fr hs (hf 2 (by omega)) (fun k hk => hf k (by omega)), sgt_fr hg (fun k h1 h2 => hf k (by omega)), acs_fr ha (fun k h1 h2 => hf k (by omega)), pgs_fr hp (hf 18 (by omega)) (hf 19 (by omega)), lsA_k hl (hf 20 (by omega)) (hf 21 (by omega)) (fun k c hc => (hf k (by have := fx_ne hx hc; omega)).trans hc), tgA_fr ht (fun k h1 h2 => hf k (by omega)), prf_fr hr (hf 37 (by omega)), h40, hrk, fun k hk => (hf k (by omega)).trans (hw k hk), fx_k hx (fun k hk => ?_)⟩
  by_cases e : k < 38
  · exact Or.inl (hf k (by omega))
  · exact Or.inr (hm k (by omega) (by omega))
abbrev LSt : Type := Nat × ((Nat → xBx) × (Nat × ((Nat → xSt) × ((Nat → Int) × (List xAc × (Nat × ((Nat → Int) × (Nat × (Nat → Int)))))))))
def CSs (n : Nat) (f : xH) (S : LSt) : Prop := CS n f S.1 S.2.1 S.2.2.1 S.2.2.2.1 S.2.2.2.2.1 S.2.2.2.2.2.1 S.2.2.2.2.2.2.1 S.2.2.2.2.2.2.2.1 S.2.2.2.2.2.2.2.2.1 S.2.2.2.2.2.2.2.2.2
def MSs (f : xH) (th : Int) (S : LSt) : Prop := MS f th S.1 S.2.1 S.2.2.1 S.2.2.2.1 S.2.2.2.2.1 S.2.2.2.2.2.1 S.2.2.2.2.2.2.1 S.2.2.2.2.2.2.2.1 S.2.2.2.2.2.2.2.2.1 S.2.2.2.2.2.2.2.2.2
def LSf (n : Nat) (f : xH) (S : LSt) : Prop := CSs n f S ∧ (∃ th, MSs f th S) ∧ ∃ o, f 78 = some (aL 1 o)
/-- after the class's call -/
def afC (n : Nat) (f : xH) (S S1 : LSt) : Prop := CSs n f S1 ∧ (∃ th, MSs f th S) ∧ ∃ o, f 78 = some (aL 1 o)
theorem fx78 {f1 : xH} {o : Nat → Int} {th : Int} {S : LSt} (hM : MSs f1 th S) (h78 : f1 78 = some (aL 1 o)) : ∀ k, 38 ≤ k → k ≤ 78 → ∃ e, f1 k = some e ∧ szA e ≠ 1002 := by
  intro k h1 h2
  by_cases e : k = 78
  · subst e; exact ⟨_, h78, by show (1 : Nat) ≠ 1002; decide⟩
  · exact MS_fx hM k h1 (by omega)
/-- the class has called, nothing of the model's has changed -/
theorem LS_C {n n1 : Nat} {f f1 : xH} {S S1 : LSt} (h : LSf n f S) (h1 : CSs n1 f1 S1) (hk : kM f f1) : afC n1 f1 S S1 := by
  obtain ⟨_, ⟨th, hM⟩, o, h78⟩ := h
  exact ⟨h1, ⟨th, MS_eq hM (fun k e a b he => hk k e a (by omega) he)⟩, o, hk 78 _ (by decide) (by decide) h78⟩
theorem LS_C0 {n n1 : Nat} {f : xH} {S : LSt} (h : LSf n f S) (hn : n ≤ n1) : afC n1 f S S := ⟨CS_n h.1 hn, h.2.1, h.2.2⟩
/-- a number is laid down for the law -/
theorem afC_78 {n : Nat} {f : xH} {S S1 : LSt} {o : Nat → Int} (h : afC n f S S1) : afC n (xup f 78 (aL 1 o)) S S1 := by
  obtain ⟨hC, ⟨th, hM⟩, _⟩ := h
  have hM' : MSs (xup f 78 (aL 1 o)) th S := MS_eq hM (fun k e a b he => (xup_n _ _ (by omega)).trans he)
  exact ⟨CS_eq hC (fun k hk => xup_n _ _ (by omega)) (fx78 hM' (xup_s _ _ _)), ⟨th, hM'⟩, o, xup_s _ _ _⟩
/-- the model has followed -/
theorem LS_M {n : Nat} {f f1 : xH} {S S1 : LSt} {th : Int} (h : afC n f S S1) (hM : MSs f1 th S1) (hk : kC f f1) : LSf n f1 S1 := by
  obtain ⟨hC, _, o, h78⟩ := h
  have h78' : f1 78 = some (aL 1 o) := (hk 78 (by omega)).trans h78
  exact ⟨CS_eq hC (fun k hk9 => hk k (by omega)) (fx78 hM h78'), ⟨th, hM⟩, o, h78'⟩
/-! what is undone leads back to what was -/
def chn (gn : Nat) : (Nat → xSt) → List xAc → Prop
  | σ, [] => NT gn σ
  | σ, x :: t => NT gn σ ∧ undOK gn σ x ∧ chn gn (und σ x) t
theorem chn_nt {gn : Nat} {σ : Nat → xSt} {as : List xAc} (h : chn gn σ as) : NT gn σ := by cases as with | nil => exact h | cons x t => exact h.1
theorem chn_mem {gn : Nat} : ∀ (as : List xAc) (σ : Nat → xSt), chn gn σ as → ∀ x ∈ as, x.2.1.toNat < gn := by
  intro as
  induction as with
  | nil => intro σ _ x hx; cases hx
  | cons a t ih =>
    intro σ h x hx
    rcases List.mem_cons.mp hx with rfl | hx
    · obtain ⟨s, e, hs, _⟩ := h.2.1
      rw [e, Int.toNat_natCast]; exact hs
    · exact ih _ h.2.2 x hx
theorem chn_take {gn : Nat} : ∀ (k : Nat) (as : List xAc) (σ : Nat → xSt), chn gn σ as → chn gn σ (as.take k) := by
  intro k
  induction k with
  | zero => intro as σ h; exact chn_nt h
  | succ k ih =>
    intro as σ h
    cases as with
    | nil => exact h
    | cons x t => exact ⟨h.1, h.2.1, ih t _ h.2.2⟩
theorem NT_cg {gn gn1 : Nat} {σ σ1 : Nat → xSt} (hc9 : ∀ s, s < gn → σ1 s = σ s) (hn : ∀ s, gn ≤ s → s < gn1 → hrS (σ1 s) ≠ 1) (h : NT gn σ) : NT gn1 σ1 := by
  intro s t hs ht hst h1 h2
  have s1 : s < gn := Nat.lt_of_not_le (fun k => hn s k hs h1)
  have t1 : t < gn := Nat.lt_of_not_le (fun k => hn t k ht h2)
  rw [hc9 s s1] at h1 ⊢
  rw [hc9 t t1] at h2 ⊢
  exact h s t s1 t1 hst h1 h2
theorem hc_hi {σ : Nat → xSt} {gn : Nat} : ∀ k, (∀ s, gn ≤ s → s < gn + k → hrS (σ s) ≠ 1) → hc σ (gn + k) = hc σ gn := by
  intro k
  induction k with
  | zero => intro _; rfl
  | succ k ih =>
    intro h
    rw [← Nat.add_assoc, hc_0 (h (gn + k) (by omega) (by omega))]
    exact ih (fun s h1 h2 => h s h1 (by omega))
theorem chn_cg {gn gn1 : Nat} (hg : gn ≤ gn1) : ∀ (as : List xAc) (σ σ1 : Nat → xSt), (∀ s, s < gn → σ1 s = σ s) → (∀ s, gn ≤ s → s < gn1 → hrS (σ1 s) ≠ 1) → chn gn σ as → chn gn1 σ1 as := by
  intro as
  induction as with
  | nil => intro σ σ1 h1 h2 h; exact NT_cg h1 h2 h
  | cons x t ih =>
    intro σ σ1 h1 h2 h
    obtain ⟨hn, ⟨s, e, hs, hu⟩, ht⟩ := h
    have ehc : hc σ1 gn1 = hc σ gn := by
      have a := hc_hi (σ := σ1) (gn := gn) (gn1 - gn) (fun s a b => h2 s a (by omega))
      rw [show gn + (gn1 - gn) = gn1 by omega] at a
      rw [a]
      exact hc_cg gn (fun t ht => by rw [h1 t ht])
    refine ⟨NT_cg h1 h2 hn, ⟨s, e, by omega, ?_⟩, ih (und σ x) (und σ1 x) (fun t ht9 => ?_) (fun t a b => ?_) ht⟩
    · rw [h1 s hs, ehc]; exact hu
    · have es : x.2.1.toNat = s := by rw [e, Int.toNat_natCast]
      unfold und
      rw [es, h1 s hs]
      by_cases q : t = s
      · subst q; rw [xui_s, xui_s]
      · rw [xui_n _ _ q, xui_n _ _ q]; exact h1 t ht9
    · have es : x.2.1.toNat = s := by rw [e, Int.toNat_natCast]
      unfold und
      rw [es, xui_n _ _ (by omega)]
      exact h2 t a b
theorem NT_sub {gn : Nat} {σ σ1 : Nat → xSt} {s : Nat} (h : NT gn σ) (h1 : ∀ t, t ≠ s → σ1 t = σ t) (h2 : hrS (σ1 s) ≠ 1) : NT gn σ1 := by
  intro a b ha hb hab r1 r2
  have ea : a ≠ s := fun e => h2 (by rw [← e]; exact r1)
  have eb : b ≠ s := fun e => h2 (by rw [← e]; exact r2)
  rw [h1 a ea] at r1 ⊢
  rw [h1 b eb] at r2 ⊢
  exact h a b ha hb hab r1 r2
theorem NT_new {gn : Nat} {σ σ1 : Nat → xSt} {s : Nat} {X : xSt} (h : ∀ a b, a < gn → b < gn → a ≠ b → a ≠ s → b ≠ s → hrS (σ a) = 1 → hrS (σ b) = 1 → ∀ i j, i < pcS (σ a) → j < pcS (σ b) → ¬ TS (dv (ptS (σ a)) i) (dv (ptS (σ b)) j) (gv (ptS (σ a)) i (ptS (σ b)) j)) (h1 : ∀ t, t < gn → t ≠ s → σ1 t = σ t) (e : σ1 s = X) (hX : ∀ t, t < gn → t ≠ s → hrS (σ t) = 1 → ¬ tchS (ptS X) (pcS X) (ptS (σ t)) (pcS (σ t))) : NT gn σ1 := by
  intro a b ha hb hab r1 r2 i j hi hj
  by_cases ea : a = s
  · subst ea
    have eb : b ≠ a := Ne.symm hab
    rw [h1 b hb eb] at r2 hj ⊢
    rw [e] at hi ⊢
    exact fun k => hX b hb eb r2 ⟨i, j, hi, hj, TS_t k⟩
  · by_cases eb : b = s
    · subst eb
      rw [h1 a ha ea] at r1 hi ⊢
      rw [e] at hj ⊢
      intro k
      have k2 := TS_sw k
      rw [← gv_ng] at k2
      exact hX a ha ea r1 ⟨j, i, hj, hi, TS_t k2⟩
    · rw [h1 a ha ea] at r1 hi ⊢
      rw [h1 b hb eb] at r2 hj ⊢
      exact h a b ha hb hab ea eb r1 r2 i j hi hj
theorem chn_away {gn : Nat} {σ : Nat → xSt} {as : List xAc} {s : Nat} (h : chn gn σ as) (hs : s < gn) (hr : hrS (σ s) = 1) (h40 : hc σ gn ≤ 40) : chn gn (xui σ s (stS (σ s) 0)) (aCt 3 (s : Int) 0 0 0 :: as.take 7) := by
  have e0 : hrS (stS (σ s) 0) = 0 := rfl
  refine ⟨NT_sub (chn_nt h) (s := s) (fun t ht => xui_n _ _ ht) (by rw [xui_s]; show (0 : Int) ≠ 1; decide), ⟨s, rfl, hs, Or.inr (Or.inr ⟨rfl, by rw [xui_s]; show (0 : Int) ≠ 1; decide, ?_⟩)⟩, ?_⟩
  · have := hc_off (s := s) (X := stS (σ s) 0) hr e0 gn
    rw [if_pos hs] at this
    omega
  · rw [und_tk hr]; exact chn_take 7 as σ h
theorem chn_move {gn : Nat} {σ : Nat → xSt} {as : List xAc} {s : Nat} {x y z : Int} (h : chn gn σ as) (hs : s < gn) (hr : hrS (σ s) = 1) (hok : okK (σ s)) (hl : ltR gn (xui σ s (mvS (σ s) x y z)) (mvS (σ s) x y z) (fun t => t ≠ s) (-1)) : chn gn (xui σ s (mvS (σ s) x y z)) (aCt 2 (s : Int) x y z :: as.take 7) := by
  have hl' : ∀ t, t < gn → t ≠ s → hrS (σ t) = 1 → ¬ tchS (ptS (mvS (σ s) x y z)) (pcS (mvS (σ s) x y z)) (ptS (σ t)) (pcS (σ t)) := by
    intro t ht hts hrt
    rcases hl with ⟨_, k⟩ | ⟨q, _, k, _⟩
    · have := k t ht (by rw [xui_n _ _ hts]; exact hrt) hts
      rw [xui_n _ _ hts] at this
      exact this
    · omega
  have bk : mvS (mvS (σ s) x y z) (-x) (-y) (-z) = σ s := by
    show ((σ s).1, ((σ s).2.1, ((σ s).2.2.1, ((σ s).2.2.2.1, shf (shf (ptS (σ s)) (pcS (σ s) + 1) x y z) (pcS (σ s) + 1) (-x) (-y) (-z))))) = σ s
    rw [shf_bk]
  refine ⟨NT_new (s := s) (X := mvS (σ s) x y z) (σ := σ) (fun a b ha hb hab _ _ r1 r2 => chn_nt h a b ha hb hab r1 r2) (fun t _ ht => xui_n _ _ ht) (xui_s _ _ _) hl', ⟨s, rfl, hs, Or.inr (Or.inl ⟨rfl, ?_⟩)⟩, ?_⟩
  · show okK (mvS (xui σ s (mvS (σ s) x y z) s) (-x) (-y) (-z))
    rw [xui_s, bk]; exact hok
  · rw [und_mv]; exact chn_take 7 as σ h
theorem chn_lay {gn : Nat} {σ : Nat → xSt} {as : List xAc} {X : xSt} (h : chn gn σ as) (hl : ltR gn σ X (fun _ => True) (-1)) : chn (gn + 1) (xui σ gn (stS X 1)) (aCt 1 (gn : Int) 0 0 0 :: as.take 7) := by
  have hl' : ∀ t, t < gn → hrS (σ t) = 1 → ¬ tchS (ptS X) (pcS X) (ptS (σ t)) (pcS (σ t)) := by
    intro t ht hrt
    rcases hl with ⟨_, k⟩ | ⟨q, _, k, _⟩
    · exact k t ht hrt trivial
    · omega
  refine ⟨NT_new (s := gn) (X := stS X 1) (σ := σ) (fun a b ha hb hab ea eb r1 r2 => chn_nt h a b (by omega) (by omega) hab r1 r2) (fun t _ ht => xui_n _ _ ht) (xui_s _ _ _) (fun t ht hts hrt => hl' t (by omega) hrt), ⟨gn, rfl, by omega, Or.inl ⟨rfl, by rw [xui_s]; rfl⟩⟩, ?_⟩
  refine chn_cg (gn := gn) (by omega) _ σ _ (fun s hs => ?_) (fun s h1 h2 => ?_) (chn_take 7 as σ h)
  · show xui (xui σ gn (stS X 1)) (gn : Int).toNat _ s = σ s
    rw [Int.toNat_natCast, xui_n _ _ (by omega), xui_n _ _ (by omega)]
  · have e : s = gn := by omega
    subst e
    show hrS (xui (xui σ s (stS X 1)) (s : Int).toNat _ s) ≠ 1
    rw [Int.toNat_natCast, xui_s]
    show (0 : Int) ≠ 1
    decide
theorem chn_undo {gn : Nat} {σ : Nat → xSt} {x : xAc} {t : List xAc} (h : chn gn σ (x :: t)) : chn gn (und σ x) t := h.2.2
def inv (S : LSt) : Prop := chn S.2.2.1 S.2.2.2.1 S.2.2.2.2.2.1
