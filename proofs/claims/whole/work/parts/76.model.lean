/-! the model's object -/
abbrev oMd (m : Nat → Int) : xE := Sum.inr (10, fX10 (m 0) (m 1) (m 6) (m 7) (m 13) (m 14) (m 15) (m 23) (m 25) (m 26) (m 27) (m 28) (m 29) (m 40) (m 42) (m 49) (m 50) (m 53) (m 56) (m 57) (m 58) (m 60))
theorem xmd_0 (m : Nat → Int) (x : Int) : (Sum.inr (10, xui (fX10 (m 0) (m 1) (m 6) (m 7) (m 13) (m 14) (m 15) (m 23) (m 25) (m 26) (m 27) (m 28) (m 29) (m 40) (m 42) (m 49) (m 50) (m 53) (m 56) (m 57) (m 58) (m 60)) 0 (vI x)) : xE) = oMd (xui m 0 x) := by rw [fX10_0]; rfl
theorem xmd_1 (m : Nat → Int) (x : Int) : (Sum.inr (10, xui (fX10 (m 0) (m 1) (m 6) (m 7) (m 13) (m 14) (m 15) (m 23) (m 25) (m 26) (m 27) (m 28) (m 29) (m 40) (m 42) (m 49) (m 50) (m 53) (m 56) (m 57) (m 58) (m 60)) 1 (vI x)) : xE) = oMd (xui m 1 x) := by rw [fX10_1]; rfl
theorem xmd_6 (m : Nat → Int) (x : Int) : (Sum.inr (10, xui (fX10 (m 0) (m 1) (m 6) (m 7) (m 13) (m 14) (m 15) (m 23) (m 25) (m 26) (m 27) (m 28) (m 29) (m 40) (m 42) (m 49) (m 50) (m 53) (m 56) (m 57) (m 58) (m 60)) 6 (vI x)) : xE) = oMd (xui m 6 x) := by rw [fX10_6]; rfl
theorem xmd_7 (m : Nat → Int) (x : Int) : (Sum.inr (10, xui (fX10 (m 0) (m 1) (m 6) (m 7) (m 13) (m 14) (m 15) (m 23) (m 25) (m 26) (m 27) (m 28) (m 29) (m 40) (m 42) (m 49) (m 50) (m 53) (m 56) (m 57) (m 58) (m 60)) 7 (vI x)) : xE) = oMd (xui m 7 x) := by rw [fX10_7]; rfl
theorem xmd_13 (m : Nat → Int) (x : Int) : (Sum.inr (10, xui (fX10 (m 0) (m 1) (m 6) (m 7) (m 13) (m 14) (m 15) (m 23) (m 25) (m 26) (m 27) (m 28) (m 29) (m 40) (m 42) (m 49) (m 50) (m 53) (m 56) (m 57) (m 58) (m 60)) 13 (vI x)) : xE) = oMd (xui m 13 x) := by rw [fX10_13]; rfl
theorem xmd_14 (m : Nat → Int) (x : Int) : (Sum.inr (10, xui (fX10 (m 0) (m 1) (m 6) (m 7) (m 13) (m 14) (m 15) (m 23) (m 25) (m 26) (m 27) (m 28) (m 29) (m 40) (m 42) (m 49) (m 50) (m 53) (m 56) (m 57) (m 58) (m 60)) 14 (vI x)) : xE) = oMd (xui m 14 x) := by rw [fX10_14]; rfl
theorem xmd_15 (m : Nat → Int) (x : Int) : (Sum.inr (10, xui (fX10 (m 0) (m 1) (m 6) (m 7) (m 13) (m 14) (m 15) (m 23) (m 25) (m 26) (m 27) (m 28) (m 29) (m 40) (m 42) (m 49) (m 50) (m 53) (m 56) (m 57) (m 58) (m 60)) 15 (vI x)) : xE) = oMd (xui m 15 x) := by rw [fX10_15]; rfl
theorem xmd_23 (m : Nat → Int) (x : Int) : (Sum.inr (10, xui (fX10 (m 0) (m 1) (m 6) (m 7) (m 13) (m 14) (m 15) (m 23) (m 25) (m 26) (m 27) (m 28) (m 29) (m 40) (m 42) (m 49) (m 50) (m 53) (m 56) (m 57) (m 58) (m 60)) 23 (vI x)) : xE) = oMd (xui m 23 x) := by rw [fX10_23]; rfl
theorem xmd_25 (m : Nat → Int) (x : Int) : (Sum.inr (10, xui (fX10 (m 0) (m 1) (m 6) (m 7) (m 13) (m 14) (m 15) (m 23) (m 25) (m 26) (m 27) (m 28) (m 29) (m 40) (m 42) (m 49) (m 50) (m 53) (m 56) (m 57) (m 58) (m 60)) 25 (vL x)) : xE) = oMd (xui m 25 x) := by rw [fX10_25]; rfl
theorem xmd_26 (m : Nat → Int) (x : Int) : (Sum.inr (10, xui (fX10 (m 0) (m 1) (m 6) (m 7) (m 13) (m 14) (m 15) (m 23) (m 25) (m 26) (m 27) (m 28) (m 29) (m 40) (m 42) (m 49) (m 50) (m 53) (m 56) (m 57) (m 58) (m 60)) 26 (vL x)) : xE) = oMd (xui m 26 x) := by rw [fX10_26]; rfl
theorem xmd_27 (m : Nat → Int) (x : Int) : (Sum.inr (10, xui (fX10 (m 0) (m 1) (m 6) (m 7) (m 13) (m 14) (m 15) (m 23) (m 25) (m 26) (m 27) (m 28) (m 29) (m 40) (m 42) (m 49) (m 50) (m 53) (m 56) (m 57) (m 58) (m 60)) 27 (vL x)) : xE) = oMd (xui m 27 x) := by rw [fX10_27]; rfl
theorem xmd_28 (m : Nat → Int) (x : Int) : (Sum.inr (10, xui (fX10 (m 0) (m 1) (m 6) (m 7) (m 13) (m 14) (m 15) (m 23) (m 25) (m 26) (m 27) (m 28) (m 29) (m 40) (m 42) (m 49) (m 50) (m 53) (m 56) (m 57) (m 58) (m 60)) 28 (vL x)) : xE) = oMd (xui m 28 x) := by rw [fX10_28]; rfl
theorem xmd_29 (m : Nat → Int) (x : Int) : (Sum.inr (10, xui (fX10 (m 0) (m 1) (m 6) (m 7) (m 13) (m 14) (m 15) (m 23) (m 25) (m 26) (m 27) (m 28) (m 29) (m 40) (m 42) (m 49) (m 50) (m 53) (m 56) (m 57) (m 58) (m 60)) 29 (vI x)) : xE) = oMd (xui m 29 x) := by rw [fX10_29]; rfl
theorem xmd_40 (m : Nat → Int) (x : Int) : (Sum.inr (10, xui (fX10 (m 0) (m 1) (m 6) (m 7) (m 13) (m 14) (m 15) (m 23) (m 25) (m 26) (m 27) (m 28) (m 29) (m 40) (m 42) (m 49) (m 50) (m 53) (m 56) (m 57) (m 58) (m 60)) 40 (vI x)) : xE) = oMd (xui m 40 x) := by rw [fX10_40]; rfl
theorem xmd_42 (m : Nat → Int) (x : Int) : (Sum.inr (10, xui (fX10 (m 0) (m 1) (m 6) (m 7) (m 13) (m 14) (m 15) (m 23) (m 25) (m 26) (m 27) (m 28) (m 29) (m 40) (m 42) (m 49) (m 50) (m 53) (m 56) (m 57) (m 58) (m 60)) 42 (vI x)) : xE) = oMd (xui m 42 x) := by rw [fX10_42]; rfl
theorem xmd_49 (m : Nat → Int) (x : Int) : (Sum.inr (10, xui (fX10 (m 0) (m 1) (m 6) (m 7) (m 13) (m 14) (m 15) (m 23) (m 25) (m 26) (m 27) (m 28) (m 29) (m 40) (m 42) (m 49) (m 50) (m 53) (m 56) (m 57) (m 58) (m 60)) 49 (vI x)) : xE) = oMd (xui m 49 x) := by rw [fX10_49]; rfl
theorem xmd_50 (m : Nat → Int) (x : Int) : (Sum.inr (10, xui (fX10 (m 0) (m 1) (m 6) (m 7) (m 13) (m 14) (m 15) (m 23) (m 25) (m 26) (m 27) (m 28) (m 29) (m 40) (m 42) (m 49) (m 50) (m 53) (m 56) (m 57) (m 58) (m 60)) 50 (vI x)) : xE) = oMd (xui m 50 x) := by rw [fX10_50]; rfl
theorem xmd_53 (m : Nat → Int) (x : Int) : (Sum.inr (10, xui (fX10 (m 0) (m 1) (m 6) (m 7) (m 13) (m 14) (m 15) (m 23) (m 25) (m 26) (m 27) (m 28) (m 29) (m 40) (m 42) (m 49) (m 50) (m 53) (m 56) (m 57) (m 58) (m 60)) 53 (vI x)) : xE) = oMd (xui m 53 x) := by rw [fX10_53]; rfl
theorem xmd_56 (m : Nat → Int) (x : Int) : (Sum.inr (10, xui (fX10 (m 0) (m 1) (m 6) (m 7) (m 13) (m 14) (m 15) (m 23) (m 25) (m 26) (m 27) (m 28) (m 29) (m 40) (m 42) (m 49) (m 50) (m 53) (m 56) (m 57) (m 58) (m 60)) 56 (vI x)) : xE) = oMd (xui m 56 x) := by rw [fX10_56]; rfl
theorem xmd_57 (m : Nat → Int) (x : Int) : (Sum.inr (10, xui (fX10 (m 0) (m 1) (m 6) (m 7) (m 13) (m 14) (m 15) (m 23) (m 25) (m 26) (m 27) (m 28) (m 29) (m 40) (m 42) (m 49) (m 50) (m 53) (m 56) (m 57) (m 58) (m 60)) 57 (vI x)) : xE) = oMd (xui m 57 x) := by rw [fX10_57]; rfl
theorem xmd_58 (m : Nat → Int) (x : Int) : (Sum.inr (10, xui (fX10 (m 0) (m 1) (m 6) (m 7) (m 13) (m 14) (m 15) (m 23) (m 25) (m 26) (m 27) (m 28) (m 29) (m 40) (m 42) (m 49) (m 50) (m 53) (m 56) (m 57) (m 58) (m 60)) 58 (vI x)) : xE) = oMd (xui m 58 x) := by rw [fX10_58]; rfl
theorem xmd_60 (m : Nat → Int) (x : Int) : (Sum.inr (10, xui (fX10 (m 0) (m 1) (m 6) (m 7) (m 13) (m 14) (m 15) (m 23) (m 25) (m 26) (m 27) (m 28) (m 29) (m 40) (m 42) (m 49) (m 50) (m 53) (m 56) (m 57) (m 58) (m 60)) 60 (vI x)) : xE) = oMd (xui m 60 x) := by rw [fX10_60]; rfl
def mbx (f : xH) (bn : Nat) (β : Nat → xBx) : Prop := ∃ W R U : Nat → Int, f 39 = some (aI 8 W) ∧ f 40 = some (aI 160 R) ∧ f 41 = some (aL 4800 U) ∧ bn ≤ 8 ∧ (∀ b, b < bn → okB (β b) ∧ W b = (β b).1 ∧ (∀ k, k < 20 → R (20 * b + k) = (β b).2.2 k) ∧ ∀ j, j < 600 → U (600 * b + j) = (β b).2.1 j) ∧ ∀ b, b < 8 → bn ≤ b → (∀ k, k < 20 → R (20 * b + k) = -1) ∧ ∀ j, j < 600 → U (600 * b + j) = 0
def mst (f : xH) (gn : Nat) (σ : Nat → xSt) : Prop := ∃ K M W P Z : Nat → Int, f 43 = some (aI 101 K) ∧ f 44 = some (aI 101 M) ∧ f 45 = some (aI 101 W) ∧ f 46 = some (aI 909 P) ∧ f 47 = some (aZ 101 Z) ∧ gn ≤ 100 ∧ (∀ s, s < gn → okK (σ s) ∧ K s = (σ s).1 ∧ M s = (σ s).2.1 ∧ W s = woS (σ s) ∧ Z s = hrS (σ s) ∧ ∀ j, j < 9 → P (9 * s + j) = ptS (σ s) j) ∧ ∀ s, s < 101 → Z s = 0 ∨ Z s = 1
def mAP (AP : Nat → Int) : (Nat → xSt) → List xAc → Prop
  | _, [] => True
  | σ, x :: t => (x.1 = 2 → ∀ j, j < 9 → AP (9 * t.length + j) = ptS (und σ x x.2.1.toNat) j) ∧ mAP AP (und σ x) t
def mac (f : xH) (σ : Nat → xSt) (as : List xAc) : Prop := ∃ A S AP : Nat → Int, f 52 = some (aI 8 A) ∧ f 53 = some (aI 8 S) ∧ f 54 = some (aI 72 AP) ∧ as.length ≤ 8 ∧ (∀ i x, as[i]? = some x → A (as.length - 1 - i) = x.1 ∧ S (as.length - 1 - i) = x.2.1) ∧ mAP AP σ as
def mpg (f : xH) (ps : Nat) (pb : Nat → Int) : Prop := ∃ c : Nat → Int, f 66 = some (aI 100 c) ∧ ps ≤ 40 ∧ ∀ j, j < ps → c j = pb j
def mpr (f : xH) (pu : Nat) (pr : Nat → Int) : Prop := ∃ c : Nat → Int, f 77 = some (aI 40 c) ∧ pu ≤ 40 ∧ ∀ j, j < pu → c j = pr j ∧ inI (pr j)
def arr (t N : Nat) (c : Nat → Int) : xE := Sum.inl (t, N, if t = 1 then .inr (.inl c) else .inl c)
def shL : List (Nat × (Nat × Nat)) := [(42, (1, 30)), (48, (1, 3)), (49, (1, 3)), (50, (1, 3)), (51, (1, 3)), (55, (0, 9)), (56, (1, 3)), (57, (1, 3)), (58, (1, 3)), (59, (0, 200)), (60, (0, 200)), (61, (0, 200)), (62, (1, 200)), (63, (1, 200)), (64, (1, 200)), (65, (1, 200)), (67, (2, 10000)), (68, (2, 10000)), (69, (2, 101)), (70, (0, 40)), (71, (0, 101)), (72, (0, 101)), (73, (0, 41)), (74, (0, 101)), (75, (0, 40)), (76, (0, 40))]
def msh (f : xH) : Prop := ∀ p ∈ shL, ∃ c, f p.1 = some (arr p.2.1 p.2.2 c)
theorem msh_at {f : xH} (h : msh f) {k t N : Nat} (hk : (k, (t, N)) ∈ shL) : ∃ c, f k = some (arr t N c) := h _ hk
theorem msh_up {f : xH} {k t N : Nat} {c : Nat → Int} (h : msh f) (hk : ∀ p ∈ shL, p.1 = k → p.2 = (t, N)) : msh (xup f k (arr t N c)) := by
  intro p hp
  by_cases e : p.1 = k
  · have := hk p hp e
    refine ⟨c, ?_⟩
    rw [e, xup_s, this]
  · obtain ⟨c1, h1⟩ := h p hp
    exact ⟨c1, (xup_n _ _ e).trans h1⟩
theorem msh_o {f : xH} {k : Nat} {e : xE} (h : msh f) (hk : ∀ p ∈ shL, p.1 ≠ k) : msh (xup f k e) := by
  intro p hp
  obtain ⟨c1, h1⟩ := h p hp
  exact ⟨c1, (xup_n _ _ (hk p hp)).trans h1⟩
/-- the model's fields -/
def mfd (m : Nat → Int) (th : Int) (bn gn : Nat) (σ : Nat → xSt) (d : Nat → Int) (as : List xAc) (ps pu : Nat) : Prop := m 0 = th ∧ m 1 = (bn : Int) ∧ m 6 = (gn : Int) ∧ m 7 = (hc σ gn : Int) ∧ m 13 = d 0 ∧ m 14 = d 1 ∧ m 15 = d 2 ∧ m 23 = (as.length : Int) ∧ m 42 = (ps : Int) ∧ m 60 = (pu : Int)
def MS (f : xH) (th : Int) (bn : Nat) (β : Nat → xBx) (gn : Nat) (σ : Nat → xSt) (d : Nat → Int) (as : List xAc) (ps : Nat) (pb : Nat → Int) (pu : Nat) (pr : Nat → Int) : Prop :=
  ∃ m, f 38 = some (oMd m) ∧ mfd m th bn gn σ d as ps pu ∧ mbx f bn β ∧ mst f gn σ ∧ mac f σ as ∧ mpg f ps pb ∧ mpr f pu pr ∧ msh f ∧ hc σ gn ≤ 40 ∧ bd d 100 ∧ ¬ z3 d
def kC (f f1 : xH) : Prop := ∀ k, (k < 38 ∨ 77 < k) → f1 k = f k
theorem kC_rf (f : xH) : kC f f := fun _ _ => rfl
theorem kC_tr {f f1 f2 : xH} (h : kC f f1) (h2 : kC f1 f2) : kC f f2 := fun k q => (h2 k q).trans (h k q)
theorem kC_up {f f1 : xH} {k : Nat} {e : xE} (h : kC f f1) (h1 : 38 ≤ k) (h2 : k ≤ 77) : kC f (xup f1 k e) := fun j q => (xup_n _ _ (by omega)).trans (h j q)
theorem mbx_fr {f f1 : xH} {bn : Nat} {β : Nat → xBx} (h : mbx f bn β) (hf : ∀ k, 39 ≤ k → k ≤ 41 → f1 k = f k) : mbx f1 bn β := by
  obtain ⟨W, R, U, h1, h2, h3, h4⟩ := h
  exact ⟨W, R, U, (hf 39 (by omega) (by omega)).trans h1, (hf 40 (by omega) (by omega)).trans h2, (hf 41 (by omega) (by omega)).trans h3, h4⟩
theorem mst_fr {f f1 : xH} {gn : Nat} {σ : Nat → xSt} (h : mst f gn σ) (hf : ∀ k, 43 ≤ k → k ≤ 47 → f1 k = f k) : mst f1 gn σ := by
  obtain ⟨K, M, W, P, Z, h1, h2, h3, h4, h5, h6⟩ := h
  exact ⟨K, M, W, P, Z, (hf 43 (by omega) (by omega)).trans h1, (hf 44 (by omega) (by omega)).trans h2, (hf 45 (by omega) (by omega)).trans h3, (hf 46 (by omega) (by omega)).trans h4, (hf 47 (by omega) (by omega)).trans h5, h6⟩
theorem mac_fr {f f1 : xH} {σ : Nat → xSt} {as : List xAc} (h : mac f σ as) (hf : ∀ k, 52 ≤ k → k ≤ 54 → f1 k = f k) : mac f1 σ as := by
  obtain ⟨A, S, AP, h1, h2, h3, h4⟩ := h
  exact ⟨A, S, AP, (hf 52 (by omega) (by omega)).trans h1, (hf 53 (by omega) (by omega)).trans h2, (hf 54 (by omega) (by omega)).trans h3, h4⟩
theorem mpg_fr {f f1 : xH} {ps : Nat} {pb : Nat → Int} (h : mpg f ps pb) (hf : f1 66 = f 66) : mpg f1 ps pb := by
  obtain ⟨c, h1, h2⟩ := h
  exact ⟨c, hf.trans h1, h2⟩
theorem mpr_fr {f f1 : xH} {pu : Nat} {pr : Nat → Int} (h : mpr f pu pr) (hf : f1 77 = f 77) : mpr f1 pu pr := by
  obtain ⟨c, h1, h2⟩ := h
  exact ⟨c, hf.trans h1, h2⟩
/-- scratch alone changes, and fields that are scratch -/
theorem MS_s {f f1 : xH} {th th1 : Int} {bn : Nat} {β : Nat → xBx} {gn : Nat} {σ : Nat → xSt} {d : Nat → Int} {as : List xAc} {ps : Nat} {pb : Nat → Int} {pu : Nat} {pr : Nat → Int} {m1 : Nat → Int} (h : MS f th bn β gn σ d as ps pb pu pr) (h38 : f1 38 = some (oMd m1)) (hm : mfd m1 th1 bn gn σ d as ps pu) (hs : msh f1) (hf : ∀ k, ((39 ≤ k ∧ k ≤ 41) ∨ (43 ≤ k ∧ k ≤ 47) ∨ (52 ≤ k ∧ k ≤ 54) ∨ k = 66 ∨ k = 77) → f1 k = f k) : MS f1 th1 bn β gn σ d as ps pb pu pr := by
  obtain ⟨m, h1, h2, h3, h4, h5, h6, h7, h8, h9⟩ := h
  exact ⟨m1, h38, hm, mbx_fr h3 (fun k a b => hf k (by omega)), mst_fr h4 (fun k a b => hf k (by omega)), mac_fr h5 (fun k a b => hf k (by omega)), mpg_fr h6 (hf 66 (by omega)), mpr_fr h7 (hf 77 (by omega)), hs, h9⟩
section C76
variable {g : xG} {y : xM} {Q : xP} {n : Nat} {f : xH}
theorem ct_thrown {m : Nat → Int} (h38 : f 38 = some (oMd m)) (hq : Q (.inl (some (vI (m 0)))) n f) : xct g M_X10_thrown 0 0 [vR 38] n f Q := by
  refine xct_of rfl rfl (Nat.le_of_ble_eq_true rfl) ?_
  refine xw_aload_n dX10_thrown_0 rfl ?_
  refine xw_getfield dX10_thrown_1 fl_X10_1 h38 rfl ?_
  exact xw_iret dX10_thrown_4 rfl hq
set_option maxHeartbeats 4000000 in
theorem ct_may {gd code : Int} {m : Nat → Int} (h38 : f 38 = some (oMd m)) (h0 : m 0 = 0) (hg : gd = 0 ∨ gd = 1) (hc0 : code ≠ 0) (hci : inI code) (h1 : gd = 1 → Q (.inl (some (vI 1))) n f) (h2 : gd = 0 → Q (.inl (some (vI 0))) n (xup f 38 (oMd (xui m 0 code)))) : xct g M_X10_may 0 0 [vR 38, vI gd, vI code] n f Q := by
  refine xct_of rfl rfl (Nat.le_of_ble_eq_true rfl) ?_
  have i0 : inI (m 0) := by rw [h0]; unfold inI; omega
  rcases hg with rfl | rfl
  · skip
    refine xw_iload_n dX10_may_0 rfl ?_
    refine xw_ifne (tgt := 16) dX10_may_1 (by decide) (by first | assumption | (unfold inI; omega) | (unfold inI at *; omega)) (fun c_1 => ?_) (fun c_1 => ?_)
    · skip
      exact absurd rfl c_1
    · skip
      refine xw_aload_n dX10_may_4 rfl ?_
      refine xw_getfield dX10_may_5 fl_X10_1 h38 rfl ?_
      refine xw_ifne (tgt := 16) dX10_may_8 (by decide) i0 (fun c_8 => ?_) (fun c_8 => ?_)
      · skip
        exact absurd h0 c_8
      · skip
        refine xw_aload_n dX10_may_11 rfl ?_
        refine xw_iload_n dX10_may_12 rfl ?_
        refine xw_putfield dX10_may_13 (fp_X10_1 _) h38 rfl rfl ?_
        rw [xmd_0]
        refine xw_aload_n dX10_may_16 rfl ?_
        refine xw_getfield dX10_may_17 fl_X10_1 rfl rfl ?_
        refine xw_topi code rfl ?_
        refine xw_ifne (tgt := 27) dX10_may_20 (by decide) (by first | assumption | (unfold inI; omega) | (unfold inI at *; omega)) (fun c_20 => ?_) (fun c_20 => ?_)
        · skip
          refine xw_iconst dX10_may_27 ?_
          exact xw_zret dX10_may_28 rfl rfl (h2 rfl)
        · skip
          exact absurd c_20 hc0
  · skip
    refine xw_iload_n dX10_may_0 rfl ?_
    refine xw_ifne (tgt := 16) dX10_may_1 (by decide) (by first | assumption | (unfold inI; omega) | (unfold inI at *; omega)) (fun c_1 => ?_) (fun c_1 => ?_)
    · skip
      refine xw_aload_n dX10_may_16 rfl ?_
      refine xw_getfield dX10_may_17 fl_X10_1 h38 rfl ?_
      refine xw_ifne (tgt := 27) dX10_may_20 (by decide) i0 (fun c_20 => ?_) (fun c_20 => ?_)
      · skip
        exact absurd h0 c_20
      · skip
        refine xw_iconst dX10_may_23 ?_
        refine xw_goto (tgt := 28) dX10_may_24 (by decide) ?_
        exact xw_zret dX10_may_28 rfl rfl (h1 rfl)
    · skip
      exact absurd c_1 (by decide)
set_option maxHeartbeats 4000000 in
theorem ct_isRow {z w : Int} {bn : Nat} {m : Nat → Int} (h38 : f 38 = some (oMd m)) (h0 : m 0 = 0) (hb : m 1 = (bn : Int)) (hbn : bn ≤ 8) (hz : inI z) (hw : inI w) (h1 : ∀ b k : Nat, z = (b : Int) → w = (k : Int) → b < bn → k < 20 → Q (.inl (some (vI 1))) n f) (h2 : ¬ ((0 ≤ z ∧ z < (bn : Int)) ∧ 0 ≤ w ∧ w < 20) → Q (.inl (some (vI 0))) n (xup f 38 (oMd (xui m 0 1)))) : xct g M_X10_isRow 0 0 [vR 38, vI z, vI w] n f Q := by
  refine xct_of rfl rfl (Nat.le_of_ble_eq_true rfl) ?_
  have E : ∀ gd : Int, (gd = 0 ∨ gd = 1) → (gd = 1 → ((0 ≤ z ∧ z < (bn : Int)) ∧ 0 ≤ w ∧ w < 20)) → (gd = 0 → ¬ ((0 ≤ z ∧ z < (bn : Int)) ∧ 0 ≤ w ∧ w < 20)) → xw g M_X10_isRow Q 0 0 28 [(0, vR 38), (1, vI z), (2, vI w)] [vI gd, vR 38] n f := by
    intro gd hg q1 q2
    refine xw_iconst dX10_isRow_28 ?_
    refine xw_callV (rc := 0) (rs := 0) (mc2 := 0) (ms2 := 0) (a := 38) (As := [vI gd, vI 1]) (st := []) dX10_isRow_29 mv_X10_136 h38 rfl rfl (by decide) (by decide) (Nat.le_of_ble_eq_true rfl) rfl (ct_may h38 h0 hg (by decide) (by unfold inI; omega) (fun e => ?_) (fun e => ?_))
    · skip
      exact xw_zret dX10_isRow_32 rfl rfl (by first | (have q := q1 e; exact h1 z.toNat w.toNat (by omega) (by omega) (by omega) (by omega)) | exact h2 (q2 e))
    · skip
      exact xw_zret dX10_isRow_32 rfl rfl (by first | (have q := q1 e; exact h1 z.toNat w.toNat (by omega) (by omega) (by omega) (by omega)) | exact h2 (q2 e))
  refine xw_aload_n dX10_isRow_0 rfl ?_
  refine xw_iload_n dX10_isRow_1 rfl ?_
  refine xw_iflt (tgt := 27) dX10_isRow_2 (by decide) (by first | assumption | (unfold inI; omega) | (unfold inI at *; omega)) (fun c_2 => ?_) (fun c_2 => ?_)
  · skip
    refine xw_iconst dX10_isRow_27 ?_
    first | exact E 1 (Or.inr rfl) (fun _ => by omega) (fun q => absurd q (by decide)) | exact E 0 (Or.inl rfl) (fun q => absurd q (by decide)) (fun _ => by omega)
  · skip
    refine xw_iload_n dX10_isRow_5 rfl ?_
    refine xw_aload_n dX10_isRow_6 rfl ?_
    refine xw_getfield dX10_isRow_7 fl_X10_140 h38 rfl ?_
    refine xw_topi (bn : Int) hb ?_
    refine xw_icmpge (tgt := 27) dX10_isRow_10 (by decide) (by first | assumption | (unfold inI; omega) | (unfold inI at *; omega)) (by first | assumption | (unfold inI; omega) | (unfold inI at *; omega)) (fun c_10 => ?_) (fun c_10 => ?_)
    · skip
      refine xw_iconst dX10_isRow_27 ?_
      first | exact E 1 (Or.inr rfl) (fun _ => by omega) (fun q => absurd q (by decide)) | exact E 0 (Or.inl rfl) (fun q => absurd q (by decide)) (fun _ => by omega)
    · skip
      refine xw_iload_n dX10_isRow_13 rfl ?_
      refine xw_iflt (tgt := 27) dX10_isRow_14 (by decide) (by first | assumption | (unfold inI; omega) | (unfold inI at *; omega)) (fun c_14 => ?_) (fun c_14 => ?_)
      · skip
        refine xw_iconst dX10_isRow_27 ?_
        first | exact E 1 (Or.inr rfl) (fun _ => by omega) (fun q => absurd q (by decide)) | exact E 0 (Or.inl rfl) (fun q => absurd q (by decide)) (fun _ => by omega)
      · skip
        refine xw_iload_n dX10_isRow_17 rfl ?_
        refine xw_bipush (z := 20) dX10_isRow_18 (by decide) ?_
        refine xw_icmpge (tgt := 27) dX10_isRow_20 (by decide) (by first | assumption | (unfold inI; omega) | (unfold inI at *; omega)) (by first | assumption | (unfold inI; omega) | (unfold inI at *; omega)) (fun c_20 => ?_) (fun c_20 => ?_)
        · skip
          refine xw_iconst dX10_isRow_27 ?_
          first | exact E 1 (Or.inr rfl) (fun _ => by omega) (fun q => absurd q (by decide)) | exact E 0 (Or.inl rfl) (fun q => absurd q (by decide)) (fun _ => by omega)
        · skip
          refine xw_iconst dX10_isRow_23 ?_
          refine xw_goto (tgt := 28) dX10_isRow_24 (by decide) ?_
          first | exact E 1 (Or.inr rfl) (fun _ => by omega) (fun q => absurd q (by decide)) | exact E 0 (Or.inl rfl) (fun q => absurd q (by decide)) (fun _ => by omega)
end C76
