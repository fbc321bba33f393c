/-! the table's state: what lies in its cells -/
abbrev xSt : Type := Int × (Int × (Int × (Int × (Nat → Int))))
abbrev ptS (s : xSt) : Nat → Int := s.2.2.2.2
abbrev hrS (s : xSt) : Int := s.2.2.2.1
abbrev woS (s : xSt) : Int := s.2.2.1
def pcS (s : xSt) : Nat := if s.1 = 1 then 2 else 1
theorem pcS_in (s : xSt) : pcS s = 1 ∨ pcS s = 2 := by unfold pcS; split; exact Or.inr rfl; exact Or.inl rfl
theorem pcS_2 (s : xSt) : pcS s ≤ 2 := by rcases pcS_in s with h | h <;> omega
abbrev oSk (s : xSt) (a : Nat) : xE := oSt s.1 s.2.1 s.2.2.1 (pcS s) a s.2.2.2.1
def okK (s : xSt) : Prop := (0 ≤ s.1 ∧ s.1 ≤ 3) ∧ (0 ≤ s.2.1 ∧ s.2.1 ≤ 127) ∧ (1 ≤ woS s ∧ woS s ≤ 100) ∧ (hrS s = 0 ∨ hrS s = 1) ∧ ∀ j, j < 9 → nr (ptS s j)
abbrev oTb (bn gn on tk rk pu : Int) : xE := Sum.inr (9, fX9 bn gn on tk rk pu)
def stk (f : xH) (gn : Nat) (so : Nat → Nat) (σ : Nat → xSt) : Prop := f 2 = some (aR 5 100 (fun s => if s < gn then some (so s) else none)) ∧ gn ≤ 100 ∧ (∀ s, s < gn → 79 ≤ so s ∧ f (so s) = some (oSk (σ s) (so s + 1)) ∧ f (so s + 1) = some (aI 9 (ptS (σ s))) ∧ okK (σ s)) ∧ ∀ s t, s < t → t < gn → so s + 1 < so t
abbrev xBx : Type := Int × ((Nat → Int) × (Nat → Int))
def okB (b : xBx) : Prop := (0 ≤ b.1 ∧ b.1 ≤ 2) ∧ (∀ k, k < 20 → -1 ≤ b.2.2 k ∧ b.2.2 k ≤ 30) ∧ ∀ j, j < 600 → inL (b.2.1 j)
def bxs (f : xH) (bn : Nat) (bo : Nat → Nat) (β : Nat → xBx) : Prop := f 1 = some (aR 4 8 (fun b => if b < bn then some (bo b) else none)) ∧ bn ≤ 8 ∧ (∀ b, b < bn → 79 ≤ bo b ∧ f (bo b) = some (.inr (1, fBx (β b).1 (bo b + 1) (bo b + 2))) ∧ f (bo b + 1) = some (aL 600 (β b).2.1) ∧ f (bo b + 2) = some (aI 20 (β b).2.2) ∧ okB (β b)) ∧ ∀ b c, b < c → c < bn → bo b + 2 < bo c
def hre (gn : Nat) (σ : Nat → xSt) (z : Int) : Prop := ∃ s : Nat, z = (s : Int) ∧ s < gn ∧ hrS (σ s) = 1
/-- how many lie below -/
def hc (σ : Nat → xSt) : Nat → Nat
  | 0 => 0
  | s + 1 => hc σ s + (if hrS (σ s) = 1 then 1 else 0)
theorem stk_fr {f f1 : xH} {gn : Nat} {so : Nat → Nat} {σ : Nat → xSt} (h : stk f gn so σ) (h2 : f1 2 = f 2) (hf : ∀ k, 79 ≤ k → f1 k = f k) : stk f1 gn so σ :=
  ⟨h2.trans h.1, h.2.1, fun s hs => ⟨(h.2.2.1 s hs).1, (hf _ (h.2.2.1 s hs).1).trans (h.2.2.1 s hs).2.1, (hf _ (by have := (h.2.2.1 s hs).1; omega)).trans (h.2.2.1 s hs).2.2.1, (h.2.2.1 s hs).2.2.2⟩, h.2.2.2⟩
theorem bxs_fr {f f1 : xH} {bn : Nat} {bo : Nat → Nat} {β : Nat → xBx} (h : bxs f bn bo β) (h2 : f1 1 = f 1) (hf : ∀ k, 79 ≤ k → f1 k = f k) : bxs f1 bn bo β :=
  ⟨h2.trans h.1, h.2.1, fun s hs => ⟨(h.2.2.1 s hs).1, (hf _ (h.2.2.1 s hs).1).trans (h.2.2.1 s hs).2.1, (hf _ (by have := (h.2.2.1 s hs).1; omega)).trans (h.2.2.1 s hs).2.2.1, (hf _ (by have := (h.2.2.1 s hs).1; omega)).trans (h.2.2.1 s hs).2.2.2.1, (h.2.2.1 s hs).2.2.2.2⟩, h.2.2.2⟩
section C59
variable {g : xG} {y : xM} {Q : xP} {n : Nat} {f : xH}
set_option maxHeartbeats 4000000 in
theorem ct_wasGiven {bn on tk rk pu z : Int} {gn : Nat} {so : Nat → Nat} {σ : Nat → xSt} (h0 : f 0 = some (oTb bn gn on tk rk pu)) (hs : stk f gn so σ) (hz : inI z) (h1 : ∀ s : Nat, z = (s : Int) → s < gn → Q (.inl (some (vI 1))) n f) (h2 : (∀ s : Nat, z = (s : Int) → ¬ s < gn) → Q (.inl (some (vI 0))) n f) : xct g M_X9_wasGiven 0 0 [vR 0, vI z] n f Q := by
  refine xct_of rfl rfl (Nat.le_of_ble_eq_true rfl) ?_
  obtain ⟨hs2, hg, hs3, hs4⟩ := hs
  by_cases hc : 0 ≤ z ∧ z < (gn : Int)
  · obtain ⟨s, rfl⟩ : ∃ s : Nat, z = (s : Int) := ⟨z.toNat, by omega⟩
    have hlt : s < gn := by omega
    refine xw_iload_n dX9_wasGiven_0 rfl ?_
    refine xw_iflt (tgt := 25) dX9_wasGiven_1 (by decide) (by first | assumption | (unfold inI; omega) | (unfold inI at *; omega)) (fun c_1 => ?_) (fun c_1 => ?_)
    · skip
      exfalso; omega
    · skip
      refine xw_iload_n dX9_wasGiven_4 rfl ?_
      refine xw_aload_n dX9_wasGiven_5 rfl ?_
      refine xw_getfield dX9_wasGiven_6 fl_X9_134 h0 rfl ?_
      refine xw_icmpge (tgt := 25) dX9_wasGiven_9 (by decide) (by first | assumption | (unfold inI; omega) | (unfold inI at *; omega)) (by first | assumption | (unfold inI; omega) | (unfold inI at *; omega)) (fun c_9 => ?_) (fun c_9 => ?_)
      · skip
        exfalso; omega
      · skip
        refine xw_aload_n dX9_wasGiven_12 rfl ?_
        refine xw_getfield dX9_wasGiven_13 fl_X9_17 h0 rfl ?_
        refine xw_iload_n dX9_wasGiven_16 rfl ?_
        refine xw_aald dX9_wasGiven_17 hs2 rfl (j := s) rfl (by omega) (by decide) ?_
        refine xw_topr (so s) (if_pos hlt) ?_
        refine xw_ifnullR dX9_wasGiven_18 ?_
        refine xw_iconst dX9_wasGiven_21 ?_
        refine xw_goto (tgt := 26) dX9_wasGiven_22 (by decide) ?_
        exact xw_zret dX9_wasGiven_26 rfl rfl (h1 s rfl hlt)
  · skip
    refine xw_iload_n dX9_wasGiven_0 rfl ?_
    refine xw_iflt (tgt := 25) dX9_wasGiven_1 (by decide) (by first | assumption | (unfold inI; omega) | (unfold inI at *; omega)) (fun c_1 => ?_) (fun c_1 => ?_)
    · skip
      refine xw_iconst dX9_wasGiven_25 ?_
      exact xw_zret dX9_wasGiven_26 rfl rfl (h2 (fun s e q => hc (by omega)))
    · skip
      refine xw_iload_n dX9_wasGiven_4 rfl ?_
      refine xw_aload_n dX9_wasGiven_5 rfl ?_
      refine xw_getfield dX9_wasGiven_6 fl_X9_134 h0 rfl ?_
      refine xw_icmpge (tgt := 25) dX9_wasGiven_9 (by decide) (by first | assumption | (unfold inI; omega) | (unfold inI at *; omega)) (by first | assumption | (unfold inI; omega) | (unfold inI at *; omega)) (fun c_9 => ?_) (fun c_9 => ?_)
      · skip
        refine xw_iconst dX9_wasGiven_25 ?_
        exact xw_zret dX9_wasGiven_26 rfl rfl (h2 (fun s e q => hc (by omega)))
      · skip
        exfalso; omega
set_option maxHeartbeats 4000000 in
theorem ct_isHere {bn on tk rk pu z : Int} {gn : Nat} {so : Nat → Nat} {σ : Nat → xSt} (h0 : f 0 = some (oTb bn gn on tk rk pu)) (hs : stk f gn so σ) (hz : inI z) (h1 : ∀ s : Nat, z = (s : Int) → s < gn → hrS (σ s) = 1 → Q (.inl (some (vI 1))) n f) (h2 : ¬ hre gn σ z → Q (.inl (some (vI 0))) n f) : xct g M_X9_isHere 0 0 [vR 0, vI z] n f Q := by
  refine xct_of rfl rfl (Nat.le_of_ble_eq_true rfl) ?_
  refine id ?_
  refine xw_aload_n dX9_isHere_0 rfl ?_
  refine xw_iload_n dX9_isHere_1 rfl ?_
  refine xw_callV (rc := 0) (rs := 0) (mc2 := 0) (ms2 := 0) (a := 0) (As := [vI z]) (st := []) dX9_isHere_2 mv_X9_190 h0 rfl rfl (by decide) (by decide) (Nat.le_of_ble_eq_true rfl) rfl (ct_wasGiven h0 hs hz (fun s hz1 hlt => ?_) (fun hn => ?_))
  · skip
    refine xw_ifeq (tgt := 24) dX9_isHere_5 (by decide) (by unfold inI; omega) (fun c => absurd c (by decide)) (fun _ => ?_)
    subst hz1
    refine xw_aload_n dX9_isHere_8 rfl ?_
    refine xw_getfield dX9_isHere_9 fl_X9_17 h0 rfl ?_
    refine xw_iload_n dX9_isHere_12 rfl ?_
    refine xw_aald dX9_isHere_13 hs.1 rfl (j := s) rfl (by have := hs.2.1; omega) (by decide) ?_
    refine xw_topr (so s) (if_pos hlt) ?_
    have hk := hs.2.2.1 s hlt
    have ho := hk.2.2.2.2.2.2.1
    refine xw_getfield dX9_isHere_14 fl_X9_330 hk.2.1 rfl ?_
    refine xw_ifeq (tgt := 24) dX9_isHere_17 (by decide) (by rcases ho with e | e <;> (show inI (hrS (σ s)); rw [e]; unfold inI; omega)) (fun c_17 => ?_) (fun c_17 => ?_)
    · skip
      refine xw_iconst dX9_isHere_24 ?_
      exact xw_zret dX9_isHere_25 rfl rfl (by first | exact h1 s rfl hlt (by rcases ho with e | e; exact absurd e c_17; exact e) | exact h2 (fun ⟨t, e1, e2, e3⟩ => absurd (e3.symm.trans ((show hrS (σ t) = hrS (σ s) by rw [show t = s by omega]).trans c_17)) (by decide)) | exact h2 (fun ⟨t, e1, e2, e3⟩ => hn t e1 e2))
    · skip
      refine xw_iconst dX9_isHere_20 ?_
      refine xw_goto (tgt := 25) dX9_isHere_21 (by decide) ?_
      exact xw_zret dX9_isHere_25 rfl rfl (by first | exact h1 s rfl hlt (by rcases ho with e | e; exact absurd e c_17; exact e) | exact h2 (fun ⟨t, e1, e2, e3⟩ => absurd (e3.symm.trans ((show hrS (σ t) = hrS (σ s) by rw [show t = s by omega]).trans c_17)) (by decide)) | exact h2 (fun ⟨t, e1, e2, e3⟩ => hn t e1 e2))
  · skip
    refine xw_ifeq (tgt := 24) dX9_isHere_5 (by decide) (by unfold inI; omega) (fun _ => ?_) (fun c => absurd c (by decide))
    refine xw_iconst dX9_isHere_24 ?_
    exact xw_zret dX9_isHere_25 rfl rfl (by first | exact h1 s rfl hlt (by rcases ho with e | e; exact absurd e c_17; exact e) | exact h2 (fun ⟨t, e1, e2, e3⟩ => absurd (e3.symm.trans ((show hrS (σ t) = hrS (σ s) by rw [show t = s by omega]).trans c_17)) (by decide)) | exact h2 (fun ⟨t, e1, e2, e3⟩ => hn t e1 e2))
end C59
