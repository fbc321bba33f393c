/-! what each call comes to; the law's wrappers of the class's calls -/
abbrev mkS (bn : Nat) (β : Nat → xBx) (gn : Nat) (σ : Nat → xSt) (d : Nat → Int) (as : List xAc) (ps : Nat) (pb : Nat → Int) (pu : Nat) (pr : Nat → Int) : LSt := (bn, (β, (gn, (σ, (d, (as, (ps, (pb, (pu, pr)))))))))
def rl_box (bn : Nat) (β : Nat → xBx) (gn : Nat) (σ : Nat → xSt) (d : Nat → Int) (as : List xAc) (ps : Nat) (pb : Nat → Int) (pu : Nat) (pr : Nat → Int) (w k v : Int) (S1 : LSt) : Prop := ((0 ≤ w ∧ w ≤ 2) ∧ bn < 8 ∧ k = 0 ∧ v = (bn : Int) ∧ S1 = (mkS (bn + 1) (xui β bn (nbx w)) gn σ d as ps pb pu pr)) ∨ (¬ (0 ≤ w ∧ w ≤ 2) ∧ k = 1 ∧ S1 = (mkS bn β gn σ d as ps pb pu pr)) ∨ ((0 ≤ w ∧ w ≤ 2) ∧ ¬ bn < 8 ∧ k = 2 ∧ S1 = (mkS bn β gn σ d as ps pb pu pr))
def rl_row (bn : Nat) (β : Nat → xBx) (gn : Nat) (σ : Nat → xSt) (d : Nat → Int) (as : List xAc) (ps : Nat) (pb : Nat → Int) (pu : Nat) (pr : Nat → Int) (z w m k v : Int) (S1 : LSt) : Prop := (∃ b kk : Nat, z = (b : Int) ∧ w = (kk : Int) ∧ b < bn ∧ kk < 20 ∧ k = 0 ∧ (((0 ≤ m ∧ m ≤ 30) ∧ v = m ∧ S1 = (mkS bn (xui β b ((β b).1, (zrow (β b).2.1 kk 30, xui (β b).2.2 kk m))) gn σ d as ps pb pu pr)) ∨ (¬ (0 ≤ m ∧ m ≤ 30) ∧ v = -1 ∧ S1 = (mkS bn β gn σ d as ps pb pu pr)))) ∨ (¬ ((0 ≤ z ∧ z < (bn : Int)) ∧ 0 ≤ w ∧ w < 20) ∧ k = 1 ∧ S1 = (mkS bn β gn σ d as ps pb pu pr))
def rl_put (bn : Nat) (β : Nat → xBx) (gn : Nat) (σ : Nat → xSt) (d : Nat → Int) (as : List xAc) (ps : Nat) (pb : Nat → Int) (pu : Nat) (pr : Nat → Int) (z w m x k v : Int) (S1 : LSt) : Prop := (∃ b kk : Nat, z = (b : Int) ∧ w = (kk : Int) ∧ b < bn ∧ kk < 20 ∧ k = 0 ∧ ((∃ i : Nat, m = (i : Int) ∧ (i : Int) < (β b).2.2 kk ∧ v = 1 ∧ S1 = (mkS bn (xui β b ((β b).1, (xui (β b).2.1 (30 * kk + i) (kept (β b).1 x), (β b).2.2))) gn σ d as ps pb pu pr)) ∨ ((β b).2.2 kk = -1 ∧ v = -1 ∧ S1 = (mkS bn β gn σ d as ps pb pu pr)) ∨ ((β b).2.2 kk ≠ -1 ∧ ¬ (0 ≤ m ∧ m < (β b).2.2 kk) ∧ v = -2 ∧ S1 = (mkS bn β gn σ d as ps pb pu pr)))) ∨ (¬ ((0 ≤ z ∧ z < (bn : Int)) ∧ 0 ≤ w ∧ w < 20) ∧ k = 1 ∧ S1 = (mkS bn β gn σ d as ps pb pu pr))
def rl_copy (bn : Nat) (β : Nat → xBx) (gn : Nat) (σ : Nat → xSt) (d : Nat → Int) (as : List xAc) (ps : Nat) (pb : Nat → Int) (pu : Nat) (pr : Nat → Int) (z w x z2 w2 x2 m k v : Int) (S1 : LSt) : Prop := (∃ b kk b2 k2 : Nat, z = (b : Int) ∧ w = (kk : Int) ∧ z2 = (b2 : Int) ∧ w2 = (k2 : Int) ∧ b < bn ∧ kk < 20 ∧ b2 < bn ∧ k2 < 20 ∧ k = 0 ∧ ((((β b).2.2 kk = -1 ∨ (β b2).2.2 k2 = -1) ∧ v = -1 ∧ S1 = (mkS bn β gn σ d as ps pb pu pr)) ∨ (¬ ((β b).2.2 kk = -1 ∨ (β b2).2.2 k2 = -1) ∧ ¬ (0 ≤ x ∧ 0 ≤ x2 ∧ 0 ≤ m ∧ x ≤ (β b).2.2 kk - m ∧ x2 ≤ (β b2).2.2 k2 - m) ∧ v = -2 ∧ S1 = (mkS bn β gn σ d as ps pb pu pr)) ∨ (¬ ((β b).2.2 kk = -1 ∨ (β b2).2.2 k2 = -1) ∧ (0 ≤ x ∧ 0 ≤ x2 ∧ 0 ≤ m ∧ x ≤ (β b).2.2 kk - m ∧ x2 ≤ (β b2).2.2 k2 - m) ∧ (β b).1 ≠ (β b2).1 ∧ v = -3 ∧ S1 = (mkS bn β gn σ d as ps pb pu pr)) ∨ (¬ ((β b).2.2 kk = -1 ∨ (β b2).2.2 k2 = -1) ∧ ∃ i i2 c : Nat, x = (i : Int) ∧ x2 = (i2 : Int) ∧ m = (c : Int) ∧ (i + c : Int) ≤ (β b).2.2 kk ∧ (i2 + c : Int) ≤ (β b2).2.2 k2 ∧ (β b).1 = (β b2).1 ∧ v = m ∧ S1 = (mkS bn (xui β b2 ((β b2).1, ((fun j => if 30 * k2 + i2 ≤ j ∧ j < 30 * k2 + i2 + c then (β b).2.1 (30 * kk + i + (j - (30 * k2 + i2))) else (β b2).2.1 j), (β b2).2.2))) gn σ d as ps pb pu pr)))) ∨ (¬ (((0 ≤ z ∧ z < (bn : Int)) ∧ 0 ≤ w ∧ w < 20) ∧ ((0 ≤ z2 ∧ z2 < (bn : Int)) ∧ 0 ≤ w2 ∧ w2 < 20)) ∧ k = 1 ∧ S1 = (mkS bn β gn σ d as ps pb pu pr))
def rl_tear (bn : Nat) (β : Nat → xBx) (gn : Nat) (σ : Nat → xSt) (d : Nat → Int) (as : List xAc) (ps : Nat) (pb : Nat → Int) (pu : Nat) (pr : Nat → Int) (z w k v : Int) (S1 : LSt) : Prop := (∃ b kk : Nat, z = (b : Int) ∧ w = (kk : Int) ∧ b < bn ∧ kk < 20 ∧ k = 0 ∧ v = (β b).2.2 kk ∧ S1 = (mkS bn (xui β b ((β b).1, ((β b).2.1, xui (β b).2.2 kk (-1)))) gn σ d as ps pb pu pr)) ∨ (¬ ((0 ≤ z ∧ z < (bn : Int)) ∧ 0 ≤ w ∧ w < 20) ∧ k = 1 ∧ S1 = (mkS bn β gn σ d as ps pb pu pr))
def rl_lay (bn : Nat) (β : Nat → xBx) (gn : Nat) (σ : Nat → xSt) (d : Nat → Int) (as : List xAc) (ps : Nat) (pb : Nat → Int) (pu : Nat) (pr : Nat → Int) (kd z w mk wo k v : Int) (S1 : LSt) : Prop := (∃ b kk : Nat, z = (b : Int) ∧ w = (kk : Int) ∧ b < bn ∧ kk < 20 ∧ kok kd mk wo ∧ k = 0 ∧ ((layN β gn σ kd mk wo b kk v ∧ S1 = (mkS bn β gn σ d as ps pb pu pr)) ∨ (layY β gn σ kd mk wo b kk ∧ v = (gn : Int) ∧ S1 = (mkS bn β (gn + 1) (xui σ gn (stS (nwS2 kd mk wo (β b).2.1 kk) 1)) d (aCt 1 (gn : Int) 0 0 0 :: as.take 7) ps pb pu pr)))) ∨ (¬ ((0 ≤ z ∧ z < (bn : Int)) ∧ 0 ≤ w ∧ w < 20) ∧ k = 1 ∧ S1 = (mkS bn β gn σ d as ps pb pu pr)) ∨ (((0 ≤ z ∧ z < (bn : Int)) ∧ 0 ≤ w ∧ w < 20) ∧ ¬ kok kd mk wo ∧ k = 2 ∧ S1 = (mkS bn β gn σ d as ps pb pu pr))
def rl_move (bn : Nat) (β : Nat → xBx) (gn : Nat) (σ : Nat → xSt) (d : Nat → Int) (as : List xAc) (ps : Nat) (pb : Nat → Int) (pu : Nat) (pr : Nat → Int) (z x y9 w k v : Int) (S1 : LSt) : Prop := (∃ s : Nat, z = (s : Int) ∧ s < gn ∧ hrS (σ s) = 1 ∧ k = 0 ∧ ((¬ nearAll (ptS (σ s)) (pcS (σ s)) x y9 w ∧ v = -3 ∧ S1 = (mkS bn β gn σ d as ps pb pu pr)) ∨ (nearAll (ptS (σ s)) (pcS (σ s)) x y9 w ∧ ∃ r, ltR gn (xui σ s (mvS (σ s) x y9 w)) (mvS (σ s) x y9 w) (fun t => t ≠ s) r ∧ r ≠ -1 ∧ v = -10 - r ∧ S1 = (mkS bn β gn σ d as ps pb pu pr)) ∨ (nearAll (ptS (σ s)) (pcS (σ s)) x y9 w ∧ ltR gn (xui σ s (mvS (σ s) x y9 w)) (mvS (σ s) x y9 w) (fun t => t ≠ s) (-1) ∧ v = 1 ∧ S1 = (mkS bn β gn (xui σ s (mvS (σ s) x y9 w)) d (aCt 2 z x y9 w :: as.take 7) ps pb pu pr)))) ∨ (¬ hre gn σ z ∧ k = 1 ∧ S1 = (mkS bn β gn σ d as ps pb pu pr))
def rl_away (bn : Nat) (β : Nat → xBx) (gn : Nat) (σ : Nat → xSt) (d : Nat → Int) (as : List xAc) (ps : Nat) (pb : Nat → Int) (pu : Nat) (pr : Nat → Int) (z k v : Int) (S1 : LSt) : Prop := (∃ s : Nat, z = (s : Int) ∧ s < gn ∧ hrS (σ s) = 1 ∧ k = 0 ∧ v = (hc (xui σ s (stS (σ s) 0)) gn : Int) ∧ S1 = (mkS bn β gn (xui σ s (stS (σ s) 0)) d (aCt 3 z 0 0 0 :: as.take 7) ps pb pu pr)) ∨ (¬ hre gn σ z ∧ k = 1 ∧ S1 = (mkS bn β gn σ d as ps pb pu pr))
def rl_lift (bn : Nat) (β : Nat → xBx) (gn : Nat) (σ : Nat → xSt) (d : Nat → Int) (as : List xAc) (ps : Nat) (pb : Nat → Int) (pu : Nat) (pr : Nat → Int) (z k v : Int) (S1 : LSt) : Prop := (∃ s : Nat, z = (s : Int) ∧ s < gn ∧ hrS (σ s) = 1 ∧ k = 0 ∧ ((v = 1 ∧ onA gn σ d (fun sz ls kc c w av bv rv lf ly ks N => av (hc σ s) = 0) ∧ S1 = (mkS bn β gn (xui σ s (stS (σ s) 0)) d (aCt 3 z 0 0 0 :: as.take 7) ps pb pu pr)) ∨ (v = 0 ∧ onA gn σ d (fun sz ls kc c w av bv rv lf ly ks N => av (hc σ s) ≠ 0) ∧ S1 = (mkS bn β gn σ d as ps pb pu pr)))) ∨ (¬ hre gn σ z ∧ k = 1 ∧ S1 = (mkS bn β gn σ d as ps pb pu pr))
def rl_turn (bn : Nat) (β : Nat → xBx) (gn : Nat) (σ : Nat → xSt) (d : Nat → Int) (as : List xAc) (ps : Nat) (pb : Nat → Int) (pu : Nat) (pr : Nat → Int) (a b c k v : Int) (S1 : LSt) : Prop := ((nb a 100 ∧ nb b 100 ∧ nb c 100) ∧ ¬ (a = 0 ∧ b = 0 ∧ c = 0) ∧ k = 0 ∧ S1 = (mkS bn β gn σ (v3 a b c) as ps pb pu pr)) ∨ (¬ ((nb a 100 ∧ nb b 100 ∧ nb c 100) ∧ ¬ (a = 0 ∧ b = 0 ∧ c = 0)) ∧ k = 1 ∧ S1 = (mkS bn β gn σ d as ps pb pu pr))
def rl_told (bn : Nat) (β : Nat → xBx) (gn : Nat) (σ : Nat → xSt) (d : Nat → Int) (as : List xAc) (ps : Nat) (pb : Nat → Int) (pu : Nat) (pr : Nat → Int) (z w k v : Int) (S1 : LSt) : Prop := (∃ s : Nat, z = (s : Int) ∧ s < gn ∧ hrS (σ s) = 1 ∧ ((k = 0 ∧ tldA (σ s) w v) ∨ (k = 2 ∧ ¬ (0 ≤ w ∧ w < 4 + 3 * ((pcS (σ s) : Int) + 1)))) ∧ S1 = (mkS bn β gn σ d as ps pb pu pr)) ∨ (¬ hre gn σ z ∧ k = 1 ∧ S1 = (mkS bn β gn σ d as ps pb pu pr))
def rl_bars (bn : Nat) (β : Nat → xBx) (gn : Nat) (σ : Nat → xSt) (d : Nat → Int) (as : List xAc) (ps : Nat) (pb : Nat → Int) (pu : Nat) (pr : Nat → Int) (z z2 k v : Int) (S1 : LSt) : Prop := (∃ s t : Nat, z = (s : Int) ∧ z2 = (t : Int) ∧ s < gn ∧ hrS (σ s) = 1 ∧ t < gn ∧ hrS (σ t) = 1 ∧ k = 0 ∧ onA gn σ d (fun sz ls kc c w av bv rv lf ly ks N => v = (if (av (hc σ t)).testBit (hc σ s) = true then 1 else 0)) ∧ S1 = (mkS bn β gn σ d as ps pb pu pr)) ∨ (¬ (hre gn σ z ∧ hre gn σ z2) ∧ k = 1 ∧ S1 = (mkS bn β gn σ d as ps pb pu pr))
def rl_crossings (bn : Nat) (β : Nat → xBx) (gn : Nat) (σ : Nat → xSt) (d : Nat → Int) (as : List xAc) (ps : Nat) (pb : Nat → Int) (pu : Nat) (pr : Nat → Int) (z k v : Int) (S1 : LSt) : Prop := (∃ s : Nat, z = (s : Int) ∧ s < gn ∧ hrS (σ s) = 1 ∧ k = 0 ∧ v = ((clist d gn σ s).1 : Int) ∧ S1 = (mkS bn β gn σ d as ps pb pu pr)) ∨ (¬ hre gn σ z ∧ k = 1 ∧ S1 = (mkS bn β gn σ d as ps pb pu pr))
def rl_crossing (bn : Nat) (β : Nat → xBx) (gn : Nat) (σ : Nat → xSt) (d : Nat → Int) (as : List xAc) (ps : Nat) (pb : Nat → Int) (pu : Nat) (pr : Nat → Int) (z k9 w k v : Int) (S1 : LSt) : Prop := (∃ s : Nat, z = (s : Int) ∧ s < gn ∧ hrS (σ s) = 1 ∧ k = 0 ∧ ((¬ (0 ≤ k9 ∧ k9 < ((clist d gn σ s).1 : Int)) ∧ v = -1) ∨ ((0 ≤ k9 ∧ k9 < ((clist d gn σ s).1 : Int)) ∧ crsA ((clist d gn σ s).2 k9.toNat) w v)) ∧ S1 = (mkS bn β gn σ d as ps pb pu pr)) ∨ (¬ hre gn σ z ∧ k = 1 ∧ S1 = (mkS bn β gn σ d as ps pb pu pr))
def rl_print (bn : Nat) (β : Nat → xBx) (gn : Nat) (σ : Nat → xSt) (d : Nat → Int) (as : List xAc) (ps : Nat) (pb : Nat → Int) (pu : Nat) (pr : Nat → Int) (z k9 w k v : Int) (S1 : LSt) : Prop := (∃ s : Nat, z = (s : Int) ∧ s < gn ∧ hrS (σ s) = 1 ∧ k = 0 ∧ ((¬ ((0 ≤ k9 ∧ k9 < ((clist d gn σ s).1 : Int)) ∧ (w = 0 ∨ w = 1)) ∧ v = -1 ∧ S1 = (mkS bn β gn σ d as ps pb pu pr)) ∨ (∃ (c : xC7) (t : Int) (b : Nat) (r : Nat × (Nat → Int)), (0 ≤ k9 ∧ k9 < ((clist d gn σ s).1 : Int)) ∧ c = (clist d gn σ s).2 k9.toNat ∧ okW c ∧ ((w = 0 ∧ t = c.2.2.2.1 ∧ (b : Int) = c.2.2.2.2.1) ∨ (w = 1 ∧ t = c.2.2.2.2.2.1 ∧ (b : Int) = c.2.2.2.2.2.2)) ∧ r = frac (decide (t < 0)) (t.natAbs / Nat.gcd t.natAbs b) (b / Nat.gcd t.natAbs b) pb ∧ v = (r.1 : Int) ∧ S1 = (mkS bn β gn σ d as r.1 r.2 pu pr)))) ∨ (¬ hre gn σ z ∧ k = 1 ∧ S1 = (mkS bn β gn σ d as ps pb pu pr))
def rl_free (bn : Nat) (β : Nat → xBx) (gn : Nat) (σ : Nat → xSt) (d : Nat → Int) (as : List xAc) (ps : Nat) (pb : Nat → Int) (pu : Nat) (pr : Nat → Int) (z k v : Int) (S1 : LSt) : Prop := (∃ s : Nat, z = (s : Int) ∧ s < gn ∧ hrS (σ s) = 1 ∧ k = 0 ∧ onA gn σ d (fun sz ls kc c w av bv rv lf ly ks N => v = (if av (hc σ s) = 0 then 1 else 0)) ∧ S1 = (mkS bn β gn σ d as ps pb pu pr)) ∨ (¬ hre gn σ z ∧ k = 1 ∧ S1 = (mkS bn β gn σ d as ps pb pu pr))
def rl_layer (bn : Nat) (β : Nat → xBx) (gn : Nat) (σ : Nat → xSt) (d : Nat → Int) (as : List xAc) (ps : Nat) (pb : Nat → Int) (pu : Nat) (pr : Nat → Int) (z k v : Int) (S1 : LSt) : Prop := (∃ s : Nat, z = (s : Int) ∧ s < gn ∧ hrS (σ s) = 1 ∧ k = 0 ∧ onA gn σ d (fun sz ls kc c w av bv rv lf ly ks N => v = (if 0 < kc then -1 else ly (hc σ s))) ∧ S1 = (mkS bn β gn σ d as ps pb pu pr)) ∨ (¬ hre gn σ z ∧ k = 1 ∧ S1 = (mkS bn β gn σ d as ps pb pu pr))
def rl_check (bn : Nat) (β : Nat → xBx) (gn : Nat) (σ : Nat → xSt) (d : Nat → Int) (as : List xAc) (ps : Nat) (pb : Nat → Int) (pu : Nat) (pr : Nat → Int) (z k v : Int) (S1 : LSt) : Prop := ((z = 0 ∨ z = 1) ∧ k = 0 ∧ onA gn σ d (fun sz ls kc c w av bv rv lf ly ks N => (z = 0 → v = wio av c sz pr pu 0 (2 ^ sz - 1)) ∧ (z = 1 → wir av c sz pr pu pu 0 0 (-1) (-1) v)) ∧ S1 = (mkS bn β gn σ d as ps pb 0 pr)) ∨ (¬ (z = 0 ∨ z = 1) ∧ k = 1 ∧ S1 = (mkS bn β gn σ d as ps pb pu pr))
section Cb5
variable {g : xG} {Q : xP} {n : Nat} {f : xH} {bn : Nat} {β : Nat → xBx} {gn : Nat} {σ : Nat → xSt} {d : Nat → Int} {as : List xAc} {ps : Nat} {pb : Nat → Int} {pu : Nat} {pr : Nat → Int}
set_option maxHeartbeats 4000000 in
theorem wct_box {w : Int} (hX : okX g) (h : LSf n f (mkS bn β gn σ d as ps pb pu pr)) (hw : inI w) (hq : ∀ n1 f1 k v S1, rl_box bn β gn σ d as ps pb pu pr w k v S1 → n ≤ n1 → afC n1 f1 (mkS bn β gn σ d as ps pb pu pr) S1 → (k = 0 → ∃ o, f1 78 = some (aL 1 o) ∧ o 0 = nrm v) → (k = 0 ∨ k = 1 ∨ k = 2) → Q (.inl (some (vI k))) n1 f1) : xct g M_L_box 3 623 [vR 0, vI w, vR 78] n f Q := by
  refine xct_ofH rfl rfl (Nat.le_of_ble_eq_true rfl) ?_
  have hC : CS n f bn β gn σ d as ps pb pu pr := h.1
  obtain ⟨bo9, so9, tk9, rk9, h00, _⟩ := id hC
  have tail : ∀ (n1 : Nat) (f1 : xH) (v : Int) (S1 : LSt), rl_box bn β gn σ d as ps pb pu pr w 0 v S1 → n ≤ n1 → afC n1 f1 (mkS bn β gn σ d as ps pb pu pr) S1 → xw g M_L_box Q 0 0 7 (xla 0 [vR 0, vI w, vR 78]) [vI v, vI 0, vR 78] n1 f1 := by
    intro n1 f1 v S1 hr hn ha9
    obtain ⟨o, h78⟩ := ha9.2.2
    refine xw_nrm ?_
    refine xw_i2l dL_box_7 (nrm_in v) ?_
    refine xw_last dL_box_8 h78 (j := 0) rfl (by decide) (by decide) ?_
    refine xw_goto (tgt := 18) dL_box_9 (by decide) ?_
    refine xw_iconst dL_box_18 ?_
    exact xw_iret dL_box_19 rfl (hq n1 _ 0 v S1 hr hn (afC_78 ha9) (fun _ => ⟨_, xup_s _ _ _, xui_s _ _ _⟩) (Or.inl rfl))
  refine xw_aload_n dL_box_0 rfl ?_
  refine xw_iconst dL_box_1 ?_
  refine xw_aload_n dL_box_2 rfl ?_
  refine xw_iload_n dL_box_3 rfl ?_
  exact xw_callVC (rc := 0) (rs := 0) (mc2 := 3) (ms2 := 623) (As := [vI w]) (st := [vI 0, vR 78]) (a := 0) dL_box_4 mv_L_7 h00 rfl rfl (by decide) (by decide) (Nat.le_of_ble_eq_true rfl) rfl (ct_box hC hw (fun a b n1 f1 hn hC1 hk => tail n1 f1 _ _ (Or.inl ⟨a, b, rfl, rfl, rfl⟩) hn (LS_C h hC1 hk)) (fun a n9 hn9 => ⟨1, hd_box_IAE, hq n9 f 1 0 _ (Or.inr (Or.inl ⟨a, rfl, rfl⟩)) hn9 (LS_C0 h hn9) (fun e => absurd e (by decide)) (by omega)⟩) (fun a b n9 hn9 => ⟨2, hd_box_ISE (hX := hX), hq n9 f 2 0 _ (Or.inr (Or.inr ⟨a, b, rfl, rfl⟩)) hn9 (LS_C0 h hn9) (fun e => absurd e (by decide)) (by omega)⟩))
set_option maxHeartbeats 4000000 in
theorem wct_row {z w m : Int} (hX : okX g) (h : LSf n f (mkS bn β gn σ d as ps pb pu pr)) (hz : inI z) (hw : inI w) (hm : inI m) (hq : ∀ n1 f1 k v S1, rl_row bn β gn σ d as ps pb pu pr z w m k v S1 → n ≤ n1 → afC n1 f1 (mkS bn β gn σ d as ps pb pu pr) S1 → (k = 0 → ∃ o, f1 78 = some (aL 1 o) ∧ o 0 = nrm v) → (k = 0 ∨ k = 1 ∨ k = 2) → Q (.inl (some (vI k))) n1 f1) : xct g M_L_row 1 6 [vR 0, vI z, vI w, vI m, vR 78] n f Q := by
  refine xct_ofH rfl rfl (Nat.le_of_ble_eq_true rfl) ?_
  have hC : CS n f bn β gn σ d as ps pb pu pr := h.1
  obtain ⟨bo9, so9, tk9, rk9, h00, _⟩ := id hC
  have tail : ∀ (n1 : Nat) (f1 : xH) (v : Int) (S1 : LSt), rl_row bn β gn σ d as ps pb pu pr z w m 0 v S1 → n ≤ n1 → afC n1 f1 (mkS bn β gn σ d as ps pb pu pr) S1 → xw g M_L_row Q 0 0 10 (xla 0 [vR 0, vI z, vI w, vI m, vR 78]) [vI v, vI 0, vR 78] n1 f1 := by
    intro n1 f1 v S1 hr hn ha9
    obtain ⟨o, h78⟩ := ha9.2.2
    refine xw_nrm ?_
    refine xw_i2l dL_row_10 (nrm_in v) ?_
    refine xw_last dL_row_11 h78 (j := 0) rfl (by decide) (by decide) ?_
    refine xw_goto (tgt := 19) dL_row_12 (by decide) ?_
    refine xw_iconst dL_row_19 ?_
    exact xw_iret dL_row_20 rfl (hq n1 _ 0 v S1 hr hn (afC_78 ha9) (fun _ => ⟨_, xup_s _ _ _, xui_s _ _ _⟩) (Or.inl rfl))
  refine xw_aload dL_row_0 rfl ?_
  refine xw_iconst dL_row_2 ?_
  refine xw_aload_n dL_row_3 rfl ?_
  refine xw_iload_n dL_row_4 rfl ?_
  refine xw_iload_n dL_row_5 rfl ?_
  refine xw_iload_n dL_row_6 rfl ?_
  exact xw_callVC (rc := 0) (rs := 0) (mc2 := 1) (ms2 := 6) (As := [vI z, vI w, vI m]) (st := [vI 0, vR 78]) (a := 0) dL_row_7 mv_L_17 h00 rfl rfl (by decide) (by decide) (Nat.le_of_ble_eq_true rfl) rfl (ct_row hC hz hw hm (fun b kk e1 e2 h1 h2 h3 f1 hC1 hk => tail n f1 _ _ (Or.inl ⟨b, kk, e1, e2, h1, h2, rfl, Or.inl ⟨h3, rfl, rfl⟩⟩) (Nat.le_refl _) (LS_C h hC1 hk)) (fun b kk e1 e2 h1 h2 h3 => tail n f _ _ (Or.inl ⟨b, kk, e1, e2, h1, h2, rfl, Or.inr ⟨h3, rfl, rfl⟩⟩) (Nat.le_refl _) (LS_C0 h (Nat.le_refl _))) (fun a n9 hn9 => ⟨1, hd_row_IOB, hq n9 f 1 0 _ (Or.inr ⟨a, rfl, rfl⟩) hn9 (LS_C0 h hn9) (fun e => absurd e (by decide)) (by omega)⟩))
set_option maxHeartbeats 4000000 in
theorem wct_put {z w m x : Int} (hX : okX g) (h : LSf n f (mkS bn β gn σ d as ps pb pu pr)) (hz : inI z) (hw : inI w) (hm : inI m) (hx : inL x) (hq : ∀ n1 f1 k v S1, rl_put bn β gn σ d as ps pb pu pr z w m x k v S1 → n ≤ n1 → afC n1 f1 (mkS bn β gn σ d as ps pb pu pr) S1 → (k = 0 → ∃ o, f1 78 = some (aL 1 o) ∧ o 0 = nrm v) → (k = 0 ∨ k = 1 ∨ k = 2) → Q (.inl (some (vI k))) n1 f1) : xct g M_L_put 1 6 [vR 0, vI z, vI w, vI m, vL x, vR 78] n f Q := by
  refine xct_ofH rfl rfl (Nat.le_of_ble_eq_true rfl) ?_
  have hC : CS n f bn β gn σ d as ps pb pu pr := h.1
  obtain ⟨bo9, so9, tk9, rk9, h00, _⟩ := id hC
  have tail : ∀ (n1 : Nat) (f1 : xH) (v : Int) (S1 : LSt), rl_put bn β gn σ d as ps pb pu pr z w m x 0 v S1 → n ≤ n1 → afC n1 f1 (mkS bn β gn σ d as ps pb pu pr) S1 → xw g M_L_put Q 0 0 12 (xla 0 [vR 0, vI z, vI w, vI m, vL x, vR 78]) [vI v, vI 0, vR 78] n1 f1 := by
    intro n1 f1 v S1 hr hn ha9
    obtain ⟨o, h78⟩ := ha9.2.2
    refine xw_nrm ?_
    refine xw_i2l dL_put_12 (nrm_in v) ?_
    refine xw_last dL_put_13 h78 (j := 0) rfl (by decide) (by decide) ?_
    refine xw_goto (tgt := 21) dL_put_14 (by decide) ?_
    refine xw_iconst dL_put_21 ?_
    exact xw_iret dL_put_22 rfl (hq n1 _ 0 v S1 hr hn (afC_78 ha9) (fun _ => ⟨_, xup_s _ _ _, xui_s _ _ _⟩) (Or.inl rfl))
  refine xw_aload dL_put_0 rfl ?_
  refine xw_iconst dL_put_2 ?_
  refine xw_aload_n dL_put_3 rfl ?_
  refine xw_iload_n dL_put_4 rfl ?_
  refine xw_iload_n dL_put_5 rfl ?_
  refine xw_iload_n dL_put_6 rfl ?_
  refine xw_lload dL_put_7 rfl ?_
  exact xw_callVC (rc := 0) (rs := 0) (mc2 := 1) (ms2 := 6) (As := [vI z, vI w, vI m, vL x]) (st := [vI 0, vR 78]) (a := 0) dL_put_9 mv_L_23 h00 rfl rfl (by decide) (by decide) (Nat.le_of_ble_eq_true rfl) rfl (ct_put hC hz hw hm hx (fun b kk i e1 e2 e3 h1 h2 h3 f1 hC1 hk => tail n f1 _ _ (Or.inl ⟨b, kk, e1, e2, h1, h2, rfl, Or.inl ⟨i, e3, h3, rfl, rfl⟩⟩) (Nat.le_refl _) (LS_C h hC1 hk)) (fun b kk e1 e2 h1 h2 h3 => tail n f _ _ (Or.inl ⟨b, kk, e1, e2, h1, h2, rfl, Or.inr (Or.inl ⟨h3, rfl, rfl⟩)⟩) (Nat.le_refl _) (LS_C0 h (Nat.le_refl _))) (fun b kk e1 e2 h1 h2 h3 h4 => tail n f _ _ (Or.inl ⟨b, kk, e1, e2, h1, h2, rfl, Or.inr (Or.inr ⟨h3, h4, rfl, rfl⟩)⟩) (Nat.le_refl _) (LS_C0 h (Nat.le_refl _))) (fun a n9 hn9 => ⟨1, hd_put_IOB, hq n9 f 1 0 _ (Or.inr ⟨a, rfl, rfl⟩) hn9 (LS_C0 h hn9) (fun e => absurd e (by decide)) (by omega)⟩))
set_option maxHeartbeats 4000000 in
theorem wct_copy {z w x z2 w2 x2 m : Int} (hX : okX g) (h : LSf n f (mkS bn β gn σ d as ps pb pu pr)) (hz : inI z) (hw : inI w) (hx : inI x) (hz2 : inI z2) (hw2 : inI w2) (hx2 : inI x2) (hm : inI m) (hq : ∀ n1 f1 k v S1, rl_copy bn β gn σ d as ps pb pu pr z w x z2 w2 x2 m k v S1 → n ≤ n1 → afC n1 f1 (mkS bn β gn σ d as ps pb pu pr) S1 → (k = 0 → ∃ o, f1 78 = some (aL 1 o) ∧ o 0 = nrm v) → (k = 0 ∨ k = 1 ∨ k = 2) → Q (.inl (some (vI k))) n1 f1) : xct g M_L_copy 2 12 [vR 0, vI z, vI w, vI x, vI z2, vI w2, vI x2, vI m, vR 78] n f Q := by
  refine xct_ofH rfl rfl (Nat.le_of_ble_eq_true rfl) ?_
  have hC : CS n f bn β gn σ d as ps pb pu pr := h.1
  obtain ⟨bo9, so9, tk9, rk9, h00, _⟩ := id hC
  have tail : ∀ (n1 : Nat) (f1 : xH) (v : Int) (S1 : LSt), rl_copy bn β gn σ d as ps pb pu pr z w x z2 w2 x2 m 0 v S1 → n ≤ n1 → afC n1 f1 (mkS bn β gn σ d as ps pb pu pr) S1 → xw g M_L_copy Q 0 0 18 (xla 0 [vR 0, vI z, vI w, vI x, vI z2, vI w2, vI x2, vI m, vR 78]) [vI v, vI 0, vR 78] n1 f1 := by
    intro n1 f1 v S1 hr hn ha9
    obtain ⟨o, h78⟩ := ha9.2.2
    refine xw_nrm ?_
    refine xw_i2l dL_copy_18 (nrm_in v) ?_
    refine xw_last dL_copy_19 h78 (j := 0) rfl (by decide) (by decide) ?_
    refine xw_goto (tgt := 27) dL_copy_20 (by decide) ?_
    refine xw_iconst dL_copy_27 ?_
    exact xw_iret dL_copy_28 rfl (hq n1 _ 0 v S1 hr hn (afC_78 ha9) (fun _ => ⟨_, xup_s _ _ _, xui_s _ _ _⟩) (Or.inl rfl))
  refine xw_aload dL_copy_0 rfl ?_
  refine xw_iconst dL_copy_2 ?_
  refine xw_aload_n dL_copy_3 rfl ?_
  refine xw_iload_n dL_copy_4 rfl ?_
  refine xw_iload_n dL_copy_5 rfl ?_
  refine xw_iload_n dL_copy_6 rfl ?_
  refine xw_iload dL_copy_7 rfl ?_
  refine xw_iload dL_copy_9 rfl ?_
  refine xw_iload dL_copy_11 rfl ?_
  refine xw_iload dL_copy_13 rfl ?_
  exact xw_callVC (rc := 0) (rs := 0) (mc2 := 2) (ms2 := 12) (As := [vI z, vI w, vI x, vI z2, vI w2, vI x2, vI m]) (st := [vI 0, vR 78]) (a := 0) dL_copy_15 mv_L_27 h00 rfl rfl (by decide) (by decide) (Nat.le_of_ble_eq_true rfl) rfl (ct_copy hC hz hw hx hz2 hw2 hx2 hm (fun b kk b2 k2 e1 e2 e3 e4 h1 h2 h3 h4 => ⟨fun h5 => tail n f _ _ (Or.inl ⟨b, kk, b2, k2, e1, e2, e3, e4, h1, h2, h3, h4, rfl, Or.inl ⟨h5, rfl, rfl⟩⟩) (Nat.le_refl _) (LS_C0 h (Nat.le_refl _)), fun h5 h6 => tail n f _ _ (Or.inl ⟨b, kk, b2, k2, e1, e2, e3, e4, h1, h2, h3, h4, rfl, Or.inr (Or.inl ⟨h5, h6, rfl, rfl⟩)⟩) (Nat.le_refl _) (LS_C0 h (Nat.le_refl _)), fun h5 h6 h7 => tail n f _ _ (Or.inl ⟨b, kk, b2, k2, e1, e2, e3, e4, h1, h2, h3, h4, rfl, Or.inr (Or.inr (Or.inl ⟨h5, h6, h7, rfl, rfl⟩))⟩) (Nat.le_refl _) (LS_C0 h (Nat.le_refl _)), fun h5 i i2 c e5 e6 e7 h6 h7 h8 f1 hC1 hk => tail n f1 _ _ (Or.inl ⟨b, kk, b2, k2, e1, e2, e3, e4, h1, h2, h3, h4, rfl, Or.inr (Or.inr (Or.inr ⟨h5, i, i2, c, e5, e6, e7, h6, h7, h8, rfl, rfl⟩))⟩) (Nat.le_refl _) (LS_C h hC1 hk)⟩) (fun a n9 hn9 => ⟨1, hd_copy_IOB, hq n9 f 1 0 _ (Or.inr ⟨a, rfl, rfl⟩) hn9 (LS_C0 h hn9) (fun e => absurd e (by decide)) (by omega)⟩))
set_option maxHeartbeats 4000000 in
theorem wct_tear {z w : Int} (hX : okX g) (h : LSf n f (mkS bn β gn σ d as ps pb pu pr)) (hz : inI z) (hw : inI w) (hq : ∀ n1 f1 k v S1, rl_tear bn β gn σ d as ps pb pu pr z w k v S1 → n ≤ n1 → afC n1 f1 (mkS bn β gn σ d as ps pb pu pr) S1 → (k = 0 → ∃ o, f1 78 = some (aL 1 o) ∧ o 0 = nrm v) → (k = 0 ∨ k = 1 ∨ k = 2) → Q (.inl (some (vI k))) n1 f1) : xct g M_L_tear 1 6 [vR 0, vI z, vI w, vR 78] n f Q := by
  refine xct_ofH rfl rfl (Nat.le_of_ble_eq_true rfl) ?_
  have hC : CS n f bn β gn σ d as ps pb pu pr := h.1
  obtain ⟨bo9, so9, tk9, rk9, h00, _⟩ := id hC
  have tail : ∀ (n1 : Nat) (f1 : xH) (v : Int) (S1 : LSt), rl_tear bn β gn σ d as ps pb pu pr z w 0 v S1 → n ≤ n1 → afC n1 f1 (mkS bn β gn σ d as ps pb pu pr) S1 → xw g M_L_tear Q 0 0 8 (xla 0 [vR 0, vI z, vI w, vR 78]) [vI v, vI 0, vR 78] n1 f1 := by
    intro n1 f1 v S1 hr hn ha9
    obtain ⟨o, h78⟩ := ha9.2.2
    refine xw_nrm ?_
    refine xw_i2l dL_tear_8 (nrm_in v) ?_
    refine xw_last dL_tear_9 h78 (j := 0) rfl (by decide) (by decide) ?_
    refine xw_goto (tgt := 17) dL_tear_10 (by decide) ?_
    refine xw_iconst dL_tear_17 ?_
    exact xw_iret dL_tear_18 rfl (hq n1 _ 0 v S1 hr hn (afC_78 ha9) (fun _ => ⟨_, xup_s _ _ _, xui_s _ _ _⟩) (Or.inl rfl))
  refine xw_aload_n dL_tear_0 rfl ?_
  refine xw_iconst dL_tear_1 ?_
  refine xw_aload_n dL_tear_2 rfl ?_
  refine xw_iload_n dL_tear_3 rfl ?_
  refine xw_iload_n dL_tear_4 rfl ?_
  exact xw_callVC (rc := 0) (rs := 0) (mc2 := 1) (ms2 := 6) (As := [vI z, vI w]) (st := [vI 0, vR 78]) (a := 0) dL_tear_5 mv_L_31 h00 rfl rfl (by decide) (by decide) (Nat.le_of_ble_eq_true rfl) rfl (ct_tear hC hz hw (fun b kk e1 e2 h1 h2 f1 hC1 hk => tail n f1 _ _ (Or.inl ⟨b, kk, e1, e2, h1, h2, rfl, rfl, rfl⟩) (Nat.le_refl _) (LS_C h hC1 hk)) (fun a n9 hn9 => ⟨1, hd_tear_IOB, hq n9 f 1 0 _ (Or.inr ⟨a, rfl, rfl⟩) hn9 (LS_C0 h hn9) (fun e => absurd e (by decide)) (by omega)⟩))
set_option maxHeartbeats 4000000 in
theorem wct_lay {kd z w mk wo : Int} (hX : okX g) (h : LSf n f (mkS bn β gn σ d as ps pb pu pr)) (hkd : inI kd) (hz : inI z) (hw : inI w) (hmk : inI mk) (hwo : inI wo) (hq : ∀ n1 f1 k v S1, rl_lay bn β gn σ d as ps pb pu pr kd z w mk wo k v S1 → n ≤ n1 → afC n1 f1 (mkS bn β gn σ d as ps pb pu pr) S1 → (k = 0 → ∃ o, f1 78 = some (aL 1 o) ∧ o 0 = nrm v) → (k = 0 ∨ k = 1 ∨ k = 2) → Q (.inl (some (vI k))) n1 f1) : xct g M_L_lay 6 30 [vR 0, vI kd, vI z, vI w, vI mk, vI wo, vR 78] n f Q := by
  refine xct_ofH rfl rfl (Nat.le_of_ble_eq_true rfl) ?_
  have hC : CS n f bn β gn σ d as ps pb pu pr := h.1
  obtain ⟨bo9, so9, tk9, rk9, h00, _⟩ := id hC
  have tail : ∀ (n1 : Nat) (f1 : xH) (v : Int) (S1 : LSt), rl_lay bn β gn σ d as ps pb pu pr kd z w mk wo 0 v S1 → n ≤ n1 → afC n1 f1 (mkS bn β gn σ d as ps pb pu pr) S1 → xw g M_L_lay Q 0 0 14 (xla 0 [vR 0, vI kd, vI z, vI w, vI mk, vI wo, vR 78]) [vI v, vI 0, vR 78] n1 f1 := by
    intro n1 f1 v S1 hr hn ha9
    obtain ⟨o, h78⟩ := ha9.2.2
    refine xw_nrm ?_
    refine xw_i2l dL_lay_14 (nrm_in v) ?_
    refine xw_last dL_lay_15 h78 (j := 0) rfl (by decide) (by decide) ?_
    refine xw_goto (tgt := 27) dL_lay_16 (by decide) ?_
    refine xw_iconst dL_lay_27 ?_
    exact xw_iret dL_lay_28 rfl (hq n1 _ 0 v S1 hr hn (afC_78 ha9) (fun _ => ⟨_, xup_s _ _ _, xui_s _ _ _⟩) (Or.inl rfl))
  refine xw_aload dL_lay_0 rfl ?_
  refine xw_iconst dL_lay_2 ?_
  refine xw_aload_n dL_lay_3 rfl ?_
  refine xw_iload_n dL_lay_4 rfl ?_
  refine xw_iload_n dL_lay_5 rfl ?_
  refine xw_iload_n dL_lay_6 rfl ?_
  refine xw_iload dL_lay_7 rfl ?_
  refine xw_iload dL_lay_9 rfl ?_
  exact xw_callVC (rc := 0) (rs := 0) (mc2 := 6) (ms2 := 30) (As := [vI kd, vI z, vI w, vI mk, vI wo]) (st := [vI 0, vR 78]) (a := 0) dL_lay_11 mv_L_35 h00 rfl rfl (by decide) (by decide) (Nat.le_of_ble_eq_true rfl) rfl (ct_lay hC hkd hz hw hmk hwo (fun b kk r n1 f1 e1 e2 h1 h2 h3 h4 hn hC1 hk => tail n1 f1 _ _ (Or.inl ⟨b, kk, e1, e2, h1, h2, h3, rfl, Or.inl ⟨h4, rfl⟩⟩) hn (LS_C h hC1 hk)) (fun b kk n1 f1 e1 e2 h1 h2 h3 h4 hn hC1 hk => tail n1 f1 _ _ (Or.inl ⟨b, kk, e1, e2, h1, h2, h3, rfl, Or.inr ⟨h4, rfl, rfl⟩⟩) hn (LS_C h hC1 hk)) (fun a n9 hn9 => ⟨1, hd_lay_IOB, hq n9 f 1 0 _ (Or.inr (Or.inl ⟨a, rfl, rfl⟩)) hn9 (LS_C0 h hn9) (fun e => absurd e (by decide)) (by omega)⟩) (fun a b n9 hn9 => ⟨2, hd_lay_IAE (hX := hX), hq n9 f 2 0 _ (Or.inr (Or.inr ⟨a, b, rfl, rfl⟩)) hn9 (LS_C0 h hn9) (fun e => absurd e (by decide)) (by omega)⟩))
set_option maxHeartbeats 4000000 in
theorem wct_move {z x y9 w : Int} (hX : okX g) (h : LSf n f (mkS bn β gn σ d as ps pb pu pr)) (hz : inI z) (hx : inI x) (hy9 : inI y9) (hw : inI w) (hq : ∀ n1 f1 k v S1, rl_move bn β gn σ d as ps pb pu pr z x y9 w k v S1 → n ≤ n1 → afC n1 f1 (mkS bn β gn σ d as ps pb pu pr) S1 → (k = 0 → ∃ o, f1 78 = some (aL 1 o) ∧ o 0 = nrm v) → (k = 0 ∨ k = 1 ∨ k = 2) → Q (.inl (some (vI k))) n1 f1) : xct g M_L_move 1 6 [vR 0, vI z, vI x, vI y9, vI w, vR 78] n f Q := by
  refine xct_ofH rfl rfl (Nat.le_of_ble_eq_true rfl) ?_
  have hC : CS n f bn β gn σ d as ps pb pu pr := h.1
  obtain ⟨bo9, so9, tk9, rk9, h00, _⟩ := id hC
  have tail : ∀ (n1 : Nat) (f1 : xH) (v : Int) (S1 : LSt), rl_move bn β gn σ d as ps pb pu pr z x y9 w 0 v S1 → n ≤ n1 → afC n1 f1 (mkS bn β gn σ d as ps pb pu pr) S1 → xw g M_L_move Q 0 0 12 (xla 0 [vR 0, vI z, vI x, vI y9, vI w, vR 78]) [vI v, vI 0, vR 78] n1 f1 := by
    intro n1 f1 v S1 hr hn ha9
    obtain ⟨o, h78⟩ := ha9.2.2
    refine xw_nrm ?_
    refine xw_i2l dL_move_12 (nrm_in v) ?_
    refine xw_last dL_move_13 h78 (j := 0) rfl (by decide) (by decide) ?_
    refine xw_goto (tgt := 21) dL_move_14 (by decide) ?_
    refine xw_iconst dL_move_21 ?_
    exact xw_iret dL_move_22 rfl (hq n1 _ 0 v S1 hr hn (afC_78 ha9) (fun _ => ⟨_, xup_s _ _ _, xui_s _ _ _⟩) (Or.inl rfl))
  refine xw_aload dL_move_0 rfl ?_
  refine xw_iconst dL_move_2 ?_
  refine xw_aload_n dL_move_3 rfl ?_
  refine xw_iload_n dL_move_4 rfl ?_
  refine xw_iload_n dL_move_5 rfl ?_
  refine xw_iload_n dL_move_6 rfl ?_
  refine xw_iload dL_move_7 rfl ?_
  exact xw_callVC (rc := 0) (rs := 0) (mc2 := 1) (ms2 := 6) (As := [vI z, vI x, vI y9, vI w]) (st := [vI 0, vR 78]) (a := 0) dL_move_9 mv_L_39 h00 rfl rfl (by decide) (by decide) (Nat.le_of_ble_eq_true rfl) rfl (ct_move hC hz hx hy9 hw (fun s e1 h1 h2 h3 => tail n f _ _ (Or.inl ⟨s, e1, h1, h2, rfl, Or.inl ⟨h3, rfl, rfl⟩⟩) (Nat.le_refl _) (LS_C0 h (Nat.le_refl _))) (fun s r f1 e1 h1 h2 h3 h4 h5 hC1 hk => tail n f1 _ _ (Or.inl ⟨s, e1, h1, h2, rfl, Or.inr (Or.inl ⟨h3, r, h4, h5, rfl, rfl⟩)⟩) (Nat.le_refl _) (LS_C h hC1 hk)) (fun s f1 e1 h1 h2 h3 h4 hC1 hk => tail n f1 _ _ (Or.inl ⟨s, e1, h1, h2, rfl, Or.inr (Or.inr ⟨h3, h4, rfl, rfl⟩)⟩) (Nat.le_refl _) (LS_C h hC1 hk)) (fun a n9 hn9 => ⟨1, hd_move_NSE, hq n9 f 1 0 _ (Or.inr ⟨a, rfl, rfl⟩) hn9 (LS_C0 h hn9) (fun e => absurd e (by decide)) (by omega)⟩))
set_option maxHeartbeats 4000000 in
theorem wct_away {z : Int} (hX : okX g) (h : LSf n f (mkS bn β gn σ d as ps pb pu pr)) (hz : inI z) (hq : ∀ n1 f1 k v S1, rl_away bn β gn σ d as ps pb pu pr z k v S1 → n ≤ n1 → afC n1 f1 (mkS bn β gn σ d as ps pb pu pr) S1 → (k = 0 → ∃ o, f1 78 = some (aL 1 o) ∧ o 0 = nrm v) → (k = 0 ∨ k = 1 ∨ k = 2) → Q (.inl (some (vI k))) n1 f1) : xct g M_L_away 1 6 [vR 0, vI z, vR 78] n f Q := by
  refine xct_ofH rfl rfl (Nat.le_of_ble_eq_true rfl) ?_
  have hC : CS n f bn β gn σ d as ps pb pu pr := h.1
  obtain ⟨bo9, so9, tk9, rk9, h00, _⟩ := id hC
  have tail : ∀ (n1 : Nat) (f1 : xH) (v : Int) (S1 : LSt), rl_away bn β gn σ d as ps pb pu pr z 0 v S1 → n ≤ n1 → afC n1 f1 (mkS bn β gn σ d as ps pb pu pr) S1 → xw g M_L_away Q 0 0 7 (xla 0 [vR 0, vI z, vR 78]) [vI v, vI 0, vR 78] n1 f1 := by
    intro n1 f1 v S1 hr hn ha9
    obtain ⟨o, h78⟩ := ha9.2.2
    refine xw_nrm ?_
    refine xw_i2l dL_away_7 (nrm_in v) ?_
    refine xw_last dL_away_8 h78 (j := 0) rfl (by decide) (by decide) ?_
    refine xw_goto (tgt := 15) dL_away_9 (by decide) ?_
    refine xw_iconst dL_away_15 ?_
    exact xw_iret dL_away_16 rfl (hq n1 _ 0 v S1 hr hn (afC_78 ha9) (fun _ => ⟨_, xup_s _ _ _, xui_s _ _ _⟩) (Or.inl rfl))
  refine xw_aload_n dL_away_0 rfl ?_
  refine xw_iconst dL_away_1 ?_
  refine xw_aload_n dL_away_2 rfl ?_
  refine xw_iload_n dL_away_3 rfl ?_
  exact xw_callVC (rc := 0) (rs := 0) (mc2 := 1) (ms2 := 6) (As := [vI z]) (st := [vI 0, vR 78]) (a := 0) dL_away_4 mv_L_45 h00 rfl rfl (by decide) (by decide) (Nat.le_of_ble_eq_true rfl) rfl (ct_away hC hz (fun s f1 e1 h1 h2 hC1 hk => tail n f1 _ _ (Or.inl ⟨s, e1, h1, h2, rfl, rfl, rfl⟩) (Nat.le_refl _) (LS_C h hC1 hk)) (fun a n9 hn9 => ⟨1, hd_away_NSE, hq n9 f 1 0 _ (Or.inr ⟨a, rfl, rfl⟩) hn9 (LS_C0 h hn9) (fun e => absurd e (by decide)) (by omega)⟩))
set_option maxHeartbeats 4000000 in
theorem wct_lift {z : Int} (hX : okX g) (h : LSf n f (mkS bn β gn σ d as ps pb pu pr)) (hz : inI z) (hq : ∀ n1 f1 k v S1, rl_lift bn β gn σ d as ps pb pu pr z k v S1 → n ≤ n1 → afC n1 f1 (mkS bn β gn σ d as ps pb pu pr) S1 → (k = 0 → ∃ o, f1 78 = some (aL 1 o) ∧ o 0 = nrm v) → (k = 0 ∨ k = 1 ∨ k = 2) → Q (.inl (some (vI k))) n1 f1) : xct g M_L_lift 1 6 [vR 0, vI z, vR 78] n f Q := by
  refine xct_ofH rfl rfl (Nat.le_of_ble_eq_true rfl) ?_
  have hC : CS n f bn β gn σ d as ps pb pu pr := h.1
  obtain ⟨bo9, so9, tk9, rk9, h00, _⟩ := id hC
  have tail : ∀ (n1 : Nat) (f1 : xH) (v : Int) (S1 : LSt), (v = 0 ∨ v = 1) → rl_lift bn β gn σ d as ps pb pu pr z 0 v S1 → n ≤ n1 → afC n1 f1 (mkS bn β gn σ d as ps pb pu pr) S1 → xw g M_L_lift Q 0 0 7 (xla 0 [vR 0, vI z, vR 78]) [vI v, vI 0, vR 78] n1 f1 := by
    intro n1 f1 v S1 hv hr hn ha9
    obtain ⟨o, h78⟩ := ha9.2.2
    have hnv : nrm v = v := by rcases hv with rfl | rfl <;> decide
    refine xw_ifeq (tgt := 14) dL_lift_7 (by decide) (by unfold inI; omega) (fun c_7 => ?_) (fun c_7 => ?_)
    · skip
      refine xw_lconst (z := 0) dL_lift_14 (by decide) ?_
      refine xw_topl v (by omega) ?_
      refine xw_last dL_lift_15 h78 (j := 0) rfl (by decide) (by decide) ?_
      refine xw_goto (tgt := 22) dL_lift_16 (by decide) ?_
      refine xw_iconst dL_lift_22 ?_
      exact xw_iret dL_lift_23 rfl (hq n1 _ 0 v S1 hr hn (afC_78 ha9) (fun _ => ⟨_, xup_s _ _ _, (xui_s _ _ _).trans hnv.symm⟩) (Or.inl rfl))
    · skip
      refine xw_lconst (z := 1) dL_lift_10 (by decide) ?_
      refine xw_goto (tgt := 15) dL_lift_11 (by decide) ?_
      refine xw_topl v (by omega) ?_
      refine xw_last dL_lift_15 h78 (j := 0) rfl (by decide) (by decide) ?_
      refine xw_goto (tgt := 22) dL_lift_16 (by decide) ?_
      refine xw_iconst dL_lift_22 ?_
      exact xw_iret dL_lift_23 rfl (hq n1 _ 0 v S1 hr hn (afC_78 ha9) (fun _ => ⟨_, xup_s _ _ _, (xui_s _ _ _).trans hnv.symm⟩) (Or.inl rfl))
  refine xw_aload_n dL_lift_0 rfl ?_
  refine xw_iconst dL_lift_1 ?_
  refine xw_aload_n dL_lift_2 rfl ?_
  refine xw_iload_n dL_lift_3 rfl ?_
  exact xw_callVC (rc := 0) (rs := 0) (mc2 := 1) (ms2 := 6) (As := [vI z]) (st := [vI 0, vR 78]) (a := 0) dL_lift_4 mv_L_48 h00 rfl rfl (by decide) (by decide) (Nat.le_of_ble_eq_true rfl) rfl (ct_lift hC hz (fun s f1 e1 h1 h2 hC1 hk h3 => tail n f1 _ _ (Or.inr rfl) (Or.inl ⟨s, e1, h1, h2, rfl, Or.inl ⟨rfl, h3, rfl⟩⟩) (Nat.le_refl _) (LS_C h hC1 hk)) (fun s f1 e1 h1 h2 hC1 hk h3 => tail n f1 _ _ (Or.inl rfl) (Or.inl ⟨s, e1, h1, h2, rfl, Or.inr ⟨rfl, h3, rfl⟩⟩) (Nat.le_refl _) (LS_C h hC1 hk)) (fun a n9 hn9 => ⟨1, hd_lift_NSE, hq n9 f 1 0 _ (Or.inr ⟨a, rfl, rfl⟩) hn9 (LS_C0 h hn9) (fun e => absurd e (by decide)) (by omega)⟩))
set_option maxHeartbeats 4000000 in
theorem wct_turn {a b c : Int} (hX : okX g) (h : LSf n f (mkS bn β gn σ d as ps pb pu pr)) (ha : inI a) (hb : inI b) (hc : inI c) (hq : ∀ n1 f1 k v S1, rl_turn bn β gn σ d as ps pb pu pr a b c k v S1 → n ≤ n1 → afC n1 f1 (mkS bn β gn σ d as ps pb pu pr) S1 → (k = 0 → ∃ o, f1 78 = some (aL 1 o) ∧ True) → (k = 0 ∨ k = 1 ∨ k = 2) → Q (.inl (some (vI k))) n1 f1) : xct g M_L_turn 1 6 [vR 0, vI a, vI b, vI c] n f Q := by
  refine xct_ofH rfl rfl (Nat.le_of_ble_eq_true rfl) ?_
  have hC : CS n f bn β gn σ d as ps pb pu pr := h.1
  obtain ⟨bo9, so9, tk9, rk9, h00, _⟩ := id hC
  have tail : ∀ (n1 : Nat) (f1 : xH) (v : Int) (S1 : LSt), rl_turn bn β gn σ d as ps pb pu pr a b c 0 v S1 → n ≤ n1 → afC n1 f1 (mkS bn β gn σ d as ps pb pu pr) S1 → xw g M_L_turn Q 0 0 7 (xla 0 [vR 0, vI a, vI b, vI c]) [] n1 f1 := by
    intro n1 f1 v S1 hr hn ha9
    obtain ⟨o, h78⟩ := ha9.2.2
    refine xw_goto (tgt := 14) dL_turn_7 (by decide) ?_
    refine xw_iconst dL_turn_14 ?_
    exact xw_iret dL_turn_15 rfl (hq n1 _ 0 v S1 hr hn ha9 (fun _ => ⟨o, h78, trivial⟩) (Or.inl rfl))
  refine xw_aload_n dL_turn_0 rfl ?_
  refine xw_iload_n dL_turn_1 rfl ?_
  refine xw_iload_n dL_turn_2 rfl ?_
  refine xw_iload_n dL_turn_3 rfl ?_
  exact xw_callVC (rc := 0) (rs := 0) (mc2 := 1) (ms2 := 6) (As := [vI a, vI b, vI c]) (st := []) (a := 0) dL_turn_4 mv_L_52 h00 rfl rfl (by decide) (by decide) (Nat.le_of_ble_eq_true rfl) rfl (ct_turn hC ha hb hc (fun h1 h2 f1 hC1 hk => tail n f1 0 _ (Or.inl ⟨h1, h2, rfl, rfl⟩) (Nat.le_refl _) (LS_C h hC1 hk)) (fun a n9 hn9 => ⟨1, hd_turn_IAE, hq n9 f 1 0 _ (Or.inr ⟨a, rfl, rfl⟩) hn9 (LS_C0 h hn9) (fun e => absurd e (by decide)) (by omega)⟩))
set_option maxHeartbeats 4000000 in
theorem wct_told {z w : Int} (hX : okX g) (h : LSf n f (mkS bn β gn σ d as ps pb pu pr)) (hz : inI z) (hw : inI w) (hq : ∀ n1 f1 k v S1, rl_told bn β gn σ d as ps pb pu pr z w k v S1 → n ≤ n1 → afC n1 f1 (mkS bn β gn σ d as ps pb pu pr) S1 → (k = 0 → ∃ o, f1 78 = some (aL 1 o) ∧ o 0 = nrm v) → (k = 0 ∨ k = 1 ∨ k = 2) → Q (.inl (some (vI k))) n1 f1) : xct g M_L_told 2 12 [vR 0, vI z, vI w, vR 78] n f Q := by
  refine xct_ofH rfl rfl (Nat.le_of_ble_eq_true rfl) ?_
  have hC : CS n f bn β gn σ d as ps pb pu pr := h.1
  obtain ⟨bo9, so9, tk9, rk9, h00, _⟩ := id hC
  have tail : ∀ (n1 : Nat) (f1 : xH) (v : Int) (S1 : LSt), rl_told bn β gn σ d as ps pb pu pr z w 0 v S1 → n ≤ n1 → afC n1 f1 (mkS bn β gn σ d as ps pb pu pr) S1 → xw g M_L_told Q 0 0 8 (xla 0 [vR 0, vI z, vI w, vR 78]) [vI v, vI 0, vR 78] n1 f1 := by
    intro n1 f1 v S1 hr hn ha9
    obtain ⟨o, h78⟩ := ha9.2.2
    refine xw_nrm ?_
    refine xw_i2l dL_told_8 (nrm_in v) ?_
    refine xw_last dL_told_9 h78 (j := 0) rfl (by decide) (by decide) ?_
    refine xw_goto (tgt := 21) dL_told_10 (by decide) ?_
    refine xw_iconst dL_told_21 ?_
    exact xw_iret dL_told_22 rfl (hq n1 _ 0 v S1 hr hn (afC_78 ha9) (fun _ => ⟨_, xup_s _ _ _, xui_s _ _ _⟩) (Or.inl rfl))
  refine xw_aload_n dL_told_0 rfl ?_
  refine xw_iconst dL_told_1 ?_
  refine xw_aload_n dL_told_2 rfl ?_
  refine xw_iload_n dL_told_3 rfl ?_
  refine xw_iload_n dL_told_4 rfl ?_
  exact xw_callVC (rc := 0) (rs := 0) (mc2 := 2) (ms2 := 12) (As := [vI z, vI w]) (st := [vI 0, vR 78]) (a := 0) dL_told_5 mv_L_56 h00 rfl rfl (by decide) (by decide) (Nat.le_of_ble_eq_true rfl) rfl (ct_told hC hz hw (fun s r e1 h1 h2 h3 => tail n f _ _ (Or.inl ⟨s, e1, h1, h2, Or.inl ⟨rfl, h3⟩, rfl⟩) (Nat.le_refl _) (LS_C0 h (Nat.le_refl _))) (fun a n9 hn9 => ⟨1, hd_told_NSE, hq n9 f 1 0 _ (Or.inr ⟨a, rfl, rfl⟩) hn9 (LS_C0 h hn9) (fun e => absurd e (by decide)) (by omega)⟩) (fun s e1 h1 h2 a n9 hn9 => ⟨2, hd_told_IAE (hX := hX), hq n9 f 2 0 _ (Or.inl ⟨s, e1, h1, h2, Or.inr ⟨rfl, a⟩, rfl⟩) hn9 (LS_C0 h hn9) (fun e => absurd e (by decide)) (by omega)⟩))
set_option maxHeartbeats 4000000 in
theorem wct_bars {z z2 : Int} (hX : okX g) (h : LSf n f (mkS bn β gn σ d as ps pb pu pr)) (hz : inI z) (hz2 : inI z2) (hq : ∀ n1 f1 k v S1, rl_bars bn β gn σ d as ps pb pu pr z z2 k v S1 → n ≤ n1 → afC n1 f1 (mkS bn β gn σ d as ps pb pu pr) S1 → (k = 0 → ∃ o, f1 78 = some (aL 1 o) ∧ o 0 = nrm v) → (k = 0 ∨ k = 1 ∨ k = 2) → Q (.inl (some (vI k))) n1 f1) : xct g M_L_bars 2 12 [vR 0, vI z, vI z2, vR 78] n f Q := by
  refine xct_ofH rfl rfl (Nat.le_of_ble_eq_true rfl) ?_
  have hC : CS n f bn β gn σ d as ps pb pu pr := h.1
  obtain ⟨bo9, so9, tk9, rk9, h00, _⟩ := id hC
  have tail : ∀ (n1 : Nat) (f1 : xH) (v : Int) (S1 : LSt), (v = 0 ∨ v = 1) → rl_bars bn β gn σ d as ps pb pu pr z z2 0 v S1 → n ≤ n1 → afC n1 f1 (mkS bn β gn σ d as ps pb pu pr) S1 → xw g M_L_bars Q 0 0 8 (xla 0 [vR 0, vI z, vI z2, vR 78]) [vI v, vI 0, vR 78] n1 f1 := by
    intro n1 f1 v S1 hv hr hn ha9
    obtain ⟨o, h78⟩ := ha9.2.2
    have hnv : nrm v = v := by rcases hv with rfl | rfl <;> decide
    refine xw_ifeq (tgt := 15) dL_bars_8 (by decide) (by unfold inI; omega) (fun c_8 => ?_) (fun c_8 => ?_)
    · skip
      refine xw_lconst (z := 0) dL_bars_15 (by decide) ?_
      refine xw_topl v (by omega) ?_
      refine xw_last dL_bars_16 h78 (j := 0) rfl (by decide) (by decide) ?_
      refine xw_goto (tgt := 24) dL_bars_17 (by decide) ?_
      refine xw_iconst dL_bars_24 ?_
      exact xw_iret dL_bars_25 rfl (hq n1 _ 0 v S1 hr hn (afC_78 ha9) (fun _ => ⟨_, xup_s _ _ _, (xui_s _ _ _).trans hnv.symm⟩) (Or.inl rfl))
    · skip
      refine xw_lconst (z := 1) dL_bars_11 (by decide) ?_
      refine xw_goto (tgt := 16) dL_bars_12 (by decide) ?_
      refine xw_topl v (by omega) ?_
      refine xw_last dL_bars_16 h78 (j := 0) rfl (by decide) (by decide) ?_
      refine xw_goto (tgt := 24) dL_bars_17 (by decide) ?_
      refine xw_iconst dL_bars_24 ?_
      exact xw_iret dL_bars_25 rfl (hq n1 _ 0 v S1 hr hn (afC_78 ha9) (fun _ => ⟨_, xup_s _ _ _, (xui_s _ _ _).trans hnv.symm⟩) (Or.inl rfl))
  refine xw_aload_n dL_bars_0 rfl ?_
  refine xw_iconst dL_bars_1 ?_
  refine xw_aload_n dL_bars_2 rfl ?_
  refine xw_iload_n dL_bars_3 rfl ?_
  refine xw_iload_n dL_bars_4 rfl ?_
  exact xw_callVC (rc := 0) (rs := 0) (mc2 := 2) (ms2 := 12) (As := [vI z, vI z2]) (st := [vI 0, vR 78]) (a := 0) dL_bars_5 mv_L_59 h00 rfl rfl (by decide) (by decide) (Nat.le_of_ble_eq_true rfl) rfl (ct_bars hC hz hz2 (fun s t f1 r e1 e2 h1 h2 h3 h4 hC1 hk h5 => tail n f1 _ _ (by obtain ⟨_, _, _, _, _, _, _, _, _, _, _, _, _, q⟩ := h5; rw [q]; split <;> omega) (Or.inl ⟨s, t, e1, e2, h1, h2, h3, h4, rfl, h5, rfl⟩) (Nat.le_refl _) (LS_C h hC1 hk)) (fun a n9 hn9 => ⟨1, hd_bars_NSE, hq n9 f 1 0 _ (Or.inr ⟨a, rfl, rfl⟩) hn9 (LS_C0 h hn9) (fun e => absurd e (by decide)) (by omega)⟩))
set_option maxHeartbeats 4000000 in
theorem wct_crossings {z : Int} (hX : okX g) (h : LSf n f (mkS bn β gn σ d as ps pb pu pr)) (hz : inI z) (hq : ∀ n1 f1 k v S1, rl_crossings bn β gn σ d as ps pb pu pr z k v S1 → n ≤ n1 → afC n1 f1 (mkS bn β gn σ d as ps pb pu pr) S1 → (k = 0 → ∃ o, f1 78 = some (aL 1 o) ∧ o 0 = nrm v) → (k = 0 ∨ k = 1 ∨ k = 2) → Q (.inl (some (vI k))) n1 f1) : xct g M_L_crossings 401 2806 [vR 0, vI z, vR 78] n f Q := by
  refine xct_ofH rfl rfl (Nat.le_of_ble_eq_true rfl) ?_
  have hC : CS n f bn β gn σ d as ps pb pu pr := h.1
  obtain ⟨bo9, so9, tk9, rk9, h00, _⟩ := id hC
  have tail : ∀ (n1 : Nat) (f1 : xH) (v : Int) (S1 : LSt), rl_crossings bn β gn σ d as ps pb pu pr z 0 v S1 → n ≤ n1 → afC n1 f1 (mkS bn β gn σ d as ps pb pu pr) S1 → xw g M_L_crossings Q 0 0 7 (xla 0 [vR 0, vI z, vR 78]) [vI v, vI 0, vR 78] n1 f1 := by
    intro n1 f1 v S1 hr hn ha9
    obtain ⟨o, h78⟩ := ha9.2.2
    refine xw_nrm ?_
    refine xw_i2l dL_crossings_7 (nrm_in v) ?_
    refine xw_last dL_crossings_8 h78 (j := 0) rfl (by decide) (by decide) ?_
    refine xw_goto (tgt := 15) dL_crossings_9 (by decide) ?_
    refine xw_iconst dL_crossings_15 ?_
    exact xw_iret dL_crossings_16 rfl (hq n1 _ 0 v S1 hr hn (afC_78 ha9) (fun _ => ⟨_, xup_s _ _ _, xui_s _ _ _⟩) (Or.inl rfl))
  refine xw_aload_n dL_crossings_0 rfl ?_
  refine xw_iconst dL_crossings_1 ?_
  refine xw_aload_n dL_crossings_2 rfl ?_
  refine xw_iload_n dL_crossings_3 rfl ?_
  exact xw_callVC (rc := 0) (rs := 0) (mc2 := 401) (ms2 := 2806) (As := [vI z]) (st := [vI 0, vR 78]) (a := 0) dL_crossings_4 mv_L_63 h00 rfl rfl (by decide) (by decide) (Nat.le_of_ble_eq_true rfl) rfl (ct_crossings hC hz (fun s n1 f1 r e1 h1 h2 hn hC1 hk h3 => tail n1 f1 _ _ (Or.inl ⟨s, e1, h1, h2, rfl, h3, rfl⟩) hn (LS_C h hC1 hk)) (fun a n9 hn9 => ⟨1, hd_crossings_NSE, hq n9 f 1 0 _ (Or.inr ⟨a, rfl, rfl⟩) hn9 (LS_C0 h hn9) (fun e => absurd e (by decide)) (by omega)⟩))
set_option maxHeartbeats 4000000 in
theorem wct_crossing {z k9 w : Int} (hX : okX g) (h : LSf n f (mkS bn β gn σ d as ps pb pu pr)) (hz : inI z) (hk9 : inI k9) (hw : inI w) (hq : ∀ n1 f1 k v S1, rl_crossing bn β gn σ d as ps pb pu pr z k9 w k v S1 → n ≤ n1 → afC n1 f1 (mkS bn β gn σ d as ps pb pu pr) S1 → (k = 0 → ∃ o, f1 78 = some (aL 1 o) ∧ o 0 = nrm v) → (k = 0 ∨ k = 1 ∨ k = 2) → Q (.inl (some (vI k))) n1 f1) : xct g M_L_crossing 401 2806 [vR 0, vI z, vI k9, vI w, vR 78] n f Q := by
  refine xct_ofH rfl rfl (Nat.le_of_ble_eq_true rfl) ?_
  have hC : CS n f bn β gn σ d as ps pb pu pr := h.1
  obtain ⟨bo9, so9, tk9, rk9, h00, _⟩ := id hC
  have tail : ∀ (n1 : Nat) (f1 : xH) (v : Int) (S1 : LSt), rl_crossing bn β gn σ d as ps pb pu pr z k9 w 0 v S1 → n ≤ n1 → afC n1 f1 (mkS bn β gn σ d as ps pb pu pr) S1 → xw g M_L_crossing Q 0 0 10 (xla 0 [vR 0, vI z, vI k9, vI w, vR 78]) [vI v, vI 0, vR 78] n1 f1 := by
    intro n1 f1 v S1 hr hn ha9
    obtain ⟨o, h78⟩ := ha9.2.2
    refine xw_nrm ?_
    refine xw_i2l dL_crossing_10 (nrm_in v) ?_
    refine xw_last dL_crossing_11 h78 (j := 0) rfl (by decide) (by decide) ?_
    refine xw_goto (tgt := 19) dL_crossing_12 (by decide) ?_
    refine xw_iconst dL_crossing_19 ?_
    exact xw_iret dL_crossing_20 rfl (hq n1 _ 0 v S1 hr hn (afC_78 ha9) (fun _ => ⟨_, xup_s _ _ _, xui_s _ _ _⟩) (Or.inl rfl))
  refine xw_aload dL_crossing_0 rfl ?_
  refine xw_iconst dL_crossing_2 ?_
  refine xw_aload_n dL_crossing_3 rfl ?_
  refine xw_iload_n dL_crossing_4 rfl ?_
  refine xw_iload_n dL_crossing_5 rfl ?_
  refine xw_iload_n dL_crossing_6 rfl ?_
  exact xw_callVC (rc := 0) (rs := 0) (mc2 := 401) (ms2 := 2806) (As := [vI z, vI k9, vI w]) (st := [vI 0, vR 78]) (a := 0) dL_crossing_7 mv_L_66 h00 rfl rfl (by decide) (by decide) (Nat.le_of_ble_eq_true rfl) rfl (ct_crossing hC hz hk9 hw (fun s n1 f1 r e1 h1 h2 hn hC1 hk h3 => tail n1 f1 _ _ (Or.inl ⟨s, e1, h1, h2, rfl, h3, rfl⟩) hn (LS_C h hC1 hk)) (fun a n9 hn9 => ⟨1, hd_crossing_NSE, hq n9 f 1 0 _ (Or.inr ⟨a, rfl, rfl⟩) hn9 (LS_C0 h hn9) (fun e => absurd e (by decide)) (by omega)⟩))
set_option maxHeartbeats 4000000 in
theorem wct_print {z k9 w : Int} (hX : okX g) (h : LSf n f (mkS bn β gn σ d as ps pb pu pr)) (hz : inI z) (hk9 : inI k9) (hw : inI w) (hq : ∀ n1 f1 k v S1, rl_print bn β gn σ d as ps pb pu pr z k9 w k v S1 → n ≤ n1 → afC n1 f1 (mkS bn β gn σ d as ps pb pu pr) S1 → (k = 0 → ∃ o, f1 78 = some (aL 1 o) ∧ o 0 = nrm v) → (k = 0 ∨ k = 1 ∨ k = 2) → Q (.inl (some (vI k))) n1 f1) : xct g M_L_print 401 2806 [vR 0, vI z, vI k9, vI w, vR 78] n f Q := by
  refine xct_ofH rfl rfl (Nat.le_of_ble_eq_true rfl) ?_
  have hC : CS n f bn β gn σ d as ps pb pu pr := h.1
  obtain ⟨bo9, so9, tk9, rk9, h00, _⟩ := id hC
  have tail : ∀ (n1 : Nat) (f1 : xH) (v : Int) (S1 : LSt), rl_print bn β gn σ d as ps pb pu pr z k9 w 0 v S1 → n ≤ n1 → afC n1 f1 (mkS bn β gn σ d as ps pb pu pr) S1 → xw g M_L_print Q 0 0 10 (xla 0 [vR 0, vI z, vI k9, vI w, vR 78]) [vI v, vI 0, vR 78] n1 f1 := by
    intro n1 f1 v S1 hr hn ha9
    obtain ⟨o, h78⟩ := ha9.2.2
    refine xw_nrm ?_
    refine xw_i2l dL_print_10 (nrm_in v) ?_
    refine xw_last dL_print_11 h78 (j := 0) rfl (by decide) (by decide) ?_
    refine xw_goto (tgt := 19) dL_print_12 (by decide) ?_
    refine xw_iconst dL_print_19 ?_
    exact xw_iret dL_print_20 rfl (hq n1 _ 0 v S1 hr hn (afC_78 ha9) (fun _ => ⟨_, xup_s _ _ _, xui_s _ _ _⟩) (Or.inl rfl))
  refine xw_aload dL_print_0 rfl ?_
  refine xw_iconst dL_print_2 ?_
  refine xw_aload_n dL_print_3 rfl ?_
  refine xw_iload_n dL_print_4 rfl ?_
  refine xw_iload_n dL_print_5 rfl ?_
  refine xw_iload_n dL_print_6 rfl ?_
  exact xw_callVC (rc := 0) (rs := 0) (mc2 := 401) (ms2 := 2806) (As := [vI z, vI k9, vI w]) (st := [vI 0, vR 78]) (a := 0) dL_print_7 mv_L_69 h00 rfl rfl (by decide) (by decide) (Nat.le_of_ble_eq_true rfl) rfl (ct_print hC hz hk9 hw (fun s n1 f1 e1 h1 h2 hn hC1 hk h3 => tail n1 f1 _ _ (Or.inl ⟨s, e1, h1, h2, rfl, Or.inl ⟨h3, rfl, rfl⟩⟩) hn (LS_C h hC1 hk)) (fun s n1 f1 c t b r e1 h1 h2 hn h3 h4 h5 h6 h7 hC1 hk => tail n1 f1 _ _ (Or.inl ⟨s, e1, h1, h2, rfl, Or.inr ⟨c, t, b, r, h3, h4, h5, h6, h7, rfl, rfl⟩⟩) hn (LS_C h hC1 hk)) (fun a n9 hn9 => ⟨1, hd_print_NSE, hq n9 f 1 0 _ (Or.inr ⟨a, rfl, rfl⟩) hn9 (LS_C0 h hn9) (fun e => absurd e (by decide)) (by omega)⟩))
set_option maxHeartbeats 4000000 in
theorem wct_free {z : Int} (hX : okX g) (h : LSf n f (mkS bn β gn σ d as ps pb pu pr)) (hz : inI z) (hq : ∀ n1 f1 k v S1, rl_free bn β gn σ d as ps pb pu pr z k v S1 → n ≤ n1 → afC n1 f1 (mkS bn β gn σ d as ps pb pu pr) S1 → (k = 0 → ∃ o, f1 78 = some (aL 1 o) ∧ o 0 = nrm v) → (k = 0 ∨ k = 1 ∨ k = 2) → Q (.inl (some (vI k))) n1 f1) : xct g M_L_free 1 6 [vR 0, vI z, vR 78] n f Q := by
  refine xct_ofH rfl rfl (Nat.le_of_ble_eq_true rfl) ?_
  have hC : CS n f bn β gn σ d as ps pb pu pr := h.1
  obtain ⟨bo9, so9, tk9, rk9, h00, _⟩ := id hC
  have tail : ∀ (n1 : Nat) (f1 : xH) (v : Int) (S1 : LSt), (v = 0 ∨ v = 1) → rl_free bn β gn σ d as ps pb pu pr z 0 v S1 → n ≤ n1 → afC n1 f1 (mkS bn β gn σ d as ps pb pu pr) S1 → xw g M_L_free Q 0 0 7 (xla 0 [vR 0, vI z, vR 78]) [vI v, vI 0, vR 78] n1 f1 := by
    intro n1 f1 v S1 hv hr hn ha9
    obtain ⟨o, h78⟩ := ha9.2.2
    have hnv : nrm v = v := by rcases hv with rfl | rfl <;> decide
    refine xw_ifeq (tgt := 14) dL_free_7 (by decide) (by unfold inI; omega) (fun c_7 => ?_) (fun c_7 => ?_)
    · skip
      refine xw_lconst (z := 0) dL_free_14 (by decide) ?_
      refine xw_topl v (by omega) ?_
      refine xw_last dL_free_15 h78 (j := 0) rfl (by decide) (by decide) ?_
      refine xw_goto (tgt := 22) dL_free_16 (by decide) ?_
      refine xw_iconst dL_free_22 ?_
      exact xw_iret dL_free_23 rfl (hq n1 _ 0 v S1 hr hn (afC_78 ha9) (fun _ => ⟨_, xup_s _ _ _, (xui_s _ _ _).trans hnv.symm⟩) (Or.inl rfl))
    · skip
      refine xw_lconst (z := 1) dL_free_10 (by decide) ?_
      refine xw_goto (tgt := 15) dL_free_11 (by decide) ?_
      refine xw_topl v (by omega) ?_
      refine xw_last dL_free_15 h78 (j := 0) rfl (by decide) (by decide) ?_
      refine xw_goto (tgt := 22) dL_free_16 (by decide) ?_
      refine xw_iconst dL_free_22 ?_
      exact xw_iret dL_free_23 rfl (hq n1 _ 0 v S1 hr hn (afC_78 ha9) (fun _ => ⟨_, xup_s _ _ _, (xui_s _ _ _).trans hnv.symm⟩) (Or.inl rfl))
  refine xw_aload_n dL_free_0 rfl ?_
  refine xw_iconst dL_free_1 ?_
  refine xw_aload_n dL_free_2 rfl ?_
  refine xw_iload_n dL_free_3 rfl ?_
  exact xw_callVC (rc := 0) (rs := 0) (mc2 := 1) (ms2 := 6) (As := [vI z]) (st := [vI 0, vR 78]) (a := 0) dL_free_4 mv_L_72 h00 rfl rfl (by decide) (by decide) (Nat.le_of_ble_eq_true rfl) rfl (ct_free hC hz (fun s f1 r e1 h1 h2 hC1 hk h5 => tail n f1 _ _ (by obtain ⟨_, _, _, _, _, _, _, _, _, _, _, _, _, q⟩ := h5; rw [q]; split <;> omega) (Or.inl ⟨s, e1, h1, h2, rfl, h5, rfl⟩) (Nat.le_refl _) (LS_C h hC1 hk)) (fun a n9 hn9 => ⟨1, hd_free_NSE, hq n9 f 1 0 _ (Or.inr ⟨a, rfl, rfl⟩) hn9 (LS_C0 h hn9) (fun e => absurd e (by decide)) (by omega)⟩))
set_option maxHeartbeats 4000000 in
theorem wct_layer {z : Int} (hX : okX g) (h : LSf n f (mkS bn β gn σ d as ps pb pu pr)) (hz : inI z) (hq : ∀ n1 f1 k v S1, rl_layer bn β gn σ d as ps pb pu pr z k v S1 → n ≤ n1 → afC n1 f1 (mkS bn β gn σ d as ps pb pu pr) S1 → (k = 0 → ∃ o, f1 78 = some (aL 1 o) ∧ o 0 = nrm v) → (k = 0 ∨ k = 1 ∨ k = 2) → Q (.inl (some (vI k))) n1 f1) : xct g M_L_layer 1 6 [vR 0, vI z, vR 78] n f Q := by
  refine xct_ofH rfl rfl (Nat.le_of_ble_eq_true rfl) ?_
  have hC : CS n f bn β gn σ d as ps pb pu pr := h.1
  obtain ⟨bo9, so9, tk9, rk9, h00, _⟩ := id hC
  have tail : ∀ (n1 : Nat) (f1 : xH) (v : Int) (S1 : LSt), rl_layer bn β gn σ d as ps pb pu pr z 0 v S1 → n ≤ n1 → afC n1 f1 (mkS bn β gn σ d as ps pb pu pr) S1 → xw g M_L_layer Q 0 0 7 (xla 0 [vR 0, vI z, vR 78]) [vI v, vI 0, vR 78] n1 f1 := by
    intro n1 f1 v S1 hr hn ha9
    obtain ⟨o, h78⟩ := ha9.2.2
    refine xw_nrm ?_
    refine xw_i2l dL_layer_7 (nrm_in v) ?_
    refine xw_last dL_layer_8 h78 (j := 0) rfl (by decide) (by decide) ?_
    refine xw_goto (tgt := 15) dL_layer_9 (by decide) ?_
    refine xw_iconst dL_layer_15 ?_
    exact xw_iret dL_layer_16 rfl (hq n1 _ 0 v S1 hr hn (afC_78 ha9) (fun _ => ⟨_, xup_s _ _ _, xui_s _ _ _⟩) (Or.inl rfl))
  refine xw_aload_n dL_layer_0 rfl ?_
  refine xw_iconst dL_layer_1 ?_
  refine xw_aload_n dL_layer_2 rfl ?_
  refine xw_iload_n dL_layer_3 rfl ?_
  exact xw_callVC (rc := 0) (rs := 0) (mc2 := 1) (ms2 := 6) (As := [vI z]) (st := [vI 0, vR 78]) (a := 0) dL_layer_4 mv_L_75 h00 rfl rfl (by decide) (by decide) (Nat.le_of_ble_eq_true rfl) rfl (ct_layer hC hz (fun s f1 r e1 h1 h2 hC1 hk h5 => tail n f1 _ _ (Or.inl ⟨s, e1, h1, h2, rfl, h5, rfl⟩) (Nat.le_refl _) (LS_C h hC1 hk)) (fun a n9 hn9 => ⟨1, hd_layer_NSE, hq n9 f 1 0 _ (Or.inr ⟨a, rfl, rfl⟩) hn9 (LS_C0 h hn9) (fun e => absurd e (by decide)) (by omega)⟩))
set_option maxHeartbeats 4000000 in
theorem wct_check {z : Int} (hX : okX g) (h : LSf n f (mkS bn β gn σ d as ps pb pu pr)) (hz : inI z) (hq : ∀ n1 f1 k v S1, rl_check bn β gn σ d as ps pb pu pr z k v S1 → n ≤ n1 → afC n1 f1 (mkS bn β gn σ d as ps pb pu pr) S1 → (k = 0 → ∃ o, f1 78 = some (aL 1 o) ∧ o 0 = nrm v) → (k = 0 ∨ k = 1 ∨ k = 2) → Q (.inl (some (vI k))) n1 f1) : xct g M_L_check 1 6 [vR 0, vI z, vR 78] n f Q := by
  refine xct_ofH rfl rfl (Nat.le_of_ble_eq_true rfl) ?_
  have hC : CS n f bn β gn σ d as ps pb pu pr := h.1
  obtain ⟨bo9, so9, tk9, rk9, h00, _⟩ := id hC
  have tail : ∀ (n1 : Nat) (f1 : xH) (v : Int) (S1 : LSt), rl_check bn β gn σ d as ps pb pu pr z 0 v S1 → n ≤ n1 → afC n1 f1 (mkS bn β gn σ d as ps pb pu pr) S1 → xw g M_L_check Q 0 0 7 (xla 0 [vR 0, vI z, vR 78]) [vI v, vI 0, vR 78] n1 f1 := by
    intro n1 f1 v S1 hr hn ha9
    obtain ⟨o, h78⟩ := ha9.2.2
    refine xw_nrm ?_
    refine xw_i2l dL_check_7 (nrm_in v) ?_
    refine xw_last dL_check_8 h78 (j := 0) rfl (by decide) (by decide) ?_
    refine xw_goto (tgt := 15) dL_check_9 (by decide) ?_
    refine xw_iconst dL_check_15 ?_
    exact xw_iret dL_check_16 rfl (hq n1 _ 0 v S1 hr hn (afC_78 ha9) (fun _ => ⟨_, xup_s _ _ _, xui_s _ _ _⟩) (Or.inl rfl))
  refine xw_aload_n dL_check_0 rfl ?_
  refine xw_iconst dL_check_1 ?_
  refine xw_aload_n dL_check_2 rfl ?_
  refine xw_iload_n dL_check_3 rfl ?_
  exact xw_callVC (rc := 0) (rs := 0) (mc2 := 1) (ms2 := 6) (As := [vI z]) (st := [vI 0, vR 78]) (a := 0) dL_check_4 mv_L_78 h00 rfl rfl (by decide) (by decide) (Nat.le_of_ble_eq_true rfl) rfl (ct_check hC hz (fun f1 r hC1 hk h1 h2 => tail n f1 _ _ (Or.inl ⟨h1, rfl, h2, rfl⟩) (Nat.le_refl _) (LS_C h hC1 hk)) (fun a n9 hn9 => ⟨1, hd_check_IAE, hq n9 f 1 0 _ (Or.inr ⟨a, rfl, rfl⟩) hn9 (LS_C0 h hn9) (fun e => absurd e (by decide)) (by omega)⟩))
end Cb5
