/-! the model lays a stick -/
theorem fold_iff {pt : Nat → Int} : folds pt ↔ (z3 (cr (dv pt 0) (dv pt 1)) ∧ dt (dv pt 0) (dv pt 1) < 0) := by
  have b0 : bkv pt 0 = -dv pt 0 0 := by show pt 0 - pt 3 = -(pt 3 - pt 0); omega
  have b1 : bkv pt 1 = -dv pt 0 1 := by show pt 1 - pt 4 = -(pt 4 - pt 1); omega
  have b2 : bkv pt 2 = -dv pt 0 2 := by show pt 2 - pt 5 = -(pt 5 - pt 2); omega
  have o0 : onv pt 0 = dv pt 1 0 := rfl
  have o1 : onv pt 1 = dv pt 1 1 := rfl
  have o2 : onv pt 2 = dv pt 1 2 := rfl
  have c0 : cr (bkv pt) (onv pt) 0 = -cr (dv pt 0) (dv pt 1) 0 := by
    show bkv pt 1 * onv pt 2 - bkv pt 2 * onv pt 1 = -(dv pt 0 1 * dv pt 1 2 - dv pt 0 2 * dv pt 1 1)
    rw [b1, b2, o1, o2]; grind
  have c1 : cr (bkv pt) (onv pt) 1 = -cr (dv pt 0) (dv pt 1) 1 := by
    show bkv pt 2 * onv pt 0 - bkv pt 0 * onv pt 2 = -(dv pt 0 2 * dv pt 1 0 - dv pt 0 0 * dv pt 1 2)
    rw [b0, b2, o0, o2]; grind
  have c2 : cr (bkv pt) (onv pt) 2 = -cr (dv pt 0) (dv pt 1) 2 := by
    show bkv pt 0 * onv pt 1 - bkv pt 1 * onv pt 0 = -(dv pt 0 0 * dv pt 1 1 - dv pt 0 1 * dv pt 1 0)
    rw [b0, b1, o0, o1]; grind
  have d0 : dt (bkv pt) (onv pt) = -dt (dv pt 0) (dv pt 1) := by
    show bkv pt 0 * onv pt 0 + bkv pt 1 * onv pt 1 + bkv pt 2 * onv pt 2 = -(dv pt 0 0 * dv pt 1 0 + dv pt 0 1 * dv pt 1 1 + dv pt 0 2 * dv pt 1 2)
    rw [b0, b1, b2, o0, o1, o2]; grind
  unfold folds z3
  rw [c0, c1, c2, d0]
  omega
theorem dt_cg3 {u u1 v v1 : Nat → Int} (hu : ∀ k, k < 3 → u k = u1 k) (hv : ∀ k, k < 3 → v k = v1 k) : dt u v = dt u1 v1 := dt_cg hu hv
section C85
variable {g : xG} {y : xM} {Q : xP} {n : Nat} {f : xH} {th : Int} {bn : Nat} {β : Nat → xBx} {gn : Nat} {σ : Nat → xSt} {d : Nat → Int} {as : List xAc} {ps : Nat} {pb : Nat → Int} {pu : Nat} {pr : Nat → Int}
set_option maxHeartbeats 4000000 in
theorem mct_lay {kd z w mk wo : Int} (h : MS f th bn β gn σ d as ps pb pu pr) (hch : ∀ x ∈ as, x.2.1.toNat < gn) (hkd : inI kd) (hz : inI z) (hw9 : inI w) (hmk : inI mk) (hwo : inI wo) (h1 : ∀ (b k : Nat) r f1, z = (b : Int) → w = (k : Int) → b < bn → k < 20 → kok kd mk wo → layN β gn σ kd mk wo b k r → MS f1 0 bn (β) gn σ d as ps pb pu pr → kC f f1 → Q (.inl (some (vI r))) n f1) (h2 : ∀ (b k : Nat) f1, z = (b : Int) → w = (k : Int) → b < bn → k < 20 → kok kd mk wo → layY β gn σ kd mk wo b k → MS f1 0 bn β (gn + 1) (xui σ gn (stS (nwS2 kd mk wo (β b).2.1 k) 1)) d (aCt 1 (gn : Int) 0 0 0 :: as.take 7) ps pb pu pr → kC f f1 → Q (.inl (some (vI (gn : Int)))) n f1) (hx1 : ¬ ((0 ≤ z ∧ z < (bn : Int)) ∧ 0 ≤ w ∧ w < 20) → ∀ f1, MS f1 1 bn β gn σ d as ps pb pu pr → kC f f1 → Q (.inl (some (vI 0))) n f1) (hx2 : ((0 ≤ z ∧ z < (bn : Int)) ∧ 0 ≤ w ∧ w < 20) → ¬ kok kd mk wo → ∀ f1, MS f1 2 bn β gn σ d as ps pb pu pr → kC f f1 → Q (.inl (some (vI 0))) n f1) : xct g M_X10_lay 0 0 [vR 38, vI kd, vI z, vI w, vI mk, vI wo] n f Q := by
  refine xct_of rfl rfl (Nat.le_of_ble_eq_true rfl) ?_
  have S : ∀ F, MS F 0 bn β gn σ d as ps pb pu pr → kC f F → xw g M_X10_lay Q 0 0 5 [(0, vR 38), (1, vI kd), (2, vI z), (3, vI w), (4, vI mk), (5, vI wo)] [] n F := by
    intro F hF kF
    obtain ⟨m, h38, hm, hbx, hst, hac, hpg, hpr, hsh, h40, hd1, hd2⟩ := id hF
    obtain ⟨m0, m1, m6, m7, m13, m14, m15, m23, m42, m60⟩ := id hm
    obtain ⟨K, M, W, P, Z, s43, s44, s45, s46, s47, hgn, hall, hz9⟩ := id hst
    obtain ⟨Wd, Rs, U, b39, b40, b41, bb, b1, b2⟩ := id hbx
    obtain ⟨A, S9, AP, a52, a53, a54, hl8, hai, hap⟩ := id hac
    obtain ⟨cu, b48⟩ := msh_at hsh (k := 48) (t := 1) (N := 3) (by decide)
    obtain ⟨cv, b49⟩ := msh_at hsh (k := 49) (t := 1) (N := 3) (by decide)
    obtain ⟨cw, b50⟩ := msh_at hsh (k := 50) (t := 1) (N := 3) (by decide)
    obtain ⟨cd, b51⟩ := msh_at hsh (k := 51) (t := 1) (N := 3) (by decide)
    have b48 : F 48 = some (aL 3 cu) := b48
    have b49 : F 49 = some (aL 3 cv) := b49
    have b50 : F 50 = some (aL 3 cw) := b50
    have b51 : F 51 = some (aL 3 cd) := b51
    have Kin : ∀ s, s < gn → inI (K s) := fun s hs => by have := (hall s hs).1.1; rw [(hall s hs).2.1]; unfold inI; omega
    have htl : (as.take 7).length = min as.length 7 := by rw [List.length_take]; omega
    have Z1 : ∀ f1, Q (.inl (some (vI 0))) n f1 → xw g M_X10_lay Q 0 0 14 [(0, vR 38)] [] n f1 := by
      intro f1 hq
      refine xw_iconst dX10_lay_14 ?_
      exact xw_iret dX10_lay_15 rfl hq
    have Z2 : ∀ f1, Q (.inl (some (vI 0))) n f1 → xw g M_X10_lay Q 0 0 114 [(0, vR 38)] [] n f1 := by
      intro f1 hq
      refine xw_iconst dX10_lay_114 ?_
      exact xw_iret dX10_lay_115 rfl hq
    have main : ∀ b k : Nat, z = (b : Int) → w = (k : Int) → b < bn → k < 20 → kok kd mk wo → xw g M_X10_lay Q 0 0 116 [(0, vR 38), (1, vI kd), (2, vI z), (3, vI w), (4, vI mk), (5, vI wo)] [] n F := by
      intro b k ez ew hb hk20 hkok
      have q := b1 b hb
      have hlk := q.1.2.1 k hk20
      have hRk := q.2.2.1 k hk20
      obtain ⟨pc, hpc⟩ : ∃ pc : Nat, pc = (if kd = 1 then 2 else 1) := ⟨_, rfl⟩
      have hpc2 : pc = 1 ∨ pc = 2 := by rw [hpc]; split; exact Or.inr rfl; exact Or.inl rfl
      obtain ⟨X, hX⟩ : ∃ X, X = nwS2 kd mk wo (β b).2.1 k := ⟨_, rfl⟩
      have hX1 : X.1 = kd := by rw [hX]; rfl
      have hXp : ptS X = ptOf (β b).2.1 k (3 * (pc + 1)) := by rw [hX, hpc]; rfl
      have hXc : pcS X = pc := by rw [hX, hpc]; rfl
      have hpzk : pcz kd = pc := by rw [hpc]; rfl
      obtain ⟨nn, hnn⟩ : ∃ nn, nn = 3 * (pc + 1) := ⟨_, rfl⟩
      have Ue : ∀ j, j < 30 → U (30 * (20 * b + k) + j) = (β b).2.1 (30 * k + j) := fun j hj => by rw [show 30 * (20 * b + k) + j = 600 * b + (30 * k + j) by omega]; exact q.2.2.2 _ (by omega)
      -- an answer short of laying, from any heap that keeps what counts
      have NN : ∀ (r : Int) (H : xH), layN β gn σ kd mk wo b k r → H 38 = some (oMd m) → (∃ K1 M1 W1 P1 : Nat → Int, H 43 = some (aI 101 K1) ∧ H 44 = some (aI 101 M1) ∧ H 45 = some (aI 101 W1) ∧ H 46 = some (aI 909 P1) ∧ (∀ t, t < gn → K1 t = K t ∧ M1 t = M t ∧ W1 t = W t) ∧ ∀ j, j < 9 * gn → P1 j = P j) → (∃ cu cv cw cd : Nat → Int, H 48 = some (aL 3 cu) ∧ H 49 = some (aL 3 cv) ∧ H 50 = some (aL 3 cw) ∧ H 51 = some (aL 3 cd)) → (∀ k, ¬ (43 ≤ k ∧ k ≤ 46) → ¬ (48 ≤ k ∧ k ≤ 51) → H k = F k) → Q (.inl (some (vI r))) n H := by
        intro r H hly k38 ⟨K1, M1, W1, P1, k43, k44, k45, k46, kt, kp⟩ ⟨cu, cv, cw, cd, k48, k49, k50, k51⟩ kH
        refine h1 b k r H ez ew hb hk20 hkok hly ⟨m, k38, hm, mbx_fr hbx (fun k q1 q2 => kH k (by omega) (by omega)), ⟨K1, M1, W1, P1, Z, k43, k44, k45, k46, (kH 47 (by omega) (by omega)).trans s47, hgn, fun t ht => ?_, hz9⟩, mac_fr hac (fun k q1 q2 => kH k (by omega) (by omega)), mpg_fr hpg (kH 66 (by omega) (by omega)), mpr_fr hpr (kH 77 (by omega) (by omega)), fun p hp => ?_, h40, hd1, hd2⟩ (fun k k9 => (kH k (by omega) (by omega)).trans (kF k k9))
        · have q9 := hall t ht
          have t9 := kt t ht
          exact ⟨q9.1, by rw [t9.1]; exact q9.2.1, by rw [t9.2.1]; exact q9.2.2.1, by rw [t9.2.2]; exact q9.2.2.2.1, q9.2.2.2.2.1, fun j hj => by rw [kp _ (by omega)]; exact q9.2.2.2.2.2 j hj⟩
        · by_cases ev : 48 ≤ p.1 ∧ p.1 ≤ 51
          · have e4 := (by decide : ∀ p ∈ shL, 48 ≤ p.1 ∧ p.1 ≤ 51 → p.2 = (1, 3)) p hp ev
            rw [e4]
            rcases (by omega : p.1 = 48 ∨ p.1 = 49 ∨ p.1 = 50 ∨ p.1 = 51) with e | e | e | e <;> rw [e]
            · exact ⟨cu, k48⟩
            · exact ⟨cv, k49⟩
            · exact ⟨cw, k50⟩
            · exact ⟨cd, k51⟩
          · obtain ⟨c1, hc1⟩ := hsh p hp
            exact ⟨c1, (kH p.1 ((by decide : ∀ p ∈ shL, ¬ (43 ≤ p.1 ∧ p.1 ≤ 46)) p hp) ev).trans hc1⟩
      have NF : ∀ (r : Int), layN β gn σ kd mk wo b k r → Q (.inl (some (vI r))) n F := fun r hly => NN r F hly h38 ⟨K, M, W, P, s43, s44, s45, s46, fun t _ => ⟨rfl, rfl, rfl⟩, fun j _ => rfl⟩ ⟨cu, cv, cw, cd, b48, b49, b50, b51⟩ (fun _ _ _ => rfl)
      -- long enough and near
      have big : 3 * ((pc : Int) + 1) ≤ (β b).2.2 k → (∀ j, j < nn → nr ((β b).2.1 (30 * k + j))) → xw g M_X10_lay Q 0 0 225 [(0, vR 38), (1, vI kd), (2, vI z), (3, vI w), (4, vI mk), (5, vI wo), (7, vI ((20 * b + k : Nat) : Int)), (8, vI (nn : Int))] [] n F := by
        intro hb1 hb2
        obtain ⟨pv, hpv⟩ : ∃ pv : Nat → Int, pv = fun j => if j < nn then (β b).2.1 (30 * k + j) else 0 := ⟨_, rfl⟩
        have hpvX : ∀ j, pv j = ptS X j := fun j => by rw [hpv, hXp, hnn]; rfl
        have hnr : ∀ j, j < 9 → nr (pv j) := fun j hj => by
          rw [hpv]
          show nr (if j < nn then _ else 0)
          split
          · next e => exact hb2 j e
          · unfold nr; omega
        obtain ⟨P1, hP1⟩ : ∃ P1, P1 = stf P (9 * gn) 9 pv := ⟨_, rfl⟩
        have P1in : ∀ j, j < 9 → P1 (9 * gn + j) = pv j := fun j hj => by rw [hP1]; exact stf_in hj
        have P1o : ∀ j, j < 9 * gn → P1 j = P j := fun j hj => by rw [hP1]; exact stf_out (by omega)
        obtain ⟨K1, hK1⟩ : ∃ K1, K1 = xui K gn kd := ⟨_, rfl⟩
        have K1gn : K1 gn = kd := by rw [hK1, xui_s]
        have K1o : ∀ t, t < gn → K1 t = K t := fun t ht => by rw [hK1, xui_n _ _ (by omega)]
        obtain ⟨G, hG⟩ : ∃ G, G = xup (xup (xup (xup F 43 (aI 101 K1)) 44 (aI 101 (xui M gn mk))) 45 (aI 101 (xui W gn wo))) 46 (aI 909 P1) := ⟨_, rfl⟩
        have Gk : ∀ k, ¬ (43 ≤ k ∧ k ≤ 46) → G k = F k := fun k e => by rw [hG, xup_n _ _ (by omega), xup_n _ _ (by omega), xup_n _ _ (by omega), xup_n _ _ (by omega)]
        have G38 : G 38 = some (oMd m) := (Gk 38 (by omega)).trans h38
        have G43 : G 43 = some (aI 101 K1) := by rw [hG]; rfl
        have G44 : G 44 = some (aI 101 (xui M gn mk)) := by rw [hG]; rfl
        have G45 : G 45 = some (aI 101 (xui W gn wo)) := by rw [hG]; rfl
        have G46 : G 46 = some (aI 909 P1) := by rw [hG]; rfl
        have KT : ∃ K1' M1 W1 P1' : Nat → Int, G 43 = some (aI 101 K1') ∧ G 44 = some (aI 101 M1) ∧ G 45 = some (aI 101 W1) ∧ G 46 = some (aI 909 P1') ∧ (∀ t, t < gn → K1' t = K t ∧ M1 t = M t ∧ W1 t = W t) ∧ ∀ j, j < 9 * gn → P1' j = P j := ⟨K1, _, _, P1, G43, G44, G45, G46, fun t ht => ⟨K1o t ht, xui_n _ _ (by omega), xui_n _ _ (by omega)⟩, P1o⟩
        -- the answer from a heap that has looked at pieces
        have NG : ∀ (r : Int) (H : xH), layN β gn σ kd mk wo b k r → fr vcS G H → (∃ cu cv cw cd : Nat → Int, H 48 = some (aL 3 cu) ∧ H 49 = some (aL 3 cv) ∧ H 50 = some (aL 3 cw) ∧ H 51 = some (aL 3 cd)) → Q (.inl (some (vI r))) n H := by
          intro r H hly hfH hv
          obtain ⟨K1', M1, W1, P1', q1, q2, q3, q4, q5⟩ := KT
          exact NN r H hly (fr_at hfH G38 (by decide)) ⟨K1', M1, W1, P1', fr_at hfH q1 (by decide), fr_at hfH q2 (by decide), fr_at hfH q3 (by decide), fr_at hfH q4 (by decide), q5⟩ hv (fun k e1 e2 => (hfH k (fun q => by simp only [vcS, List.mem_cons, List.not_mem_nil, or_false] at q; omega)).trans (Gk k e1))
        have lay4 : ∀ r, layN β gn σ kd mk wo b k r ↔ layN β gn σ kd mk wo b k r := fun _ => Iff.rfl
        have NR : ∀ r : Int, ((r = -4 ∧ ¬ proper (ptS X) (pcS X)) ∨ (proper (ptS X) (pcS X) ∧ ((r = -5 ∧ ¬ (hc σ gn < 40 ∧ gn < 100)) ∨ ((hc σ gn < 40 ∧ gn < 100) ∧ ∃ t, ltR gn σ X (fun _ => True) t ∧ t ≠ -1 ∧ r = -10 - t)))) → layN β gn σ kd mk wo b k r := by
          intro r hr9
          refine Or.inr (Or.inr ⟨by rw [← hpc]; exact hb1, Or.inr ⟨fun j hj => hb2 j (by rw [hnn, hpc]; exact hj), ?_⟩⟩)
          rw [← hX]
          exact hr9
        have okX : okK X := by
          obtain ⟨q1, q2, q3⟩ := hkok
          refine ⟨by rw [hX]; exact q1, ?_, ?_, Or.inl (by rw [hX]; rfl), fun j hj => by rw [← hpvX]; exact hnr j hj⟩
          · rw [hX]; show 0 ≤ mk ∧ mk ≤ 127; split at q2 <;> omega
          · rw [hX]; show 1 ≤ wo ∧ wo ≤ 100; split at q3 <;> omega
        -- proper: full, touched, laid
        have T3 : proper (ptS X) (pcS X) → ∀ H : xH, fr vcS G H → (∃ cu cv cw cd : Nat → Int, H 48 = some (aL 3 cu) ∧ H 49 = some (aL 3 cv) ∧ H 50 = some (aL 3 cw) ∧ H 51 = some (aL 3 cd)) → xw g M_X10_lay Q 0 0 451 [(0, vR 38), (9, vI (gn : Int))] [] n H := by
          intro hprop H hfH hv
          have e38 : H 38 = some (oMd m) := fr_at hfH G38 (by decide)
          by_cases hfull : hc σ gn < 40 ∧ gn < 100
          · obtain ⟨cu1, cv1, cw1, cd1, v48, v49, v50, v51⟩ := hv
            have hraw : mRaw H K1 P1 Z := ⟨fr_at hfH G43 (by decide), fr_at hfH G46 (by decide), fr_at hfH ((Gk 47 (by omega)).trans s47) (by decide), cu1, cv1, cw1, cd1, v48, v49, v50, v51⟩
            have hall2 : ∀ t, t < gn → K1 t = (σ t).1 ∧ Z t = hrS (σ t) ∧ ∀ j, j < 9 → P1 (9 * t + j) = ptS (σ t) j := fun t ht => by
              have q9 := hall t ht
              exact ⟨by rw [K1o t ht]; exact q9.2.1, q9.2.2.2.2.1, fun j hj => by rw [P1o _ (by omega)]; exact q9.2.2.2.2.2 j hj⟩
            have hnear : ∀ t, (t < gn ∨ t = gn) → ∀ j, j < 9 → nr (P1 (9 * t + j)) := fun t ht j hj => by
              rcases ht with ht | rfl
              · rw [(hall2 t ht).2.2 j hj]; exact (hall t ht).1.2.2.2.2 j hj
              · rw [P1in j hj]; exact hnr j hj
            have hKi : ∀ t, (t < gn ∨ t = gn) → inI (K1 t) := fun t ht => by
              rcases ht with ht | rfl
              · rw [K1o t ht]; exact Kin t ht
              · rw [K1gn]; exact hkd
            have Y9 : ∀ (H1 : xH), fr vcS H H1 → mRaw H1 K1 P1 Z → ltR gn σ X (fun _ => True) (-1) → xw g M_X10_lay Q 0 0 492 [(0, vR 38), (9, vI (gn : Int))] [] n H1 := by
              intro H1 hf1 hr1 hlt
              have n38 : H1 38 = some (oMd m) := fr_at hf1 e38 (by decide)
              have hcn : hc (xui σ gn (stS X 1)) (gn + 1) = hc σ gn + 1 := by
                rw [hc_1 (by rw [xui_s]; rfl)]
                rw [hc_cg gn (fun t ht9 => by rw [xui_n _ _ (by omega)])]
              have kG : ∀ k, k ∉ vcS → H1 k = G k := fun k e => (hf1 k e).trans (hfH k e)
              obtain ⟨mm, hmm⟩ : ∃ mm, mm = xui (xui m 6 (m 6 + 1)) 7 (m 7 + 1) := ⟨_, rfl⟩
              obtain ⟨J, hJ⟩ : ∃ J, J = xup (xup H1 47 (aZ 101 (xui Z gn 1))) 38 (oMd mm) := ⟨_, rfl⟩
              have Jk : ∀ k, k ≠ 38 → k ≠ 47 → J k = H1 k := fun k e1 e2 => by rw [hJ, xup_n _ _ e1, xup_n _ _ e2]
              have J38 : J 38 = some (oMd mm) := by rw [hJ]; rfl
              have J47 : J 47 = some (aZ 101 (xui Z gn 1)) := by rw [hJ]; rfl
              have JF : ∀ k, k ≠ 38 → k ≠ 47 → k ∉ vcS → ¬ (43 ≤ k ∧ k ≤ 46) → J k = F k := fun k e1 e2 e3 e4 => (Jk k e1 e2).trans ((kG k e3).trans (Gk k e4))
              have mm23 : mm 23 = (as.length : Int) := by rw [hmm]; exact m23
              refine xw_aload_n dX10_lay_492 rfl ?_
              refine xw_getfield dX10_lay_493 fl_X10_39 n38 rfl ?_
              refine xw_iload dX10_lay_496 rfl ?_
              refine xw_iconst dX10_lay_498 ?_
              refine xw_zast dX10_lay_499 hr1.2.2.1 (j := gn) rfl (by omega) (by decide) rfl ?_
              refine xw_aload_n dX10_lay_500 rfl ?_
              refine xw_dup dX10_lay_501 rfl ?_
              refine xw_getfield dX10_lay_502 fl_X10_181 n38 rfl ?_
              refine xw_iconst dX10_lay_505 ?_
              refine xw_iadd dX10_lay_506 ?_
              refine xw_putfield dX10_lay_507 (fp_X10_181 _) n38 rfl rfl ?_
              rw [xmd_6]
              refine xw_aload_n dX10_lay_510 rfl ?_
              refine xw_dup dX10_lay_511 rfl ?_
              refine xw_getfield dX10_lay_512 fl_X10_199 rfl rfl ?_
              refine xw_iconst dX10_lay_515 ?_
              refine xw_iadd dX10_lay_516 ?_
              refine xw_putfield dX10_lay_517 (fp_X10_199 _) rfl rfl rfl ?_
              rw [xmd_7]
              rw [xup_up]
              refine xw_hq J (by rw [hJ, hmm]; rfl) ?_
              refine xw_aload_n dX10_lay_520 rfl ?_
              refine xw_iconst dX10_lay_521 ?_
              refine xw_iload dX10_lay_522 rfl ?_
              refine xw_callV (rc := 0) (rs := 0) (mc2 := 0) (ms2 := 0) (a := 38) (As := [vI 1, vI (gn : Int)]) (st := []) dX10_lay_524 mv_X10_209 J38 rfl rfl (by decide) (by decide) (Nat.le_of_ble_eq_true rfl) rfl (ct_acted J38 ((Jk 46 (by decide) (by decide)).trans hr1.2.1) ((JF 52 (by decide) (by decide) (by decide) (by decide)).trans a52) ((JF 53 (by decide) (by decide) (by decide) (by decide)).trans a53) ((JF 54 (by decide) (by decide) (by decide) (by decide)).trans a54) mm23 hl8 (by omega) (fun f2 A2 S2 AP2 m2 hm2 hf2 i38 i52 i53 i54 hA => ?_))
              have nz : ∀ {k : Nat} {e : xE}, J k = some e → k ∉ [38, 52, 53, 54] → f2 k = some e := fun e1 e2 => fr_at hf2 e1 e2
              refine xw_iload dX10_lay_527 rfl (xw_iret dX10_lay_529 rfl (h2 b k f2 ez ew hb hk20 hkok ⟨by rw [← hpc]; exact hb1, fun j hj => hb2 j (by rw [hnn, hpc]; exact hj), by rw [← hX]; exact hprop, hfull, by rw [← hX]; exact hlt⟩ ⟨m2, i38, ⟨by rw [hm2.2 0 (by decide), hmm]; exact m0, by rw [hm2.2 1 (by decide), hmm]; exact m1, by rw [hm2.2 6 (by decide), hmm]; show m 6 + 1 = _; omega, by rw [hm2.2 7 (by decide), hmm, ← hX, hcn]; show m 7 + 1 = _; omega, by rw [hm2.2 13 (by decide), hmm]; exact m13, by rw [hm2.2 14 (by decide), hmm]; exact m14, by rw [hm2.2 15 (by decide), hmm]; exact m15, by rw [hm2.1, List.length_cons, htl], by rw [hm2.2 42 (by decide), hmm]; exact m42, by rw [hm2.2 60 (by decide), hmm]; exact m60⟩, mbx_fr hbx (fun k q1 q2 => (hf2 k (fun q => by simp only [List.mem_cons, List.not_mem_nil, or_false] at q; omega)).trans (JF k (by omega) (by omega) (fun q => by simp only [vcS, List.mem_cons, List.not_mem_nil, or_false] at q; omega) (by omega))), ⟨K1, xui M gn mk, xui W gn wo, P1, xui Z gn 1, nz ((Jk 43 (by decide) (by decide)).trans hr1.1) (by decide), nz ((Jk 44 (by decide) (by decide)).trans ((kG 44 (by decide)).trans G44)) (by decide), nz ((Jk 45 (by decide) (by decide)).trans ((kG 45 (by decide)).trans G45)) (by decide), nz ((Jk 46 (by decide) (by decide)).trans hr1.2.1) (by decide), nz J47 (by decide), by omega, fun t ht => ?_, fun t ht => ?_⟩, ?_, mpg_fr hpg ((hf2 66 (by decide)).trans (JF 66 (by decide) (by decide) (by decide) (by decide))), mpr_fr hpr ((hf2 77 (by decide)).trans (JF 77 (by decide) (by decide) (by decide) (by decide))), fun p hp => ?_, ?_, hd1, hd2⟩ (fun k k9 => (hf2 k (fun q => by simp only [List.mem_cons, List.not_mem_nil, or_false] at q; omega)).trans ((JF k (by omega) (by omega) (fun q => by simp only [vcS, List.mem_cons, List.not_mem_nil, or_false] at q; omega) (by omega)).trans (kF k k9)))))
              · rw [← hX]
                by_cases e : t = gn
                · rw [e, xui_s, xui_s, xui_s, xui_s]
                  exact ⟨okK_st okX (Or.inr rfl), by rw [K1gn]; exact hX1.symm, by rw [hX]; rfl, by rw [hX]; rfl, rfl, fun j hj => by rw [P1in j hj]; exact hpvX j⟩
                · rw [xui_n _ _ e, xui_n _ _ e, xui_n _ _ e, xui_n _ _ e]
                  have q9 := hall t (by omega)
                  have r9 := hall2 t (by omega)
                  exact ⟨q9.1, r9.1, q9.2.2.1, q9.2.2.2.1, r9.2.1, r9.2.2⟩
              · unfold xui
                split
                · exact Or.inr rfl
                · exact hz9 t ht
              · rw [← hX]
                refine mac_act hl8 hai hap hch (by rw [htl]; exact hA) i52 i53 i54 (fun t ht => ?_) (fun e => absurd e (by decide))
                have e1 : (aCt 1 (gn : Int) 0 0 0).2.1.toNat = gn := Int.toNat_natCast gn
                unfold und
                rw [e1, xui_n _ _ (by omega), xui_n _ _ (by omega)]
              · by_cases ev : p.1 ∈ vcS
                · obtain ⟨_, _, _, c1, c2, c3, c4, v48, v49, v50, v51⟩ := hr1
                  have e4 := (by decide : ∀ p ∈ shL, p.1 ∈ vcS → p.2 = (1, 3)) p hp ev
                  rw [e4]
                  simp only [vcS, List.mem_cons, List.not_mem_nil, or_false] at ev
                  rcases ev with e | e | e | e <;> rw [e]
                  · exact ⟨c1, nz ((Jk 48 (by decide) (by decide)).trans v48) (by decide)⟩
                  · exact ⟨c2, nz ((Jk 49 (by decide) (by decide)).trans v49) (by decide)⟩
                  · exact ⟨c3, nz ((Jk 50 (by decide) (by decide)).trans v50) (by decide)⟩
                  · exact ⟨c4, nz ((Jk 51 (by decide) (by decide)).trans v51) (by decide)⟩
                · obtain ⟨c1, hc1⟩ := hsh p hp
                  exact ⟨c1, nz ((JF p.1 ((by decide : ∀ p ∈ shL, p.1 ≠ 38) p hp) ((by decide : ∀ p ∈ shL, p.1 ≠ 47) p hp) ev ((by decide : ∀ p ∈ shL, ¬ (43 ≤ p.1 ∧ p.1 ≤ 46)) p hp)).trans hc1) ((by decide : ∀ p ∈ shL, p.1 ∉ [38, 52, 53, 54]) p hp)⟩
              · rw [← hX]; omega
            refine xw_aload_n dX10_lay_451 rfl ?_
            refine xw_getfield dX10_lay_452 fl_X10_199 e38 rfl ?_
            refine xw_topi (hc σ gn : Int) m7 ?_
            refine xw_bipush (z := 40) dX10_lay_455 (by decide) ?_
            refine xw_icmpeq (tgt := 469) dX10_lay_457 (by decide) (by first | assumption | (unfold inI; omega) | (unfold inI at *; omega)) (by first | assumption | (unfold inI; omega) | (unfold inI at *; omega)) (fun c_457 => ?_) (fun c_457 => ?_)
            · skip
              exfalso; omega
            · skip
              refine xw_aload_n dX10_lay_460 rfl ?_
              refine xw_getfield dX10_lay_461 fl_X10_181 e38 rfl ?_
              refine xw_topi (gn : Int) m6 ?_
              refine xw_bipush (z := 100) dX10_lay_464 (by decide) ?_
              refine xw_icmpne (tgt := 472) dX10_lay_466 (by decide) (by first | assumption | (unfold inI; omega) | (unfold inI at *; omega)) (by first | assumption | (unfold inI; omega) | (unfold inI at *; omega)) (fun c_466 => ?_) (fun c_466 => ?_)
              · skip
                refine xw_aload_n dX10_lay_472 rfl ?_
                refine xw_iload dX10_lay_473 rfl ?_
                refine xw_callV (rc := 0) (rs := 0) (mc2 := 0) (ms2 := 0) (a := 38) (As := [vI (gn : Int)]) (st := []) dX10_lay_475 mv_X10_206 e38 rfl rfl (by decide) (by decide) (Nat.le_of_ble_eq_true rfl) rfl (ct_touched e38 hraw m6 hgn (Nat.le_refl _) hKi hnear hz9 (by rw [m13, m14, m15]; exact hd1) (fun H1 r hf1 hr1 hlt => ?_))
                have hlt2 : ltR gn σ X (fun _ => True) r := ltR_cg (ltM_R hlt hall2 (by rw [K1gn, hX1]) (fun j hj => by rw [P1in j hj]; exact hpvX j)) (fun t ht => ⟨fun _ => trivial, fun _ => by omega⟩)
                have hrr := ltR_rg hlt2
                refine xw_istore dX10_lay_478 (by decide) ?_
                refine xw_iload dX10_lay_480 rfl ?_
                refine xw_iconst dX10_lay_482 ?_
                refine xw_icmpeq (tgt := 492) dX10_lay_483 (by decide) (by first | assumption | (unfold inI; omega) | (unfold inI at *; omega)) (by first | assumption | (unfold inI; omega) | (unfold inI at *; omega)) (fun c_483 => ?_) (fun c_483 => ?_)
                · skip
                  rw [c_483] at hlt2
                  exact xw_ls [(0, vR 38), (9, vI (gn : Int))] ⟨rfl, rfl, trivial⟩ (Y9 H1 hf1 hr1 hlt2)
                · skip
                  refine xw_bipush (z := -10) dX10_lay_486 (by decide) ?_
                  refine xw_iload dX10_lay_488 rfl ?_
                  refine xw_isub dX10_lay_490 ?_
                  exact xw_iret dX10_lay_491 rfl (NG _ H1 (NR _ (Or.inr ⟨hprop, Or.inr ⟨hfull, r, hlt2, c_483, rfl⟩⟩)) (fr_tr hfH hf1) hr1.2.2.2)
              · skip
                exfalso; omega
          · skip
            refine xw_aload_n dX10_lay_451 rfl ?_
            refine xw_getfield dX10_lay_452 fl_X10_199 e38 rfl ?_
            refine xw_topi (hc σ gn : Int) m7 ?_
            refine xw_bipush (z := 40) dX10_lay_455 (by decide) ?_
            refine xw_icmpeq (tgt := 469) dX10_lay_457 (by decide) (by first | assumption | (unfold inI; omega) | (unfold inI at *; omega)) (by first | assumption | (unfold inI; omega) | (unfold inI at *; omega)) (fun c_457 => ?_) (fun c_457 => ?_)
            · skip
              refine xw_bipush (z := -5) dX10_lay_469 (by decide) ?_
              exact xw_iret dX10_lay_471 rfl (NG _ H (NR _ (Or.inr ⟨hprop, Or.inl ⟨rfl, hfull⟩⟩)) hfH hv)
            · skip
              refine xw_aload_n dX10_lay_460 rfl ?_
              refine xw_getfield dX10_lay_461 fl_X10_181 e38 rfl ?_
              refine xw_topi (gn : Int) m6 ?_
              refine xw_bipush (z := 100) dX10_lay_464 (by decide) ?_
              refine xw_icmpne (tgt := 472) dX10_lay_466 (by decide) (by first | assumption | (unfold inI; omega) | (unfold inI at *; omega)) (by first | assumption | (unfold inI; omega) | (unfold inI at *; omega)) (fun c_466 => ?_) (fun c_466 => ?_)
              · skip
                exfalso; omega
              · skip
                refine xw_bipush (z := -5) dX10_lay_469 (by decide) ?_
                exact xw_iret dX10_lay_471 rfl (NG _ H (NR _ (Or.inr ⟨hprop, Or.inl ⟨rfl, hfull⟩⟩)) hfH hv)
        have T2 : (∀ i, i < pc → ¬ (ptS X (3 * i) = ptS X (3 * i + 3) ∧ ptS X (3 * i + 1) = ptS X (3 * i + 4) ∧ ptS X (3 * i + 2) = ptS X (3 * i + 5))) → xw g M_X10_lay Q 0 0 403 [(0, vR 38), (1, vI kd), (9, vI (gn : Int))] [] n G := by
          intro hdiff
          have hP1e : ∀ j, j < 9 → Ps P1 gn j = ptS X j := fun j hj => by rw [← hpvX]; exact P1in j hj
          have vG : ∃ cu cv cw cd : Nat → Int, G 48 = some (aL 3 cu) ∧ G 49 = some (aL 3 cv) ∧ G 50 = some (aL 3 cw) ∧ G 51 = some (aL 3 cd) := ⟨cu, cv, cw, cd, (Gk 48 (by omega)).trans b48, (Gk 49 (by omega)).trans b49, (Gk 50 (by omega)).trans b50, (Gk 51 (by omega)).trans b51⟩
          have nG : ∀ j, j < 9 → nr (P1 (9 * gn + j)) := fun j hj => by rw [P1in j hj]; exact hnr j hj
          have bu : bd (dv (Ps P1 gn) 0) 2000 := bd_dv nG (by decide)
          have bv : bd (dv (Ps P1 gn) 1) 2000 := bd_dv nG (by decide)
          have cuv : bd (cr (dv (Ps P1 gn) 0) (dv (Ps P1 gn) 1)) 8000000 := bd_cr bu bv (by decide)
          have duv : nb (dt (dv (Ps P1 gn) 0) (dv (Ps P1 gn) 1)) 12000000 := bd_dt bu bv
          have ec : cr (dv (Ps P1 gn) 0) (dv (Ps P1 gn) 1) = cr (dv (ptS X) 0) (dv (ptS X) 1) := cr_cg (dv_cg (by decide) hP1e) (dv_cg (by decide) hP1e)
          have ed : dt (dv (Ps P1 gn) 0) (dv (Ps P1 gn) 1) = dt (dv (ptS X) 0) (dv (ptS X) 1) := dt_cg (dv_cg (by decide) hP1e) (dv_cg (by decide) hP1e)
          by_cases hk1 : kd = 1
          · have hpc1 : pc = 2 := by rw [hpc, if_pos hk1]
            refine xw_iload_n dX10_lay_403 rfl ?_
            refine xw_iconst dX10_lay_404 ?_
            refine xw_icmpne (tgt := 451) dX10_lay_405 (by decide) (by first | assumption | (unfold inI; omega) | (unfold inI at *; omega)) (by first | assumption | (unfold inI; omega) | (unfold inI at *; omega)) (fun c_405 => ?_) (fun c_405 => ?_)
            · skip
              exfalso; omega
            · skip
              refine xw_aload_n dX10_lay_408 rfl ?_
              refine xw_iload dX10_lay_409 rfl ?_
              refine xw_iconst dX10_lay_411 ?_
              refine xw_iload dX10_lay_412 rfl ?_
              refine xw_iconst dX10_lay_414 ?_
              refine xw_callV (rc := 0) (rs := 0) (mc2 := 0) (ms2 := 0) (a := 38) (As := [vI (gn : Int), vI ((0 : Nat) : Int), vI (gn : Int), vI ((1 : Nat) : Int)]) (st := []) dX10_lay_415 mv_X10_188 G38 rfl rfl (by decide) (by decide) (Nat.le_of_ble_eq_true rfl) rfl (ct_setPieces G38 G46 ((Gk 48 (by omega)).trans b48) ((Gk 49 (by omega)).trans b49) ((Gk 50 (by omega)).trans b50) ((Gk 51 (by omega)).trans b51) (by omega) (by omega) (by decide) (by decide) nG nG (by rw [m13, m14, m15]; exact hd1) (fun H hfH j48 j49 j50 j51 => ?_))
              have j38 : H 38 = some (oMd m) := fr_at hfH G38 (by decide)
              refine xw_aload_n dX10_lay_418 rfl ?_
              refine xw_getfield dX10_lay_419 fl_X10_46 j38 rfl ?_
              refine xw_aload_n dX10_lay_422 rfl ?_
              refine xw_getfield dX10_lay_423 fl_X10_49 j38 rfl ?_
              refine xw_callS (rc := 0) (rs := 0) (mc2 := 0) (ms2 := 0) (As := [vR 48, vR 49]) (st := []) dX10_lay_426 ms_X10_165 rfl (by decide) (by decide) (Nat.le_of_ble_eq_true rfl) rfl (ct_isAlong j48 j49 (bd_3 cuv (by decide)) (fun q1 => ?_) (fun q1 => ?_))
              · skip
                refine xw_ifeq (tgt := 451) dX10_lay_429 (by decide) (by unfold inI; omega) (fun c => absurd c (by decide)) (fun _ => ?_)
                refine xw_aload_n dX10_lay_432 rfl ?_
                refine xw_getfield dX10_lay_433 fl_X10_46 j38 rfl ?_
                refine xw_aload_n dX10_lay_436 rfl ?_
                refine xw_getfield dX10_lay_437 fl_X10_49 j38 rfl ?_
                refine xw_callS (rc := 0) (rs := 0) (mc2 := 0) (ms2 := 0) (As := [vR 48, vR 49]) (st := []) dX10_lay_440 ms_X10_169 rfl (by decide) (by decide) (Nat.le_of_ble_eq_true rfl) rfl (ct_mdot j48 j49 ?_)
                refine xw_lconst (z := 0) dX10_lay_443 (by decide) ?_
                refine xw_lcmpge (tgt := 451) dX10_lay_444 dX10_lay_445 (by decide) (nb_L duv (by decide)) (by unfold inL; omega) (fun c_444 => ?_) (fun c_444 => ?_)
                · skip
                  first
                    | exact xw_ls [(0, vR 38), (9, vI (gn : Int))] ⟨rfl, rfl, trivial⟩ (T3 ⟨by rw [hXc]; exact hdiff, Or.inr (fun hfo => by have := (fold_iff.mp hfo).2; rw [← ed] at this; omega)⟩ H hfH ⟨_, _, _, _, j48, j49, j50, j51⟩)
                    | exact xw_ls [(0, vR 38), (9, vI (gn : Int))] ⟨rfl, rfl, trivial⟩ (T3 ⟨by rw [hXc]; exact hdiff, Or.inr (fun hfo => q1 (by rw [ec]; exact (fold_iff.mp hfo).1))⟩ H hfH ⟨_, _, _, _, j48, j49, j50, j51⟩)
                · skip
                  refine xw_bipush (z := -4) dX10_lay_448 (by decide) ?_
                  exact xw_iret dX10_lay_450 rfl (NG _ H (NR _ (Or.inl ⟨rfl, fun hp9 => by
                      rcases hp9.2 with e | e
                      · rw [hXc] at e; omega
                      · exact e (fold_iff.mpr ⟨by rw [← ec]; exact q1, by rw [← ed]; omega⟩)⟩)) hfH ⟨_, _, _, _, j48, j49, j50, j51⟩)
              · skip
                refine xw_ifeq (tgt := 451) dX10_lay_429 (by decide) (by unfold inI; omega) (fun _ => ?_) (fun c => absurd c (by decide))
                first
                  | exact xw_ls [(0, vR 38), (9, vI (gn : Int))] ⟨rfl, rfl, trivial⟩ (T3 ⟨by rw [hXc]; exact hdiff, Or.inr (fun hfo => by have := (fold_iff.mp hfo).2; rw [← ed] at this; omega)⟩ H hfH ⟨_, _, _, _, j48, j49, j50, j51⟩)
                  | exact xw_ls [(0, vR 38), (9, vI (gn : Int))] ⟨rfl, rfl, trivial⟩ (T3 ⟨by rw [hXc]; exact hdiff, Or.inr (fun hfo => q1 (by rw [ec]; exact (fold_iff.mp hfo).1))⟩ H hfH ⟨_, _, _, _, j48, j49, j50, j51⟩)
          · have hpc1 : pc = 1 := by rw [hpc, if_neg hk1]
            refine xw_iload_n dX10_lay_403 rfl ?_
            refine xw_iconst dX10_lay_404 ?_
            refine xw_icmpne (tgt := 451) dX10_lay_405 (by decide) (by first | assumption | (unfold inI; omega) | (unfold inI at *; omega)) (by first | assumption | (unfold inI; omega) | (unfold inI at *; omega)) (fun c_405 => ?_) (fun c_405 => ?_)
            · skip
              exact xw_ls [(0, vR 38), (9, vI (gn : Int))] ⟨rfl, rfl, trivial⟩ (T3 ⟨by rw [hXc]; exact hdiff, Or.inl (by rw [hXc]; exact hpc1)⟩ G (fr_rf _ G) vG)
            · skip
              exfalso; omega
        have L314 : ∀ (j i : Nat), i + j = pc → (∀ t, t < i → ¬ (ptS X (3 * t) = ptS X (3 * t + 3) ∧ ptS X (3 * t + 1) = ptS X (3 * t + 4) ∧ ptS X (3 * t + 2) = ptS X (3 * t + 5))) → xw g M_X10_lay Q 0 0 314 [(0, vR 38), (1, vI kd), (9, vI (gn : Int)), (10, vI (i : Int))] [] n G := by
          have Kg : inI (K1 gn) := by rw [K1gn]; exact hkd
          have vG : ∃ cu cv cw cd : Nat → Int, G 48 = some (aL 3 cu) ∧ G 49 = some (aL 3 cv) ∧ G 50 = some (aL 3 cw) ∧ G 51 = some (aL 3 cd) := ⟨cu, cv, cw, cd, (Gk 48 (by omega)).trans b48, (Gk 49 (by omega)).trans b49, (Gk 50 (by omega)).trans b50, (Gk 51 (by omega)).trans b51⟩
          intro j
          induction j with
          | zero =>
            intro i hi hd9
            refine xw_iload dX10_lay_314 rfl ?_
            refine xw_aload_n dX10_lay_316 rfl ?_
            refine xw_iload dX10_lay_317 rfl ?_
            refine xw_callV (rc := 0) (rs := 0) (mc2 := 0) (ms2 := 0) (a := 38) (As := [vI (gn : Int)]) (st := [vI (i : Int)]) dX10_lay_319 mv_X10_184 G38 rfl rfl (by decide) (by decide) (Nat.le_of_ble_eq_true rfl) rfl (ct_pieces G38 G43 (by omega) Kg ?_)
            rw [K1gn, hpzk]
            refine xw_icmpge (tgt := 403) dX10_lay_322 (by decide) (by first | assumption | (unfold inI; omega) | (unfold inI at *; omega)) (by first | assumption | (unfold inI; omega) | (unfold inI at *; omega)) (fun c_322 => ?_) (fun c_322 => ?_)
            · skip
              exact xw_ls [(0, vR 38), (1, vI kd), (9, vI (gn : Int))] ⟨rfl, rfl, rfl, trivial⟩ (T2 (fun t ht => hd9 t (by omega)))
            · skip
              exfalso; omega
          | succ j ih =>
            intro i hi hd9
            have va : ∀ a : Nat, a < 3 → P1 (9 * gn + (3 * i + a)) = ptS X (3 * i + a) ∧ P1 (9 * gn + (3 * (i + 1) + a)) = ptS X (3 * i + (3 + a)) := fun a ha => ⟨by rw [P1in _ (by omega)]; exact hpvX _, by rw [P1in _ (by omega), hpvX, show 3 * (i + 1) + a = 3 * i + (3 + a) by omega]⟩
            have vin : ∀ j, j < 9 → inI (ptS X j) := fun j hj => by have := hnr j hj; rw [hpvX] at this; unfold nr at this; unfold inI; omega
            have C : ¬ (ptS X (3 * i) = ptS X (3 * i + 3) ∧ ptS X (3 * i + 1) = ptS X (3 * i + 4) ∧ ptS X (3 * i + 2) = ptS X (3 * i + 5)) → xw g M_X10_lay Q 0 0 397 [(0, vR 38), (1, vI kd), (9, vI (gn : Int)), (10, vI (i : Int))] [] n G := by
              intro hne
              refine xw_iinc dX10_lay_397 rfl (by decide) ?_
              refine xw_goto (tgt := 314) dX10_lay_400 (by decide) ?_
              exact xw_ls [(0, vR 38), (1, vI kd), (9, vI (gn : Int)), (10, vI ((i + 1 : Nat) : Int))] ⟨rfl, rfl, rfl, rfl, trivial⟩ (ih (i + 1) (by omega) (fun t ht => by
                  by_cases e : t = i
                  · subst e; exact hne
                  · exact hd9 t (by omega)))
            refine xw_iload dX10_lay_314 rfl ?_
            refine xw_aload_n dX10_lay_316 rfl ?_
            refine xw_iload dX10_lay_317 rfl ?_
            refine xw_callV (rc := 0) (rs := 0) (mc2 := 0) (ms2 := 0) (a := 38) (As := [vI (gn : Int)]) (st := [vI (i : Int)]) dX10_lay_319 mv_X10_184 G38 rfl rfl (by decide) (by decide) (Nat.le_of_ble_eq_true rfl) rfl (ct_pieces G38 G43 (by omega) Kg ?_)
            rw [K1gn, hpzk]
            refine xw_icmpge (tgt := 403) dX10_lay_322 (by decide) (by first | assumption | (unfold inI; omega) | (unfold inI at *; omega)) (by first | assumption | (unfold inI; omega) | (unfold inI at *; omega)) (fun c_322 => ?_) (fun c_322 => ?_)
            · skip
              exfalso; omega
            · skip
              refine xw_aload_n dX10_lay_325 rfl ?_
              refine xw_iload dX10_lay_326 rfl ?_
              refine xw_iload dX10_lay_328 rfl ?_
              refine xw_iconst dX10_lay_330 ?_
              refine xw_callV (rc := 0) (rs := 0) (mc2 := 0) (ms2 := 0) (a := 38) (As := [vI (gn : Int), vI (i : Int), vI ((0 : Nat) : Int)]) (st := []) dX10_lay_331 mv_X10_151 G38 rfl rfl (by decide) (by decide) (Nat.le_of_ble_eq_true rfl) rfl (ct_mat G38 G46 (by omega) ?_)
              rw [(va 0 (by decide)).1]
              refine xw_aload_n dX10_lay_334 rfl ?_
              refine xw_iload dX10_lay_335 rfl ?_
              refine xw_iload dX10_lay_337 rfl ?_
              refine xw_iconst dX10_lay_339 ?_
              refine xw_iadd dX10_lay_340 ?_
              refine xw_iconst dX10_lay_341 ?_
              refine xw_callV (rc := 0) (rs := 0) (mc2 := 0) (ms2 := 0) (a := 38) (As := [vI (gn : Int), vI ((i + 1 : Nat) : Int), vI ((0 : Nat) : Int)]) (st := [vI (ptS X (3 * i + 0))]) dX10_lay_342 mv_X10_151 G38 rfl rfl (by decide) (by decide) (Nat.le_of_ble_eq_true rfl) rfl (ct_mat G38 G46 (by omega) ?_)
              rw [(va 0 (by decide)).2]
              refine xw_icmpne (tgt := 397) dX10_lay_345 (by decide) (vin _ (by omega)) (vin _ (by omega)) (fun c_345 => ?_) (fun c_345 => ?_)
              · skip
                first
                  | exact xw_ls [(0, vR 38), (1, vI kd), (9, vI (gn : Int)), (10, vI (i : Int))] ⟨rfl, rfl, rfl, rfl, trivial⟩ (C (fun q9 => c_391 q9.2.2))
                  | exact xw_ls [(0, vR 38), (1, vI kd), (9, vI (gn : Int)), (10, vI (i : Int))] ⟨rfl, rfl, rfl, rfl, trivial⟩ (C (fun q9 => c_368 q9.2.1))
                  | exact xw_ls [(0, vR 38), (1, vI kd), (9, vI (gn : Int)), (10, vI (i : Int))] ⟨rfl, rfl, rfl, rfl, trivial⟩ (C (fun q9 => c_345 q9.1))
              · skip
                refine xw_aload_n dX10_lay_348 rfl ?_
                refine xw_iload dX10_lay_349 rfl ?_
                refine xw_iload dX10_lay_351 rfl ?_
                refine xw_iconst dX10_lay_353 ?_
                refine xw_callV (rc := 0) (rs := 0) (mc2 := 0) (ms2 := 0) (a := 38) (As := [vI (gn : Int), vI (i : Int), vI ((1 : Nat) : Int)]) (st := []) dX10_lay_354 mv_X10_151 G38 rfl rfl (by decide) (by decide) (Nat.le_of_ble_eq_true rfl) rfl (ct_mat G38 G46 (by omega) ?_)
                rw [(va 1 (by decide)).1]
                refine xw_aload_n dX10_lay_357 rfl ?_
                refine xw_iload dX10_lay_358 rfl ?_
                refine xw_iload dX10_lay_360 rfl ?_
                refine xw_iconst dX10_lay_362 ?_
                refine xw_iadd dX10_lay_363 ?_
                refine xw_iconst dX10_lay_364 ?_
                refine xw_callV (rc := 0) (rs := 0) (mc2 := 0) (ms2 := 0) (a := 38) (As := [vI (gn : Int), vI ((i + 1 : Nat) : Int), vI ((1 : Nat) : Int)]) (st := [vI (ptS X (3 * i + 1))]) dX10_lay_365 mv_X10_151 G38 rfl rfl (by decide) (by decide) (Nat.le_of_ble_eq_true rfl) rfl (ct_mat G38 G46 (by omega) ?_)
                rw [(va 1 (by decide)).2]
                refine xw_icmpne (tgt := 397) dX10_lay_368 (by decide) (vin _ (by omega)) (vin _ (by omega)) (fun c_368 => ?_) (fun c_368 => ?_)
                · skip
                  first
                    | exact xw_ls [(0, vR 38), (1, vI kd), (9, vI (gn : Int)), (10, vI (i : Int))] ⟨rfl, rfl, rfl, rfl, trivial⟩ (C (fun q9 => c_391 q9.2.2))
                    | exact xw_ls [(0, vR 38), (1, vI kd), (9, vI (gn : Int)), (10, vI (i : Int))] ⟨rfl, rfl, rfl, rfl, trivial⟩ (C (fun q9 => c_368 q9.2.1))
                    | exact xw_ls [(0, vR 38), (1, vI kd), (9, vI (gn : Int)), (10, vI (i : Int))] ⟨rfl, rfl, rfl, rfl, trivial⟩ (C (fun q9 => c_345 q9.1))
                · skip
                  refine xw_aload_n dX10_lay_371 rfl ?_
                  refine xw_iload dX10_lay_372 rfl ?_
                  refine xw_iload dX10_lay_374 rfl ?_
                  refine xw_iconst dX10_lay_376 ?_
                  refine xw_callV (rc := 0) (rs := 0) (mc2 := 0) (ms2 := 0) (a := 38) (As := [vI (gn : Int), vI (i : Int), vI ((2 : Nat) : Int)]) (st := []) dX10_lay_377 mv_X10_151 G38 rfl rfl (by decide) (by decide) (Nat.le_of_ble_eq_true rfl) rfl (ct_mat G38 G46 (by omega) ?_)
                  rw [(va 2 (by decide)).1]
                  refine xw_aload_n dX10_lay_380 rfl ?_
                  refine xw_iload dX10_lay_381 rfl ?_
                  refine xw_iload dX10_lay_383 rfl ?_
                  refine xw_iconst dX10_lay_385 ?_
                  refine xw_iadd dX10_lay_386 ?_
                  refine xw_iconst dX10_lay_387 ?_
                  refine xw_callV (rc := 0) (rs := 0) (mc2 := 0) (ms2 := 0) (a := 38) (As := [vI (gn : Int), vI ((i + 1 : Nat) : Int), vI ((2 : Nat) : Int)]) (st := [vI (ptS X (3 * i + 2))]) dX10_lay_388 mv_X10_151 G38 rfl rfl (by decide) (by decide) (Nat.le_of_ble_eq_true rfl) rfl (ct_mat G38 G46 (by omega) ?_)
                  rw [(va 2 (by decide)).2]
                  refine xw_icmpne (tgt := 397) dX10_lay_391 (by decide) (vin _ (by omega)) (vin _ (by omega)) (fun c_391 => ?_) (fun c_391 => ?_)
                  · skip
                    first
                      | exact xw_ls [(0, vR 38), (1, vI kd), (9, vI (gn : Int)), (10, vI (i : Int))] ⟨rfl, rfl, rfl, rfl, trivial⟩ (C (fun q9 => c_391 q9.2.2))
                      | exact xw_ls [(0, vR 38), (1, vI kd), (9, vI (gn : Int)), (10, vI (i : Int))] ⟨rfl, rfl, rfl, rfl, trivial⟩ (C (fun q9 => c_368 q9.2.1))
                      | exact xw_ls [(0, vR 38), (1, vI kd), (9, vI (gn : Int)), (10, vI (i : Int))] ⟨rfl, rfl, rfl, rfl, trivial⟩ (C (fun q9 => c_345 q9.1))
                  · skip
                    refine xw_bipush (z := -4) dX10_lay_394 (by decide) ?_
                    exact xw_iret dX10_lay_396 rfl (NG _ G (NR _ (Or.inl ⟨rfl, fun hp9 => hp9.1 i (by rw [hXc]; omega) ⟨c_345, c_368, c_391⟩⟩)) (fr_rf _ G) vG)
        obtain ⟨H, hH⟩ : ∃ H, H = xup (xup (xup F 43 (aI 101 K1)) 44 (aI 101 (xui M gn mk))) 45 (aI 101 (xui W gn wo)) := ⟨_, rfl⟩
        have H38 : H 38 = some (oMd m) := by rw [hH]; exact h38
        have H41 : H 41 = some (aL 4800 U) := by rw [hH]; exact b41
        have H46 : H 46 = some (aI 909 P) := by rw [hH]; exact s46
        have L260 : ∀ (j t : Nat), t + j = 9 → xw g M_X10_lay Q 0 0 260 [(0, vR 38), (1, vI kd), (7, vI ((20 * b + k : Nat) : Int)), (8, vI (nn : Int)), (9, vI (gn : Int)), (10, vI (t : Int))] [] n (xup H 46 (aI 909 (stf P (9 * gn) t pv))) := by
          intro j
          induction j with
          | zero =>
            intro t ht9
            obtain rfl : t = 9 := by omega
            have hHG : xup H 46 (aI 909 (stf P (9 * gn) 9 pv)) = G := by rw [hG, hH, hP1]
            rw [hHG]
            refine xw_iload dX10_lay_260 rfl ?_
            refine xw_bipush (z := 9) dX10_lay_262 (by decide) ?_
            refine xw_icmpge (tgt := 311) dX10_lay_264 (by decide) (by first | assumption | (unfold inI; omega) | (unfold inI at *; omega)) (by first | assumption | (unfold inI; omega) | (unfold inI at *; omega)) (fun c_264 => ?_) (fun c_264 => ?_)
            · skip
              refine xw_iconst dX10_lay_311 ?_
              refine xw_istore dX10_lay_312 (by decide) ?_
              exact xw_ls [(0, vR 38), (1, vI kd), (9, vI (gn : Int)), (10, vI ((0 : Nat) : Int))] ⟨rfl, rfl, rfl, rfl, trivial⟩ (L314 pc 0 (by omega) (fun t ht => absurd ht (Nat.not_lt_zero t)))
            · skip
              exfalso; omega
          | succ j ih =>
            intro t ht9
            have C : xw g M_X10_lay Q 0 0 304 [(0, vR 38), (1, vI kd), (7, vI ((20 * b + k : Nat) : Int)), (8, vI (nn : Int)), (9, vI (gn : Int)), (10, vI (t : Int))] [vI (pv t), vI (9 * (gn : Int) + (t : Int)), vR 46] n (xup H 46 (aI 909 (stf P (9 * gn) t pv))) := by
              refine xw_iast dX10_lay_304 rfl (j := 9 * gn + t) (by omega) (by omega) (by decide) ?_
              rw [xup_up, stf_s]
              refine xw_iinc dX10_lay_305 rfl (by decide) ?_
              refine xw_goto (tgt := 260) dX10_lay_308 (by decide) ?_
              exact xw_ls [(0, vR 38), (1, vI kd), (7, vI ((20 * b + k : Nat) : Int)), (8, vI (nn : Int)), (9, vI (gn : Int)), (10, vI ((t + 1 : Nat) : Int))] ⟨rfl, rfl, rfl, rfl, rfl, rfl, trivial⟩ (ih (t + 1) (by omega))
            have vy : t < nn → U (30 * (20 * b + k) + t) = pv t := fun e => by rw [Ue t (by omega), hpv]; exact (if_pos e).symm
            have vn : ¬ t < nn → (0 : Int) = pv t := fun e => by rw [hpv]; exact (if_neg e).symm
            refine xw_iload dX10_lay_260 rfl ?_
            refine xw_bipush (z := 9) dX10_lay_262 (by decide) ?_
            refine xw_icmpge (tgt := 311) dX10_lay_264 (by decide) (by first | assumption | (unfold inI; omega) | (unfold inI at *; omega)) (by first | assumption | (unfold inI; omega) | (unfold inI at *; omega)) (fun c_264 => ?_) (fun c_264 => ?_)
            · skip
              exfalso; omega
            · skip
              refine xw_aload_n dX10_lay_267 rfl ?_
              refine xw_getfield dX10_lay_268 fl_X10_36 H38 rfl ?_
              refine xw_bipush (z := 9) dX10_lay_271 (by decide) ?_
              refine xw_iload dX10_lay_273 rfl ?_
              refine xw_imul dX10_lay_275 ?_
              refine xw_iload dX10_lay_276 rfl ?_
              refine xw_iadd dX10_lay_278 ?_
              refine xw_iload dX10_lay_279 rfl ?_
              refine xw_iload dX10_lay_281 rfl ?_
              refine xw_icmpge (tgt := 303) dX10_lay_283 (by decide) (by first | assumption | (unfold inI; omega) | (unfold inI at *; omega)) (by first | assumption | (unfold inI; omega) | (unfold inI at *; omega)) (fun c_283 => ?_) (fun c_283 => ?_)
              · skip
                refine xw_iconst dX10_lay_303 ?_
                first
                  | exact C
                  | exact xw_topi (pv t) (vn (by omega)) C
              · skip
                refine xw_aload_n dX10_lay_286 rfl ?_
                refine xw_getfield dX10_lay_287 fl_X10_20 H38 rfl ?_
                refine xw_bipush (z := 30) dX10_lay_290 (by decide) ?_
                refine xw_iload dX10_lay_292 rfl ?_
                refine xw_imul dX10_lay_294 ?_
                refine xw_iload dX10_lay_295 rfl ?_
                refine xw_iadd dX10_lay_297 ?_
                refine xw_lald dX10_lay_298 H41 (j := 30 * (20 * b + k) + t) (by omega) (by omega) (by decide) ?_
                refine xw_topl (pv t) (vy (by omega)) ?_
                refine xw_l2i dX10_lay_299 ?_
                refine xw_goto (tgt := 304) dX10_lay_300 (by decide) ?_
                first
                  | exact C
                  | exact xw_topi (pv t) (vn (by omega)) C
        refine xw_aload_n dX10_lay_225 rfl ?_
        refine xw_getfield dX10_lay_226 fl_X10_181 h38 rfl ?_
        refine xw_topi (gn : Int) m6 ?_
        refine xw_istore dX10_lay_229 (by decide) ?_
        refine xw_aload_n dX10_lay_231 rfl ?_
        refine xw_getfield dX10_lay_232 fl_X10_27 h38 rfl ?_
        refine xw_iload dX10_lay_235 rfl ?_
        refine xw_iload_n dX10_lay_237 rfl ?_
        refine xw_iast dX10_lay_238 s43 (j := gn) rfl (by omega) (by decide) ?_
        refine xw_aload_n dX10_lay_239 rfl ?_
        refine xw_getfield dX10_lay_240 fl_X10_30 h38 rfl ?_
        refine xw_iload dX10_lay_243 rfl ?_
        refine xw_iload dX10_lay_245 rfl ?_
        refine xw_iast dX10_lay_247 s44 (j := gn) rfl (by omega) (by decide) ?_
        refine xw_aload_n dX10_lay_248 rfl ?_
        refine xw_getfield dX10_lay_249 fl_X10_33 h38 rfl ?_
        refine xw_iload dX10_lay_252 rfl ?_
        refine xw_iload dX10_lay_254 rfl ?_
        refine xw_iast dX10_lay_256 s45 (j := gn) rfl (by omega) (by decide) ?_
        refine xw_iconst dX10_lay_257 ?_
        refine xw_istore dX10_lay_258 (by decide) ?_
        refine xw_hq H (by rw [hH, hK1]) ?_
        have hL := L260 9 0 (by omega)
        rw [stf_0, xup_id H46] at hL
        exact xw_ls [(0, vR 38), (1, vI kd), (7, vI ((20 * b + k : Nat) : Int)), (8, vI (nn : Int)), (9, vI (gn : Int)), (10, vI ((0 : Nat) : Int))] ⟨rfl, rfl, rfl, rfl, rfl, rfl, trivial⟩ hL
      have L169 : 3 * ((pc : Int) + 1) ≤ (β b).2.2 k → ∀ (j t : Nat), t + j = nn → (∀ i, i < t → nr ((β b).2.1 (30 * k + i))) → xw g M_X10_lay Q 0 0 169 [(0, vR 38), (1, vI kd), (2, vI z), (3, vI w), (4, vI mk), (5, vI wo), (7, vI ((20 * b + k : Nat) : Int)), (8, vI (nn : Int)), (9, vI (t : Int))] [] n F := by
        intro hb1 j
        induction j with
        | zero =>
          intro t ht9 hi9
          obtain rfl : t = nn := by omega
          refine xw_iload dX10_lay_169 rfl ?_
          refine xw_iload dX10_lay_171 rfl ?_
          refine xw_icmpge (tgt := 225) dX10_lay_173 (by decide) (by first | assumption | (unfold inI; omega) | (unfold inI at *; omega)) (by first | assumption | (unfold inI; omega) | (unfold inI at *; omega)) (fun c_173 => ?_) (fun c_173 => ?_)
          · skip
            exact xw_ls [(0, vR 38), (1, vI kd), (2, vI z), (3, vI w), (4, vI mk), (5, vI wo), (7, vI ((20 * b + k : Nat) : Int)), (8, vI (t : Int))] ⟨rfl, rfl, rfl, rfl, rfl, rfl, rfl, rfl, trivial⟩ (big hb1 hi9)
          · skip
            exfalso; omega
        | succ j ih =>
          intro t ht9 hi9
          have vy : U (30 * (20 * b + k) + t) = (β b).2.1 (30 * k + t) := Ue t (by omega)
          have vL9 : inL ((β b).2.1 (30 * k + t)) := q.1.2.2 _ (by omega)
          refine xw_iload dX10_lay_169 rfl ?_
          refine xw_iload dX10_lay_171 rfl ?_
          refine xw_icmpge (tgt := 225) dX10_lay_173 (by decide) (by first | assumption | (unfold inI; omega) | (unfold inI at *; omega)) (by first | assumption | (unfold inI; omega) | (unfold inI at *; omega)) (fun c_173 => ?_) (fun c_173 => ?_)
          · skip
            exfalso; omega
          · skip
            refine xw_aload_n dX10_lay_176 rfl ?_
            refine xw_getfield dX10_lay_177 fl_X10_20 h38 rfl ?_
            refine xw_bipush (z := 30) dX10_lay_180 (by decide) ?_
            refine xw_iload dX10_lay_182 rfl ?_
            refine xw_imul dX10_lay_184 ?_
            refine xw_iload dX10_lay_185 rfl ?_
            refine xw_iadd dX10_lay_187 ?_
            refine xw_lald dX10_lay_188 b41 (j := 30 * (20 * b + k) + t) (by omega) (by omega) (by decide) ?_
            refine xw_topl _ vy ?_
            refine xw_ldc2 (z := -1000) dX10_lay_189 kl_X10_202 (by decide) ?_
            refine xw_lcmplt (tgt := 216) dX10_lay_192 dX10_lay_193 (by decide) vL9 (by unfold inL; omega) (fun c_192 => ?_) (fun c_192 => ?_)
            · skip
              refine xw_bipush (z := -3) dX10_lay_216 (by decide) ?_
              exact xw_iret dX10_lay_218 rfl (NF _ (Or.inr (Or.inr ⟨by rw [← hpc]; exact hb1, Or.inl ⟨rfl, t, by rw [← hpc, ← hnn]; omega, fun q9 => by unfold nr at q9; omega⟩⟩)))
            · skip
              refine xw_aload_n dX10_lay_196 rfl ?_
              refine xw_getfield dX10_lay_197 fl_X10_20 h38 rfl ?_
              refine xw_bipush (z := 30) dX10_lay_200 (by decide) ?_
              refine xw_iload dX10_lay_202 rfl ?_
              refine xw_imul dX10_lay_204 ?_
              refine xw_iload dX10_lay_205 rfl ?_
              refine xw_iadd dX10_lay_207 ?_
              refine xw_lald dX10_lay_208 b41 (j := 30 * (20 * b + k) + t) (by omega) (by omega) (by decide) ?_
              refine xw_topl _ vy ?_
              refine xw_ldc2 (z := 1000) dX10_lay_209 kl_X10_204 (by decide) ?_
              refine xw_lcmple (tgt := 219) dX10_lay_212 dX10_lay_213 (by decide) vL9 (by unfold inL; omega) (fun c_212 => ?_) (fun c_212 => ?_)
              · skip
                refine xw_iinc dX10_lay_219 rfl (by decide) ?_
                refine xw_goto (tgt := 169) dX10_lay_222 (by decide) ?_
                exact xw_ls [(0, vR 38), (1, vI kd), (2, vI z), (3, vI w), (4, vI mk), (5, vI wo), (7, vI ((20 * b + k : Nat) : Int)), (8, vI (nn : Int)), (9, vI ((t + 1 : Nat) : Int))] ⟨rfl, rfl, rfl, rfl, rfl, rfl, rfl, rfl, rfl, trivial⟩ (ih (t + 1) (by omega) (fun i hi => by
                    by_cases e : i = t
                    · rw [e]; unfold nr; omega
                    · exact hi9 i (by omega)))
              · skip
                refine xw_bipush (z := -3) dX10_lay_216 (by decide) ?_
                exact xw_iret dX10_lay_218 rfl (NF _ (Or.inr (Or.inr ⟨by rw [← hpc]; exact hb1, Or.inl ⟨rfl, t, by rw [← hpc, ← hnn]; omega, fun q9 => by unfold nr at q9; omega⟩⟩)))
      have M138 : xw g M_X10_lay Q 0 0 138 [(0, vR 38), (1, vI kd), (2, vI z), (3, vI w), (4, vI mk), (5, vI wo), (7, vI ((20 * b + k : Nat) : Int)), (8, vI (nn : Int))] [] n F := by
        refine xw_aload_n dX10_lay_138 rfl ?_
        refine xw_getfield dX10_lay_139 fl_X10_17 h38 rfl ?_
        refine xw_iload dX10_lay_142 rfl ?_
        refine xw_iald dX10_lay_144 b40 (j := 20 * b + k) rfl (by omega) (by decide) ?_
        refine xw_topi _ hRk ?_
        refine xw_iconst dX10_lay_145 ?_
        refine xw_icmpne (tgt := 151) dX10_lay_146 (by decide) (by first | assumption | (unfold inI; omega) | (unfold inI at *; omega)) (by first | assumption | (unfold inI; omega) | (unfold inI at *; omega)) (fun c_146 => ?_) (fun c_146 => ?_)
        · skip
          refine xw_aload_n dX10_lay_151 rfl ?_
          refine xw_getfield dX10_lay_152 fl_X10_17 h38 rfl ?_
          refine xw_iload dX10_lay_155 rfl ?_
          refine xw_iald dX10_lay_157 b40 (j := 20 * b + k) rfl (by omega) (by decide) ?_
          refine xw_topi _ hRk ?_
          refine xw_iload dX10_lay_158 rfl ?_
          refine xw_icmpge (tgt := 166) dX10_lay_160 (by decide) (by first | assumption | (unfold inI; omega) | (unfold inI at *; omega)) (by first | assumption | (unfold inI; omega) | (unfold inI at *; omega)) (fun c_160 => ?_) (fun c_160 => ?_)
          · skip
            refine xw_iconst dX10_lay_166 ?_
            refine xw_istore dX10_lay_167 (by decide) ?_
            exact xw_ls [(0, vR 38), (1, vI kd), (2, vI z), (3, vI w), (4, vI mk), (5, vI wo), (7, vI ((20 * b + k : Nat) : Int)), (8, vI (nn : Int)), (9, vI ((0 : Nat) : Int))] ⟨rfl, rfl, rfl, rfl, rfl, rfl, rfl, rfl, rfl, trivial⟩ (L169 (by omega) nn 0 (by omega) (fun i hi => absurd hi (Nat.not_lt_zero i)))
          · skip
            refine xw_bipush (z := -2) dX10_lay_163 (by decide) ?_
            exact xw_iret dX10_lay_165 rfl (NF _ (Or.inr (Or.inl ⟨rfl, by omega, by rw [← hpc]; omega⟩)))
        · skip
          refine xw_iconst dX10_lay_149 ?_
          exact xw_iret dX10_lay_150 rfl (NF _ (Or.inl ⟨rfl, by omega⟩))
      have Mz : ∀ zz : Int, zz = (nn : Int) → xw g M_X10_lay Q 0 0 136 [(0, vR 38), (1, vI kd), (2, vI z), (3, vI w), (4, vI mk), (5, vI wo), (7, vI ((20 * b + k : Nat) : Int))] [vI zz] n F := by
        intro zz hzz
        subst hzz
        refine xw_istore dX10_lay_136 (by decide) ?_
        exact xw_ls [(0, vR 38), (1, vI kd), (2, vI z), (3, vI w), (4, vI mk), (5, vI wo), (7, vI ((20 * b + k : Nat) : Int)), (8, vI (nn : Int))] ⟨rfl, rfl, rfl, rfl, rfl, rfl, rfl, rfl, trivial⟩ M138
      refine xw_bipush (z := 20) dX10_lay_116 (by decide) ?_
      refine xw_iload_n dX10_lay_118 rfl ?_
      refine xw_imul dX10_lay_119 ?_
      refine xw_iload_n dX10_lay_120 rfl ?_
      refine xw_iadd dX10_lay_121 ?_
      refine xw_topi ((20 * b + k : Nat) : Int) (by rw [ez, ew]; omega) ?_
      refine xw_istore dX10_lay_122 (by decide) ?_
      refine xw_iload_n dX10_lay_124 rfl ?_
      refine xw_iconst dX10_lay_125 ?_
      refine xw_icmpne (tgt := 134) dX10_lay_126 (by decide) (by first | assumption | (unfold inI; omega) | (unfold inI at *; omega)) (by first | assumption | (unfold inI; omega) | (unfold inI at *; omega)) (fun c_126 => ?_) (fun c_126 => ?_)
      · skip
        refine xw_bipush (z := 6) dX10_lay_134 (by decide) ?_
        first
          | exact xw_ls [(0, vR 38), (1, vI kd), (2, vI z), (3, vI w), (4, vI mk), (5, vI wo), (7, vI ((20 * b + k : Nat) : Int))] ⟨rfl, rfl, rfl, rfl, rfl, rfl, rfl, trivial⟩ (Mz 9 (by rw [hnn, hpc, if_pos (by omega)]; rfl))
          | exact xw_ls [(0, vR 38), (1, vI kd), (2, vI z), (3, vI w), (4, vI mk), (5, vI wo), (7, vI ((20 * b + k : Nat) : Int))] ⟨rfl, rfl, rfl, rfl, rfl, rfl, rfl, trivial⟩ (Mz 6 (by rw [hnn, hpc, if_neg (by omega)]; rfl))
      · skip
        refine xw_bipush (z := 9) dX10_lay_129 (by decide) ?_
        refine xw_goto (tgt := 136) dX10_lay_131 (by decide) ?_
        first
          | exact xw_ls [(0, vR 38), (1, vI kd), (2, vI z), (3, vI w), (4, vI mk), (5, vI wo), (7, vI ((20 * b + k : Nat) : Int))] ⟨rfl, rfl, rfl, rfl, rfl, rfl, rfl, trivial⟩ (Mz 9 (by rw [hnn, hpc, if_pos (by omega)]; rfl))
          | exact xw_ls [(0, vR 38), (1, vI kd), (2, vI z), (3, vI w), (4, vI mk), (5, vI wo), (7, vI ((20 * b + k : Nat) : Int))] ⟨rfl, rfl, rfl, rfl, rfl, rfl, rfl, trivial⟩ (Mz 6 (by rw [hnn, hpc, if_neg (by omega)]; rfl))
    -- the kind
    have B : ∀ (b k : Nat) (gd : Int), z = (b : Int) → w = (k : Int) → b < bn → k < 20 → (gd = 0 ∨ gd = 1) → (gd = 1 → kok kd mk wo) → (gd = 0 → ¬ kok kd mk wo) → xw g M_X10_lay Q 0 0 102 [(0, vR 38), (1, vI kd), (2, vI z), (3, vI w), (4, vI mk), (5, vI wo)] [vI gd] n F := by
      intro b k gd ez ew hb hk20 hg q1 q2
      refine xw_istore dX10_lay_102 (by decide) ?_
      refine xw_aload_n dX10_lay_104 rfl ?_
      refine xw_iload dX10_lay_105 rfl ?_
      refine xw_iconst dX10_lay_107 ?_
      refine xw_callV (rc := 0) (rs := 0) (mc2 := 0) (ms2 := 0) (a := 38) (As := [vI gd, vI 2]) (st := []) dX10_lay_108 mv_X10_136 h38 rfl rfl (by decide) (by decide) (Nat.le_of_ble_eq_true rfl) rfl (ct_may h38 m0 hg (by decide) (by unfold inI; omega) (fun e => ?_) (fun e => ?_))
      · skip
        refine xw_ifne (tgt := 116) dX10_lay_111 (by decide) (by unfold inI; omega) (fun _ => ?_) (fun c => absurd c (by decide))
        exact xw_ls [(0, vR 38), (1, vI kd), (2, vI z), (3, vI w), (4, vI mk), (5, vI wo)] ⟨rfl, rfl, rfl, rfl, rfl, rfl, trivial⟩ (main b k ez ew hb hk20 (q1 e))
      · skip
        refine xw_ifne (tgt := 116) dX10_lay_111 (by decide) (by unfold inI; omega) (fun c => absurd c (by decide)) (fun _ => ?_)
        exact xw_ls [(0, vR 38)] ⟨rfl, trivial⟩ (Z2 _ (hx2 (by omega) (q2 e) _ (MS_th 2 hF h38 hm).1 (kC_tr kF (MS_th 2 hF h38 hm).2)))
    have A2 : ∀ (b k : Nat) (gd : Int), z = (b : Int) → w = (k : Int) → b < bn → k < 20 → (gd = 0 ∨ gd = 1) → (gd = 1 ↔ ((0 ≤ kd ∧ kd ≤ 3) ∧ (0 ≤ mk ∧ mk ≤ (if 2 ≤ kd then 127 else 0)))) → xw g M_X10_lay Q 0 0 63 [(0, vR 38), (1, vI kd), (2, vI z), (3, vI w), (4, vI mk), (5, vI wo)] [vI gd] n F := by
      intro b k gd ez ew hb hk20 hg q1
      have hy : kok kd mk wo ↔ (gd = 1 ∧ (if kd = 3 then 2 ≤ wo ∧ wo ≤ 100 else wo = 1)) := by unfold kok; rw [q1]; exact ⟨fun ⟨a, b, c⟩ => ⟨⟨a, b⟩, c⟩, fun ⟨⟨a, b⟩, c⟩ => ⟨a, b, c⟩⟩
      refine xw_istore dX10_lay_63 (by decide) ?_
      refine xw_iload dX10_lay_65 rfl ?_
      refine xw_ifeq (tgt := 101) dX10_lay_67 (by decide) (by unfold inI; omega) (fun c_67 => ?_) (fun c_67 => ?_)
      · skip
        refine xw_iconst dX10_lay_101 ?_
        first
          | exact xw_ls [(0, vR 38), (1, vI kd), (2, vI z), (3, vI w), (4, vI mk), (5, vI wo)] ⟨rfl, rfl, rfl, rfl, rfl, rfl, trivial⟩ (B b k 1 ez ew hb hk20 (Or.inr rfl) (fun _ => hy.mpr ⟨by omega, by rw [if_pos (by omega)]; omega⟩) (fun e => absurd e (by decide)))
          | exact xw_ls [(0, vR 38), (1, vI kd), (2, vI z), (3, vI w), (4, vI mk), (5, vI wo)] ⟨rfl, rfl, rfl, rfl, rfl, rfl, trivial⟩ (B b k 1 ez ew hb hk20 (Or.inr rfl) (fun _ => hy.mpr ⟨by omega, by rw [if_neg (by omega)]; omega⟩) (fun e => absurd e (by decide)))
          | exact xw_ls [(0, vR 38), (1, vI kd), (2, vI z), (3, vI w), (4, vI mk), (5, vI wo)] ⟨rfl, rfl, rfl, rfl, rfl, rfl, trivial⟩ (B b k 0 ez ew hb hk20 (Or.inl rfl) (fun e => absurd e (by decide)) (fun _ q => by have q3 := (hy.mp q).2; rw [if_pos (by omega)] at q3; omega))
          | exact xw_ls [(0, vR 38), (1, vI kd), (2, vI z), (3, vI w), (4, vI mk), (5, vI wo)] ⟨rfl, rfl, rfl, rfl, rfl, rfl, trivial⟩ (B b k 0 ez ew hb hk20 (Or.inl rfl) (fun e => absurd e (by decide)) (fun _ q => by have q3 := (hy.mp q).2; rw [if_neg (by omega)] at q3; omega))
          | exact xw_ls [(0, vR 38), (1, vI kd), (2, vI z), (3, vI w), (4, vI mk), (5, vI wo)] ⟨rfl, rfl, rfl, rfl, rfl, rfl, trivial⟩ (B b k 0 ez ew hb hk20 (Or.inl rfl) (fun e => absurd e (by decide)) (fun _ q => by have q3 := (hy.mp q).1; omega))
      · skip
        refine xw_iload_n dX10_lay_70 rfl ?_
        refine xw_iconst dX10_lay_71 ?_
        refine xw_icmpne (tgt := 91) dX10_lay_72 (by decide) (by first | assumption | (unfold inI; omega) | (unfold inI at *; omega)) (by first | assumption | (unfold inI; omega) | (unfold inI at *; omega)) (fun c_72 => ?_) (fun c_72 => ?_)
        · skip
          refine xw_iload dX10_lay_91 rfl ?_
          refine xw_iconst dX10_lay_93 ?_
          refine xw_icmpne (tgt := 101) dX10_lay_94 (by decide) (by first | assumption | (unfold inI; omega) | (unfold inI at *; omega)) (by first | assumption | (unfold inI; omega) | (unfold inI at *; omega)) (fun c_94 => ?_) (fun c_94 => ?_)
          · skip
            refine xw_iconst dX10_lay_101 ?_
            first
              | exact xw_ls [(0, vR 38), (1, vI kd), (2, vI z), (3, vI w), (4, vI mk), (5, vI wo)] ⟨rfl, rfl, rfl, rfl, rfl, rfl, trivial⟩ (B b k 1 ez ew hb hk20 (Or.inr rfl) (fun _ => hy.mpr ⟨by omega, by rw [if_pos (by omega)]; omega⟩) (fun e => absurd e (by decide)))
              | exact xw_ls [(0, vR 38), (1, vI kd), (2, vI z), (3, vI w), (4, vI mk), (5, vI wo)] ⟨rfl, rfl, rfl, rfl, rfl, rfl, trivial⟩ (B b k 1 ez ew hb hk20 (Or.inr rfl) (fun _ => hy.mpr ⟨by omega, by rw [if_neg (by omega)]; omega⟩) (fun e => absurd e (by decide)))
              | exact xw_ls [(0, vR 38), (1, vI kd), (2, vI z), (3, vI w), (4, vI mk), (5, vI wo)] ⟨rfl, rfl, rfl, rfl, rfl, rfl, trivial⟩ (B b k 0 ez ew hb hk20 (Or.inl rfl) (fun e => absurd e (by decide)) (fun _ q => by have q3 := (hy.mp q).2; rw [if_pos (by omega)] at q3; omega))
              | exact xw_ls [(0, vR 38), (1, vI kd), (2, vI z), (3, vI w), (4, vI mk), (5, vI wo)] ⟨rfl, rfl, rfl, rfl, rfl, rfl, trivial⟩ (B b k 0 ez ew hb hk20 (Or.inl rfl) (fun e => absurd e (by decide)) (fun _ q => by have q3 := (hy.mp q).2; rw [if_neg (by omega)] at q3; omega))
              | exact xw_ls [(0, vR 38), (1, vI kd), (2, vI z), (3, vI w), (4, vI mk), (5, vI wo)] ⟨rfl, rfl, rfl, rfl, rfl, rfl, trivial⟩ (B b k 0 ez ew hb hk20 (Or.inl rfl) (fun e => absurd e (by decide)) (fun _ q => by have q3 := (hy.mp q).1; omega))
          · skip
            refine xw_iconst dX10_lay_97 ?_
            refine xw_goto (tgt := 102) dX10_lay_98 (by decide) ?_
            first
              | exact xw_ls [(0, vR 38), (1, vI kd), (2, vI z), (3, vI w), (4, vI mk), (5, vI wo)] ⟨rfl, rfl, rfl, rfl, rfl, rfl, trivial⟩ (B b k 1 ez ew hb hk20 (Or.inr rfl) (fun _ => hy.mpr ⟨by omega, by rw [if_pos (by omega)]; omega⟩) (fun e => absurd e (by decide)))
              | exact xw_ls [(0, vR 38), (1, vI kd), (2, vI z), (3, vI w), (4, vI mk), (5, vI wo)] ⟨rfl, rfl, rfl, rfl, rfl, rfl, trivial⟩ (B b k 1 ez ew hb hk20 (Or.inr rfl) (fun _ => hy.mpr ⟨by omega, by rw [if_neg (by omega)]; omega⟩) (fun e => absurd e (by decide)))
              | exact xw_ls [(0, vR 38), (1, vI kd), (2, vI z), (3, vI w), (4, vI mk), (5, vI wo)] ⟨rfl, rfl, rfl, rfl, rfl, rfl, trivial⟩ (B b k 0 ez ew hb hk20 (Or.inl rfl) (fun e => absurd e (by decide)) (fun _ q => by have q3 := (hy.mp q).2; rw [if_pos (by omega)] at q3; omega))
              | exact xw_ls [(0, vR 38), (1, vI kd), (2, vI z), (3, vI w), (4, vI mk), (5, vI wo)] ⟨rfl, rfl, rfl, rfl, rfl, rfl, trivial⟩ (B b k 0 ez ew hb hk20 (Or.inl rfl) (fun e => absurd e (by decide)) (fun _ q => by have q3 := (hy.mp q).2; rw [if_neg (by omega)] at q3; omega))
              | exact xw_ls [(0, vR 38), (1, vI kd), (2, vI z), (3, vI w), (4, vI mk), (5, vI wo)] ⟨rfl, rfl, rfl, rfl, rfl, rfl, trivial⟩ (B b k 0 ez ew hb hk20 (Or.inl rfl) (fun e => absurd e (by decide)) (fun _ q => by have q3 := (hy.mp q).1; omega))
        · skip
          refine xw_iload dX10_lay_75 rfl ?_
          refine xw_iconst dX10_lay_77 ?_
          refine xw_icmplt (tgt := 101) dX10_lay_78 (by decide) (by first | assumption | (unfold inI; omega) | (unfold inI at *; omega)) (by first | assumption | (unfold inI; omega) | (unfold inI at *; omega)) (fun c_78 => ?_) (fun c_78 => ?_)
          · skip
            refine xw_iconst dX10_lay_101 ?_
            first
              | exact xw_ls [(0, vR 38), (1, vI kd), (2, vI z), (3, vI w), (4, vI mk), (5, vI wo)] ⟨rfl, rfl, rfl, rfl, rfl, rfl, trivial⟩ (B b k 1 ez ew hb hk20 (Or.inr rfl) (fun _ => hy.mpr ⟨by omega, by rw [if_pos (by omega)]; omega⟩) (fun e => absurd e (by decide)))
              | exact xw_ls [(0, vR 38), (1, vI kd), (2, vI z), (3, vI w), (4, vI mk), (5, vI wo)] ⟨rfl, rfl, rfl, rfl, rfl, rfl, trivial⟩ (B b k 1 ez ew hb hk20 (Or.inr rfl) (fun _ => hy.mpr ⟨by omega, by rw [if_neg (by omega)]; omega⟩) (fun e => absurd e (by decide)))
              | exact xw_ls [(0, vR 38), (1, vI kd), (2, vI z), (3, vI w), (4, vI mk), (5, vI wo)] ⟨rfl, rfl, rfl, rfl, rfl, rfl, trivial⟩ (B b k 0 ez ew hb hk20 (Or.inl rfl) (fun e => absurd e (by decide)) (fun _ q => by have q3 := (hy.mp q).2; rw [if_pos (by omega)] at q3; omega))
              | exact xw_ls [(0, vR 38), (1, vI kd), (2, vI z), (3, vI w), (4, vI mk), (5, vI wo)] ⟨rfl, rfl, rfl, rfl, rfl, rfl, trivial⟩ (B b k 0 ez ew hb hk20 (Or.inl rfl) (fun e => absurd e (by decide)) (fun _ q => by have q3 := (hy.mp q).2; rw [if_neg (by omega)] at q3; omega))
              | exact xw_ls [(0, vR 38), (1, vI kd), (2, vI z), (3, vI w), (4, vI mk), (5, vI wo)] ⟨rfl, rfl, rfl, rfl, rfl, rfl, trivial⟩ (B b k 0 ez ew hb hk20 (Or.inl rfl) (fun e => absurd e (by decide)) (fun _ q => by have q3 := (hy.mp q).1; omega))
          · skip
            refine xw_iload dX10_lay_81 rfl ?_
            refine xw_bipush (z := 100) dX10_lay_83 (by decide) ?_
            refine xw_icmpgt (tgt := 101) dX10_lay_85 (by decide) (by first | assumption | (unfold inI; omega) | (unfold inI at *; omega)) (by first | assumption | (unfold inI; omega) | (unfold inI at *; omega)) (fun c_85 => ?_) (fun c_85 => ?_)
            · skip
              refine xw_iconst dX10_lay_101 ?_
              first
                | exact xw_ls [(0, vR 38), (1, vI kd), (2, vI z), (3, vI w), (4, vI mk), (5, vI wo)] ⟨rfl, rfl, rfl, rfl, rfl, rfl, trivial⟩ (B b k 1 ez ew hb hk20 (Or.inr rfl) (fun _ => hy.mpr ⟨by omega, by rw [if_pos (by omega)]; omega⟩) (fun e => absurd e (by decide)))
                | exact xw_ls [(0, vR 38), (1, vI kd), (2, vI z), (3, vI w), (4, vI mk), (5, vI wo)] ⟨rfl, rfl, rfl, rfl, rfl, rfl, trivial⟩ (B b k 1 ez ew hb hk20 (Or.inr rfl) (fun _ => hy.mpr ⟨by omega, by rw [if_neg (by omega)]; omega⟩) (fun e => absurd e (by decide)))
                | exact xw_ls [(0, vR 38), (1, vI kd), (2, vI z), (3, vI w), (4, vI mk), (5, vI wo)] ⟨rfl, rfl, rfl, rfl, rfl, rfl, trivial⟩ (B b k 0 ez ew hb hk20 (Or.inl rfl) (fun e => absurd e (by decide)) (fun _ q => by have q3 := (hy.mp q).2; rw [if_pos (by omega)] at q3; omega))
                | exact xw_ls [(0, vR 38), (1, vI kd), (2, vI z), (3, vI w), (4, vI mk), (5, vI wo)] ⟨rfl, rfl, rfl, rfl, rfl, rfl, trivial⟩ (B b k 0 ez ew hb hk20 (Or.inl rfl) (fun e => absurd e (by decide)) (fun _ q => by have q3 := (hy.mp q).2; rw [if_neg (by omega)] at q3; omega))
                | exact xw_ls [(0, vR 38), (1, vI kd), (2, vI z), (3, vI w), (4, vI mk), (5, vI wo)] ⟨rfl, rfl, rfl, rfl, rfl, rfl, trivial⟩ (B b k 0 ez ew hb hk20 (Or.inl rfl) (fun e => absurd e (by decide)) (fun _ q => by have q3 := (hy.mp q).1; omega))
            · skip
              refine xw_goto (tgt := 97) dX10_lay_88 (by decide) ?_
              refine xw_iconst dX10_lay_97 ?_
              refine xw_goto (tgt := 102) dX10_lay_98 (by decide) ?_
              first
                | exact xw_ls [(0, vR 38), (1, vI kd), (2, vI z), (3, vI w), (4, vI mk), (5, vI wo)] ⟨rfl, rfl, rfl, rfl, rfl, rfl, trivial⟩ (B b k 1 ez ew hb hk20 (Or.inr rfl) (fun _ => hy.mpr ⟨by omega, by rw [if_pos (by omega)]; omega⟩) (fun e => absurd e (by decide)))
                | exact xw_ls [(0, vR 38), (1, vI kd), (2, vI z), (3, vI w), (4, vI mk), (5, vI wo)] ⟨rfl, rfl, rfl, rfl, rfl, rfl, trivial⟩ (B b k 1 ez ew hb hk20 (Or.inr rfl) (fun _ => hy.mpr ⟨by omega, by rw [if_neg (by omega)]; omega⟩) (fun e => absurd e (by decide)))
                | exact xw_ls [(0, vR 38), (1, vI kd), (2, vI z), (3, vI w), (4, vI mk), (5, vI wo)] ⟨rfl, rfl, rfl, rfl, rfl, rfl, trivial⟩ (B b k 0 ez ew hb hk20 (Or.inl rfl) (fun e => absurd e (by decide)) (fun _ q => by have q3 := (hy.mp q).2; rw [if_pos (by omega)] at q3; omega))
                | exact xw_ls [(0, vR 38), (1, vI kd), (2, vI z), (3, vI w), (4, vI mk), (5, vI wo)] ⟨rfl, rfl, rfl, rfl, rfl, rfl, trivial⟩ (B b k 0 ez ew hb hk20 (Or.inl rfl) (fun e => absurd e (by decide)) (fun _ q => by have q3 := (hy.mp q).2; rw [if_neg (by omega)] at q3; omega))
                | exact xw_ls [(0, vR 38), (1, vI kd), (2, vI z), (3, vI w), (4, vI mk), (5, vI wo)] ⟨rfl, rfl, rfl, rfl, rfl, rfl, trivial⟩ (B b k 0 ez ew hb hk20 (Or.inl rfl) (fun e => absurd e (by decide)) (fun _ q => by have q3 := (hy.mp q).1; omega))
    have A1 : ∀ (b k : Nat) (gd : Int), z = (b : Int) → w = (k : Int) → b < bn → k < 20 → (gd = 0 ∨ gd = 1) → (gd = 1 ↔ (0 ≤ kd ∧ kd ≤ 3)) → xw g M_X10_lay Q 0 0 30 [(0, vR 38), (1, vI kd), (2, vI z), (3, vI w), (4, vI mk), (5, vI wo)] [vI gd] n F := by
      intro b k gd ez ew hb hk20 hg q1
      have C : ∀ mm : Int, (0 ≤ kd ∧ kd ≤ 3) → 0 ≤ mk → mm = (if 2 ≤ kd then 127 else 0) → xw g M_X10_lay Q 0 0 55 [(0, vR 38), (1, vI kd), (2, vI z), (3, vI w), (4, vI mk), (5, vI wo)] [vI mm, vI mk] n F := by
        intro mm q2 q3 q4
        have im : inI mm := by rw [q4]; unfold inI; split <;> omega
        refine xw_icmpgt (tgt := 62) dX10_lay_55 (by decide) (by first | assumption | (unfold inI; omega) | (unfold inI at *; omega)) (by first | assumption | (unfold inI; omega) | (unfold inI at *; omega)) (fun c_55 => ?_) (fun c_55 => ?_)
        · skip
          refine xw_iconst dX10_lay_62 ?_
          first
            | exact A2 b k 1 ez ew hb hk20 (Or.inr rfl) ⟨fun _ => ⟨q2, q3, by rw [← q4]; omega⟩, fun _ => rfl⟩
            | exact A2 b k 0 ez ew hb hk20 (Or.inl rfl) ⟨fun e => absurd e (by decide), fun e => by have := e.2.2; rw [← q4] at this; omega⟩
        · skip
          refine xw_iconst dX10_lay_58 ?_
          refine xw_goto (tgt := 63) dX10_lay_59 (by decide) ?_
          first
            | exact A2 b k 1 ez ew hb hk20 (Or.inr rfl) ⟨fun _ => ⟨q2, q3, by rw [← q4]; omega⟩, fun _ => rfl⟩
            | exact A2 b k 0 ez ew hb hk20 (Or.inl rfl) ⟨fun e => absurd e (by decide), fun e => by have := e.2.2; rw [← q4] at this; omega⟩
      refine xw_istore dX10_lay_30 (by decide) ?_
      refine xw_iload dX10_lay_32 rfl ?_
      refine xw_ifeq (tgt := 62) dX10_lay_34 (by decide) (by unfold inI; omega) (fun c_34 => ?_) (fun c_34 => ?_)
      · skip
        refine xw_iconst dX10_lay_62 ?_
        exact xw_ls [(0, vR 38), (1, vI kd), (2, vI z), (3, vI w), (4, vI mk), (5, vI wo)] ⟨rfl, rfl, rfl, rfl, rfl, rfl, trivial⟩ (A2 b k 0 ez ew hb hk20 (Or.inl rfl) ⟨fun e => absurd e (by decide), fun e => by omega⟩)
      · skip
        refine xw_iload dX10_lay_37 rfl ?_
        refine xw_iflt (tgt := 62) dX10_lay_39 (by decide) (by first | assumption | (unfold inI; omega) | (unfold inI at *; omega)) (fun c_39 => ?_) (fun c_39 => ?_)
        · skip
          refine xw_iconst dX10_lay_62 ?_
          exact xw_ls [(0, vR 38), (1, vI kd), (2, vI z), (3, vI w), (4, vI mk), (5, vI wo)] ⟨rfl, rfl, rfl, rfl, rfl, rfl, trivial⟩ (A2 b k 0 ez ew hb hk20 (Or.inl rfl) ⟨fun e => absurd e (by decide), fun e => by omega⟩)
        · skip
          refine xw_iload dX10_lay_42 rfl ?_
          refine xw_iload_n dX10_lay_44 rfl ?_
          refine xw_iconst dX10_lay_45 ?_
          refine xw_icmplt (tgt := 54) dX10_lay_46 (by decide) (by first | assumption | (unfold inI; omega) | (unfold inI at *; omega)) (by first | assumption | (unfold inI; omega) | (unfold inI at *; omega)) (fun c_46 => ?_) (fun c_46 => ?_)
          · skip
            refine xw_iconst dX10_lay_54 ?_
            first
              | exact xw_ls [(0, vR 38), (1, vI kd), (2, vI z), (3, vI w), (4, vI mk), (5, vI wo)] ⟨rfl, rfl, rfl, rfl, rfl, rfl, trivial⟩ (C 0 (by omega) (by omega) (by rw [if_neg (by omega)]))
              | exact xw_ls [(0, vR 38), (1, vI kd), (2, vI z), (3, vI w), (4, vI mk), (5, vI wo)] ⟨rfl, rfl, rfl, rfl, rfl, rfl, trivial⟩ (C 127 (by omega) (by omega) (by rw [if_pos (by omega)]))
          · skip
            refine xw_bipush (z := 127) dX10_lay_49 (by decide) ?_
            refine xw_goto (tgt := 55) dX10_lay_51 (by decide) ?_
            first
              | exact xw_ls [(0, vR 38), (1, vI kd), (2, vI z), (3, vI w), (4, vI mk), (5, vI wo)] ⟨rfl, rfl, rfl, rfl, rfl, rfl, trivial⟩ (C 0 (by omega) (by omega) (by rw [if_neg (by omega)]))
              | exact xw_ls [(0, vR 38), (1, vI kd), (2, vI z), (3, vI w), (4, vI mk), (5, vI wo)] ⟨rfl, rfl, rfl, rfl, rfl, rfl, trivial⟩ (C 127 (by omega) (by omega) (by rw [if_pos (by omega)]))
    refine xw_aload_n dX10_lay_5 rfl ?_
    refine xw_iload_n dX10_lay_6 rfl ?_
    refine xw_iload_n dX10_lay_7 rfl ?_
    refine xw_callV (rc := 0) (rs := 0) (mc2 := 0) (ms2 := 0) (a := 38) (As := [vI z, vI w]) (st := []) dX10_lay_8 mv_X10_143 h38 rfl rfl (by decide) (by decide) (Nat.le_of_ble_eq_true rfl) rfl (ct_isRow h38 m0 m1 bb hz hw9 (fun b k e1 e2 e3 e4 => ?_) (fun q => ?_))
    · skip
      refine xw_ifne (tgt := 16) dX10_lay_11 (by decide) (by unfold inI; omega) (fun _ => ?_) (fun c => absurd c (by decide))
      refine xw_iload_n dX10_lay_16 rfl ?_
      refine xw_iflt (tgt := 29) dX10_lay_17 (by decide) (by first | assumption | (unfold inI; omega) | (unfold inI at *; omega)) (fun c_17 => ?_) (fun c_17 => ?_)
      · skip
        refine xw_iconst dX10_lay_29 ?_
        first
          | exact A1 b k 1 e1 e2 e3 e4 (Or.inr rfl) ⟨fun _ => by omega, fun _ => rfl⟩
          | exact A1 b k 0 e1 e2 e3 e4 (Or.inl rfl) ⟨fun e => absurd e (by decide), fun e => by omega⟩
      · skip
        refine xw_iload_n dX10_lay_20 rfl ?_
        refine xw_iconst dX10_lay_21 ?_
        refine xw_icmpgt (tgt := 29) dX10_lay_22 (by decide) (by first | assumption | (unfold inI; omega) | (unfold inI at *; omega)) (by first | assumption | (unfold inI; omega) | (unfold inI at *; omega)) (fun c_22 => ?_) (fun c_22 => ?_)
        · skip
          refine xw_iconst dX10_lay_29 ?_
          first
            | exact A1 b k 1 e1 e2 e3 e4 (Or.inr rfl) ⟨fun _ => by omega, fun _ => rfl⟩
            | exact A1 b k 0 e1 e2 e3 e4 (Or.inl rfl) ⟨fun e => absurd e (by decide), fun e => by omega⟩
        · skip
          refine xw_iconst dX10_lay_25 ?_
          refine xw_goto (tgt := 30) dX10_lay_26 (by decide) ?_
          first
            | exact A1 b k 1 e1 e2 e3 e4 (Or.inr rfl) ⟨fun _ => by omega, fun _ => rfl⟩
            | exact A1 b k 0 e1 e2 e3 e4 (Or.inl rfl) ⟨fun e => absurd e (by decide), fun e => by omega⟩
    · skip
      refine xw_ifne (tgt := 16) dX10_lay_11 (by decide) (by unfold inI; omega) (fun c => absurd c (by decide)) (fun _ => ?_)
      exact xw_ls [(0, vR 38)] ⟨rfl, trivial⟩ (Z1 _ (hx1 q _ (MS_th 1 hF h38 hm).1 (kC_tr kF (MS_th 1 hF h38 hm).2)))

  obtain ⟨m, h38, hm, _⟩ := id h
  refine xw_aload_n dX10_lay_0 rfl ?_
  refine xw_iconst dX10_lay_1 ?_
  refine xw_putfield dX10_lay_2 (fp_X10_1 _) h38 rfl rfl ?_
  rw [xmd_0]
  exact S _ (MS_th 0 h h38 hm).1 (MS_th 0 h h38 hm).2
end C85
