/-! the model moves a stick -/
def sel (x y z : Int) (k : Nat) : Int := if k % 3 = 0 then x else if k % 3 = 1 then y else z
theorem near_iff {pt : Nat → Int} {pc : Nat} {x y z : Int} : nearAll pt pc x y z ↔ ∀ k, k < 3 * (pc + 1) → nr (pt k + sel x y z k) := by
  constructor
  · intro h k hk
    have q := h (k / 3) (by omega)
    unfold sel
    rcases (by omega : k % 3 = 0 ∨ k % 3 = 1 ∨ k % 3 = 2) with e | e | e
    · rw [if_pos e]; have e2 : 3 * (k / 3) = k := by omega
      rw [e2] at q; exact q.1
    · rw [if_neg (by omega), if_pos e]; have e2 : 3 * (k / 3) + 1 = k := by omega
      rw [e2] at q; exact q.2.1
    · rw [if_neg (by omega), if_neg (by omega)]; have e2 : 3 * (k / 3) + 2 = k := by omega
      rw [e2] at q; exact q.2.2
  · intro h i hi
    have q0 := h (3 * i) (by omega)
    have q1 := h (3 * i + 1) (by omega)
    have q2 := h (3 * i + 2) (by omega)
    unfold sel at q0 q1 q2
    rw [if_pos (by omega)] at q0
    rw [if_neg (by omega), if_pos (by omega)] at q1
    rw [if_neg (by omega), if_neg (by omega)] at q2
    exact ⟨q0, q1, q2⟩
theorem stf_bk {P : Nat → Int} {a m : Nat} {v : Nat → Int} (c : Nat) (hc9 : m ≤ c) : stf (stf P a m v) a c (fun j => P (a + j)) = P := by
  funext t
  unfold stf
  by_cases e : a ≤ t ∧ t < a + c
  · rw [if_pos e]
    show P (a + (t - a)) = P t
    rw [show a + (t - a) = t by omega]
  · rw [if_neg e, if_neg (by omega)]
theorem ltM_R {gn s : Nat} {K P Z : Nat → Int} {σ : Nat → xSt} {X : xSt} {r : Int} (h : ltM gn K P Z s r) (hall : ∀ t, t < gn → K t = (σ t).1 ∧ Z t = hrS (σ t) ∧ ∀ j, j < 9 → P (9 * t + j) = ptS (σ t) j) (hK : K s = X.1) (hX : ∀ j, j < 9 → P (9 * s + j) = ptS X j) : ltR gn σ X (fun t => t ≠ s) r := by
  rcases h with ⟨h1, h2⟩ | ⟨o, h1, h2, h3, h4, h5, h6⟩
  · exact Or.inl ⟨h1, fun t a b c => fun q => h2 t a (by rw [(hall t a).2.1]; exact b) c ((tMS_iff hK (hall t a).1 hX (hall t a).2.2).mpr q)⟩
  · exact Or.inr ⟨o, h1, h2, by rw [← (hall o h1).2.1]; exact h3, h4, (tMS_iff hK (hall o h1).1 hX (hall o h1).2.2).mp h5, fun t a b c => fun q => h6 t a (by rw [(hall t (by omega)).2.1]; exact b) c ((tMS_iff hK (hall t (by omega)).1 hX (hall t (by omega)).2.2).mpr q)⟩
theorem tm3 (t : Nat) : (t : Int).tmod 3 = ((t % 3 : Nat) : Int) := (Int.ofNat_tmod t 3).symm
section C84
variable {g : xG} {y : xM} {Q : xP} {n : Nat} {f : xH} {th : Int} {bn : Nat} {β : Nat → xBx} {gn : Nat} {σ : Nat → xSt} {d : Nat → Int} {as : List xAc} {ps : Nat} {pb : Nat → Int} {pu : Nat} {pr : Nat → Int}
set_option maxHeartbeats 4000000 in
theorem mct_move {z x y9 w : Int} (h : MS f th bn β gn σ d as ps pb pu pr) (hch : ∀ x ∈ as, x.2.1.toNat < gn) (hz : inI z) (hx9 : inI x) (hy9 : inI y9) (hw9 : inI w) (h1 : ∀ (s : Nat) f1, z = (s : Int) → s < gn → hrS (σ s) = 1 → ¬ nearAll (ptS (σ s)) (pcS (σ s)) x y9 w → MS f1 0 bn (β) gn σ d as ps pb pu pr → kC f f1 → Q (.inl (some (vI (-3)))) n f1) (h2 : ∀ (s : Nat) r f1, z = (s : Int) → s < gn → hrS (σ s) = 1 → nearAll (ptS (σ s)) (pcS (σ s)) x y9 w → ltR gn (xui σ s (mvS (σ s) x y9 w)) (mvS (σ s) x y9 w) (fun t => t ≠ s) r → r ≠ -1 → MS f1 0 bn (β) gn σ d as ps pb pu pr → kC f f1 → Q (.inl (some (vI (-10 - r)))) n f1) (h3 : ∀ (s : Nat) f1, z = (s : Int) → s < gn → hrS (σ s) = 1 → nearAll (ptS (σ s)) (pcS (σ s)) x y9 w → ltR gn (xui σ s (mvS (σ s) x y9 w)) (mvS (σ s) x y9 w) (fun t => t ≠ s) (-1) → MS f1 0 bn β gn (xui σ s (mvS (σ s) x y9 w)) d (aCt 2 z x y9 w :: as.take 7) ps pb pu pr → kC f f1 → Q (.inl (some (vI 1))) n f1) (hx1 : ¬ hre gn σ z → ∀ f1, MS f1 1 bn β gn σ d as ps pb pu pr → kC f f1 → Q (.inl (some (vI 0))) n f1) : xct g M_X10_move 0 0 [vR 38, vI z, vI x, vI y9, vI w] n f Q := by
  refine xct_of rfl rfl (Nat.le_of_ble_eq_true rfl) ?_
  have S : ∀ F, MS F 0 bn β gn σ d as ps pb pu pr → kC f F → xw g M_X10_move Q 0 0 5 [(0, vR 38), (1, vI z), (2, vI x), (3, vI y9), (4, vI w)] [] n F := by
    intro F hF kF
    obtain ⟨m, h38, hm, hbx, hst, hac, hpg, hpr, hsh, h40, hd1, hd2⟩ := id hF
    obtain ⟨m0, m1, m6, m7, m13, m14, m15, m23, m42, m60⟩ := id hm
    have ZZ : ∀ f1, Q (.inl (some (vI 0))) n f1 → xw g M_X10_move Q 0 0 13 [(0, vR 38)] [] n f1 := by
      intro f1 hq
      refine xw_iconst dX10_move_13 ?_
      exact xw_iret dX10_move_14 rfl hq
    obtain ⟨K, M, W, P, Z, s43, s44, s45, s46, s47, hgn, hall, hz9⟩ := id hst
    obtain ⟨A, S9, AP, a52, a53, a54, hl8, hai, hap⟩ := id hac
    obtain ⟨ah0, b55⟩ := msh_at hsh (k := 55) (t := 0) (N := 9) (by decide)
    have b55 : F 55 = some (aI 9 ah0) := b55
    obtain ⟨cu, b48⟩ := msh_at hsh (k := 48) (t := 1) (N := 3) (by decide)
    obtain ⟨cv, b49⟩ := msh_at hsh (k := 49) (t := 1) (N := 3) (by decide)
    obtain ⟨cw, b50⟩ := msh_at hsh (k := 50) (t := 1) (N := 3) (by decide)
    obtain ⟨cd, b51⟩ := msh_at hsh (k := 51) (t := 1) (N := 3) (by decide)
    have b48 : F 48 = some (aL 3 cu) := b48
    have b49 : F 49 = some (aL 3 cv) := b49
    have b50 : F 50 = some (aL 3 cw) := b50
    have b51 : F 51 = some (aL 3 cd) := b51
    have pce : ∀ s, s < gn → pcz (K s) = pcS (σ s) := fun s hs => by unfold pcz pcS; rw [(hall s hs).2.1]
    have Kin : ∀ s, s < gn → inI (K s) := fun s hs => by have := (hall s hs).1.1; rw [(hall s hs).2.1]; unfold inI; omega
    have htl : (as.take 7).length = min as.length 7 := by rw [List.length_take]; omega
    have main : ∀ s : Nat, z = (s : Int) → s < gn → hrS (σ s) = 1 → xw g M_X10_move Q 0 0 26 [(0, vR 38), (1, vI (s : Int)), (2, vI x), (3, vI y9), (4, vI w), (5, vI ((3 * (pcS (σ s) + 1) : Nat) : Int))] [] n F := by
      intro s ez e2 e3
      have q := hall s e2
      have hnr := q.1.2.2.2.2
      have hpp := pcS_in (σ s)
      obtain ⟨nn, hnn⟩ : ∃ nn, nn = 3 * (pcS (σ s) + 1) := ⟨_, rfl⟩
      rw [← hnn]
      have hn9 : nn ≤ 9 := by omega
      have Pe : ∀ j, j < 9 → P (9 * s + j) = ptS (σ s) j := q.2.2.2.2.2
      obtain ⟨P1, hP1⟩ : ∃ P1, P1 = stf P (9 * s) nn (fun k => P (9 * s + k) + sel x y9 w k) := ⟨_, rfl⟩
      obtain ⟨X, hX⟩ : ∃ X, X = mvS (σ s) x y9 w := ⟨_, rfl⟩
      have hXp : ∀ j, j < 9 → P1 (9 * s + j) = ptS X j := by
        intro j hj
        have e9 : ptS X j = shf (ptS (σ s)) (pcS (σ s) + 1) x y9 w j := by rw [hX]; rfl
        rw [e9]
        unfold shf
        rw [← hnn, hP1]
        by_cases e : j < nn
        · rw [stf_in e, if_pos e, Pe j hj]; rfl
        · rw [stf_out (by omega), if_neg e, Pe j hj]
      have hP1o : ∀ j, (j < 9 * s ∨ 9 * s + 9 ≤ j) → P1 j = P j := fun j hj => by rw [hP1]; exact stf_out (by omega)
      -- from 196 on all lie near
      have R : (∀ k, k < nn → nr (P (9 * s + k) + sel x y9 w k)) → ∀ G : xH, G 38 = some (oMd m) → (∀ k, k ≠ 46 → k ≠ 55 → G k = F k) → G 46 = some (aI 909 P1) → G 55 = some (aI 9 (stf ah0 0 9 (Ps P s))) → xw g M_X10_move Q 0 0 196 [(0, vR 38), (1, vI (s : Int)), (5, vI (nn : Int))] [] n G := by
        intro hall9 G G38 Gk G46 G55
        have hna : nearAll (ptS (σ s)) (pcS (σ s)) x y9 w := near_iff.mpr (fun k hk => by rw [← Pe k (by omega)]; exact hall9 k (by omega))
        have okX : okK X := by rw [hX]; exact okK_mv q.1 hna
        have hcn : hc (xui σ s X) gn = hc σ gn := hc_cg gn (fun t ht9 => by
          by_cases e : t = s
          · subst e; rw [xui_s, hX]; rfl
          · rw [xui_n _ _ e])
        have g43 : G 43 = some (aI 101 K) := (Gk 43 (by decide) (by decide)).trans s43
        have g47 : G 47 = some (aZ 101 Z) := (Gk 47 (by decide) (by decide)).trans s47
        have hraw : mRaw G K P1 Z := ⟨g43, G46, g47, cu, cv, cw, cd, (Gk 48 (by decide) (by decide)).trans b48, (Gk 49 (by decide) (by decide)).trans b49, (Gk 50 (by decide) (by decide)).trans b50, (Gk 51 (by decide) (by decide)).trans b51⟩
        have hsc : fr vcS G G := fr_rf _ G
        have hall2 : ∀ t, t < gn → K t = (xui σ s X t).1 ∧ Z t = hrS (xui σ s X t) ∧ ∀ j, j < 9 → P1 (9 * t + j) = ptS (xui σ s X t) j := by
          intro t ht9
          by_cases e : t = s
          · subst e
            rw [xui_s]
            exact ⟨by rw [hX]; exact q.2.1, by rw [hX]; exact q.2.2.2.2.1, hXp⟩
          · rw [xui_n _ _ e]
            have q9 := hall t ht9
            exact ⟨q9.2.1, q9.2.2.2.2.1, fun j hj => by rw [hP1o _ (by omega)]; exact q9.2.2.2.2.2 j hj⟩
        -- after the touching
        have V : ∀ (G1 : xH) (r : Int), fr vcS G G1 → mRaw G1 K P1 Z → ltR gn (xui σ s X) X (fun t => t ≠ s) r → xw g M_X10_move Q 0 0 201 [(0, vR 38), (1, vI (s : Int))] [vI r] n G1 := by
          intro G1 r hf1 hr1 hlt
          have hrr := ltR_rg hlt
          have n38 : G1 38 = some (oMd m) := fr_at hf1 G38 (by decide)
          have n55 : G1 55 = some (aI 9 (stf ah0 0 9 (Ps P s))) := fr_at hf1 G55 (by decide)
          have n46 : G1 46 = some (aI 909 P1) := hr1.2.1
          have hsh1 : ∀ (H : xH) (c9 : Nat → Int), H 55 = some (aI 9 c9) → (∀ k, k ≠ 46 → k ≠ 55 → k ≠ 38 → k ≠ 52 → k ≠ 53 → k ≠ 54 → H k = G1 k) → msh H := by
            intro H c9 k55 kH p hp
            by_cases e55 : p.1 = 55
            · have e2 := (by decide : ∀ p ∈ shL, p.1 = 55 → p.2 = (0, 9)) p hp e55
              exact ⟨c9, by rw [e55, e2]; exact k55⟩
            · have kk := kH p.1 ((by decide : ∀ p ∈ shL, p.1 ≠ 46) p hp) e55 ((by decide : ∀ p ∈ shL, p.1 ≠ 38) p hp) ((by decide : ∀ p ∈ shL, p.1 ≠ 52) p hp) ((by decide : ∀ p ∈ shL, p.1 ≠ 53) p hp) ((by decide : ∀ p ∈ shL, p.1 ≠ 54) p hp)
              by_cases ev : p.1 ∈ vcS
              · obtain ⟨_, _, _, U, V, W9, D, k48, k49, k50, k51⟩ := hr1
                have e4 := (by decide : ∀ p ∈ shL, p.1 ∈ vcS → p.2 = (1, 3)) p hp ev
                rw [e4, kk]
                simp only [vcS, List.mem_cons, List.not_mem_nil, or_false] at ev
                rcases ev with e | e | e | e <;> rw [e]
                · exact ⟨U, k48⟩
                · exact ⟨V, k49⟩
                · exact ⟨W9, k50⟩
                · exact ⟨D, k51⟩
              · obtain ⟨c1, hc1⟩ := hsh p hp
                exact ⟨c1, kk.trans ((hf1 p.1 ev).trans ((Gk p.1 ((by decide : ∀ p ∈ shL, p.1 ≠ 46) p hp) e55).trans hc1))⟩
          have L5 : ∀ (H : xH) (mm A2 S2 AP2 : Nat → Int), H 38 = some (oMd mm) → (mm 23 = ((min as.length 7 + 1 : Nat) : Int) ∧ ∀ k, k ≠ 23 → mm k = m k) → H 46 = some (aI 909 P) → (∃ c9, H 55 = some (aI 9 c9) ∧ ∀ j, j < 9 → c9 j = P1 (9 * s + j)) → H 52 = some (aI 8 A2) → H 53 = some (aI 8 S2) → H 54 = some (aI 72 AP2) → mActd A S9 AP P A2 S2 AP2 (min as.length 7) (as.length - min as.length 7) 2 s → (∀ k, k ≠ 46 → k ≠ 55 → k ≠ 38 → k ≠ 52 → k ≠ 53 → k ≠ 54 → H k = G1 k) → ltR gn (xui σ s X) X (fun t => t ≠ s) (-1) → ∀ (j t : Nat), t + j = 9 → xw g M_X10_move Q 0 0 282 [(0, vR 38), (1, vI (s : Int)), (7, vI (t : Int))] [] n (xup H 46 (aI 909 (stf P (9 * s) t (fun j => P1 (9 * s + j))))) := by
            intro H mm A2 S2 AP2 k38 kmm k46 ⟨c9, k55, hc9⟩ k52 k53 k54 hA kH hlt1 j
            induction j with
            | zero =>
              intro t ht9
              obtain rfl : t = 9 := by omega
              have q3 : ∀ f1, MS f1 0 bn β gn (xui σ s X) d (aCt 2 z x y9 w :: as.take 7) ps pb pu pr → kC f f1 → Q (.inl (some (vI 1))) n f1 := fun f1 a b => h3 s f1 ez e2 e3 hna (by rw [← hX]; exact hlt1) (by rw [← hX]; exact a) b
              refine xw_iload dX10_move_282 rfl ?_
              refine xw_bipush (z := 9) dX10_move_284 (by decide) ?_
              refine xw_icmpge (tgt := 314) dX10_move_286 (by decide) (by first | assumption | (unfold inI; omega) | (unfold inI at *; omega)) (by first | assumption | (unfold inI; omega) | (unfold inI at *; omega)) (fun c_286 => ?_) (fun c_286 => ?_)
              · skip
                refine xw_iconst dX10_move_314 ?_
                exact xw_iret dX10_move_315 rfl (q3 _ ⟨mm, k38, ⟨(kmm.2 0 (by decide)).trans m0, (kmm.2 1 (by decide)).trans m1, (kmm.2 6 (by decide)).trans m6, by rw [kmm.2 7 (by decide), m7, hcn], (kmm.2 13 (by decide)).trans m13, (kmm.2 14 (by decide)).trans m14, (kmm.2 15 (by decide)).trans m15, by rw [kmm.1, List.length_cons, htl], (kmm.2 42 (by decide)).trans m42, (kmm.2 60 (by decide)).trans m60⟩, mbx_fr hbx (fun k q1 q2 => (xup_n _ _ (by omega)).trans ((kH k (by omega) (by omega) (by omega) (by omega) (by omega) (by omega)).trans ((hf1 k (fun q => by simp only [vcS, List.mem_cons, List.not_mem_nil, or_false] at q; omega)).trans (Gk k (by omega) (by omega))))), mst_set e2 hgn (fun t ht9 => hall t ht9) okX (by rw [hX]; rfl) (by rw [hX]; rfl) (by rw [hX]; rfl) (P1 := stf P (9 * s) 9 (fun j => P1 (9 * s + j))) (Z1 := Z) (fun j hj => by rw [stf_in hj]; exact hXp j hj) (fun j hj => stf_out (by omega)) (by rw [hX]; exact q.2.2.2.2.1) (fun _ _ => rfl) hz9 ((kH 43 (by decide) (by decide) (by decide) (by decide) (by decide) (by decide)).trans hr1.1) ((kH 44 (by decide) (by decide) (by decide) (by decide) (by decide) (by decide)).trans ((hf1 44 (by decide)).trans ((Gk 44 (by decide) (by decide)).trans s44))) ((kH 45 (by decide) (by decide) (by decide) (by decide) (by decide) (by decide)).trans ((hf1 45 (by decide)).trans ((Gk 45 (by decide) (by decide)).trans s45))) rfl ((kH 47 (by decide) (by decide) (by decide) (by decide) (by decide) (by decide)).trans hr1.2.2.1), by rw [ez]; exact mac_act hl8 hai hap hch (by rw [htl]; exact hA) k52 k53 k54 (fun t _ => by rw [hX, und_mv]) (fun _ j hj => by rw [hX, und_mv]; exact Pe j hj), mpg_fr hpg ((kH 66 (by decide) (by decide) (by decide) (by decide) (by decide) (by decide)).trans ((hf1 66 (by decide)).trans (Gk 66 (by decide) (by decide)))), mpr_fr hpr ((kH 77 (by decide) (by decide) (by decide) (by decide) (by decide) (by decide)).trans ((hf1 77 (by decide)).trans (Gk 77 (by decide) (by decide)))), msh_o (hsh1 H c9 k55 kH) (by decide), by rw [hcn]; exact h40, hd1, hd2⟩ (kC_up (fun k k9 => (kH k (by omega) (by omega) (by omega) (by omega) (by omega) (by omega)).trans ((hf1 k (fun q => by simp only [vcS, List.mem_cons, List.not_mem_nil, or_false] at q; omega)).trans ((Gk k (by omega) (by omega)).trans (kF k k9)))) (by decide) (by decide)))
              · skip
                exfalso; omega
            | succ j ih =>
              intro t ht9
              refine xw_iload dX10_move_282 rfl ?_
              refine xw_bipush (z := 9) dX10_move_284 (by decide) ?_
              refine xw_icmpge (tgt := 314) dX10_move_286 (by decide) (by first | assumption | (unfold inI; omega) | (unfold inI at *; omega)) (by first | assumption | (unfold inI; omega) | (unfold inI at *; omega)) (fun c_286 => ?_) (fun c_286 => ?_)
              · skip
                exfalso; omega
              · skip
                refine xw_aload_n dX10_move_289 rfl ?_
                refine xw_getfield dX10_move_290 fl_X10_36 k38 rfl ?_
                refine xw_bipush (z := 9) dX10_move_293 (by decide) ?_
                refine xw_iload_n dX10_move_295 rfl ?_
                refine xw_imul dX10_move_296 ?_
                refine xw_iload dX10_move_297 rfl ?_
                refine xw_iadd dX10_move_299 ?_
                refine xw_aload_n dX10_move_300 rfl ?_
                refine xw_getfield dX10_move_301 fl_X10_67 k38 rfl ?_
                refine xw_iload dX10_move_304 rfl ?_
                refine xw_iald dX10_move_306 k55 (j := t) rfl (by omega) (by decide) ?_
                refine xw_topi (P1 (9 * s + t)) (hc9 t (by omega)) ?_
                refine xw_iast dX10_move_307 rfl (j := 9 * s + t) (by omega) (by omega) (by decide) ?_
                rw [xup_up, stf_s P (9 * s) t (fun j => P1 (9 * s + j))]
                refine xw_iinc dX10_move_308 rfl (by decide) ?_
                refine xw_goto (tgt := 282) dX10_move_311 (by decide) ?_
                exact xw_ls [(0, vR 38), (1, vI (s : Int)), (7, vI ((t + 1 : Nat) : Int))] ⟨rfl, rfl, rfl, trivial⟩ (ih (t + 1) (by omega))
          have W9 : ∀ (H : xH), H 38 = some (oMd m) → H 46 = some (aI 909 P) → (∃ c9, H 55 = some (aI 9 c9) ∧ ∀ j, j < 9 → c9 j = P1 (9 * s + j)) → (∀ k, k ≠ 46 → k ≠ 55 → H k = G1 k) → xw g M_X10_move Q 0 0 261 [(0, vR 38), (1, vI (s : Int)), (6, vI r)] [] n H := by
            intro H k38 k46 k55 kH
            obtain ⟨c9, k55, hc9⟩ := k55
            have kHF : ∀ k, k ≠ 46 → k ≠ 55 → k ∉ vcS → H k = F k := fun k q1 q2 q3 => (kH k q1 q2).trans ((hf1 k q3).trans (Gk k q1 q2))
            refine xw_iload dX10_move_261 rfl ?_
            refine xw_iconst dX10_move_263 ?_
            refine xw_icmpeq (tgt := 273) dX10_move_264 (by decide) (by first | assumption | (unfold inI; omega) | (unfold inI at *; omega)) (by first | assumption | (unfold inI; omega) | (unfold inI at *; omega)) (fun c_264 => ?_) (fun c_264 => ?_)
            · skip
              refine xw_aload_n dX10_move_273 rfl ?_
              refine xw_iconst dX10_move_274 ?_
              refine xw_iload_n dX10_move_275 rfl ?_
              refine xw_callV (rc := 0) (rs := 0) (mc2 := 0) (ms2 := 0) (a := 38) (As := [vI 2, vI (s : Int)]) (st := []) dX10_move_276 mv_X10_209 k38 rfl rfl (by decide) (by decide) (Nat.le_of_ble_eq_true rfl) rfl (ct_acted k38 k46 ((kHF 52 (by decide) (by decide) (by decide)).trans a52) ((kHF 53 (by decide) (by decide) (by decide)).trans a53) ((kHF 54 (by decide) (by decide) (by decide)).trans a54) m23 hl8 (by omega) (fun f2 A2 S2 AP2 mm hmm hf2 i38 i52 i53 i54 hA => ?_))
              refine xw_iconst dX10_move_279 ?_
              refine xw_istore dX10_move_280 (by decide) ?_
              rw [c_264] at hlt
              have hL := L5 f2 mm A2 S2 AP2 i38 hmm (fr_at hf2 k46 (by decide)) ⟨c9, fr_at hf2 k55 (by decide), hc9⟩ i52 i53 i54 hA (fun k a1 a2 a3 a4 a5 a6 => (hf2 k (fun q => by simp only [List.mem_cons, List.not_mem_nil, or_false] at q; omega)).trans (kH k a1 a2)) hlt 9 0 (by omega)
              rw [stf_0, xup_id (fr_at hf2 k46 (by decide))] at hL
              exact xw_ls [(0, vR 38), (1, vI (s : Int)), (7, vI ((0 : Nat) : Int))] ⟨rfl, rfl, rfl, trivial⟩ hL
            · skip
              refine xw_bipush (z := -10) dX10_move_267 (by decide) ?_
              refine xw_iload dX10_move_269 rfl ?_
              refine xw_isub dX10_move_271 ?_
              exact xw_iret dX10_move_272 rfl (by
                  have q2 := h2 s r H ez e2 e3 hna (by rw [← hX]; exact hlt) c_264
                  exact q2 (MS_s hF k38 hm (hsh1 H c9 k55 (fun k a b _ _ _ _ => kH k a b)) (fun k k9 => by
                    by_cases e46 : k = 46
                    · rw [e46, k46, s46]
                    · exact kHF k e46 (by omega) (fun q => by simp only [vcS, List.mem_cons, List.not_mem_nil, or_false] at q; omega))) (fun k k9 => (kHF k (by omega) (by omega) (fun q => by simp only [vcS, List.mem_cons, List.not_mem_nil, or_false] at q; omega)).trans (kF k k9)))
          have L4 : ∀ (j t : Nat) (H : xH) (Pt At : Nat → Int), t + j = 9 → H 38 = some (oMd m) → H 46 = some (aI 909 Pt) → H 55 = some (aI 9 At) → (∀ k, k ≠ 46 → k ≠ 55 → H k = G1 k) → Pt = stf P1 (9 * s) t (fun j => P (9 * s + j)) → (∀ i, i < t → At i = P1 (9 * s + i)) → (∀ i, t ≤ i → i < 9 → At i = P (9 * s + i)) → xw g M_X10_move Q 0 0 206 [(0, vR 38), (1, vI (s : Int)), (6, vI r), (7, vI (t : Int))] [] n H := by
            intro j
            induction j with
            | zero =>
              intro t H Pt At ht9 k38 k46 k55 kH kP kA1 kA2
              obtain rfl : t = 9 := by omega
              have hback : Pt = P := by rw [kP, hP1]; exact stf_bk 9 hn9
              refine xw_iload dX10_move_206 rfl ?_
              refine xw_bipush (z := 9) dX10_move_208 (by decide) ?_
              refine xw_icmpge (tgt := 261) dX10_move_210 (by decide) (by first | assumption | (unfold inI; omega) | (unfold inI at *; omega)) (by first | assumption | (unfold inI; omega) | (unfold inI at *; omega)) (fun c_210 => ?_) (fun c_210 => ?_)
              · skip
                exact xw_ls [(0, vR 38), (1, vI (s : Int)), (6, vI r)] ⟨rfl, rfl, rfl, trivial⟩ (W9 H k38 (by rw [← hback]; exact k46) ⟨At, k55, fun j hj => kA1 j hj⟩ kH)
              · skip
                exfalso; omega
            | succ j ih =>
              intro t H Pt At ht9 k38 k46 k55 kH kP kA1 kA2
              have v1 : Pt (9 * s + t) = P1 (9 * s + t) := by rw [kP]; exact stf_out (by omega)
              have v2 : At t = P (9 * s + t) := kA2 t (Nat.le_refl _) (by omega)
              refine xw_iload dX10_move_206 rfl ?_
              refine xw_bipush (z := 9) dX10_move_208 (by decide) ?_
              refine xw_icmpge (tgt := 261) dX10_move_210 (by decide) (by first | assumption | (unfold inI; omega) | (unfold inI at *; omega)) (by first | assumption | (unfold inI; omega) | (unfold inI at *; omega)) (fun c_210 => ?_) (fun c_210 => ?_)
              · skip
                exfalso; omega
              · skip
                refine xw_aload_n dX10_move_213 rfl ?_
                refine xw_getfield dX10_move_214 fl_X10_36 k38 rfl ?_
                refine xw_bipush (z := 9) dX10_move_217 (by decide) ?_
                refine xw_iload_n dX10_move_219 rfl ?_
                refine xw_imul dX10_move_220 ?_
                refine xw_iload dX10_move_221 rfl ?_
                refine xw_iadd dX10_move_223 ?_
                refine xw_iald dX10_move_224 k46 (j := 9 * s + t) (by omega) (by omega) (by decide) ?_
                refine xw_topi (P1 (9 * s + t)) v1 ?_
                refine xw_istore dX10_move_225 (by decide) ?_
                refine xw_aload_n dX10_move_227 rfl ?_
                refine xw_getfield dX10_move_228 fl_X10_36 k38 rfl ?_
                refine xw_bipush (z := 9) dX10_move_231 (by decide) ?_
                refine xw_iload_n dX10_move_233 rfl ?_
                refine xw_imul dX10_move_234 ?_
                refine xw_iload dX10_move_235 rfl ?_
                refine xw_iadd dX10_move_237 ?_
                refine xw_aload_n dX10_move_238 rfl ?_
                refine xw_getfield dX10_move_239 fl_X10_67 k38 rfl ?_
                refine xw_iload dX10_move_242 rfl ?_
                refine xw_iald dX10_move_244 k55 (j := t) rfl (by omega) (by decide) ?_
                refine xw_topi (P (9 * s + t)) v2 ?_
                refine xw_iast dX10_move_245 k46 (j := 9 * s + t) (by omega) (by omega) (by decide) ?_
                refine xw_aload_n dX10_move_246 rfl ?_
                refine xw_getfield dX10_move_247 fl_X10_67 k38 rfl ?_
                refine xw_iload dX10_move_250 rfl ?_
                refine xw_iload dX10_move_252 rfl ?_
                refine xw_iast dX10_move_254 k55 (j := t) rfl (by omega) (by decide) ?_
                refine xw_iinc dX10_move_255 rfl (by decide) ?_
                refine xw_goto (tgt := 206) dX10_move_258 (by decide) ?_
                exact xw_ls [(0, vR 38), (1, vI (s : Int)), (6, vI r), (7, vI ((t + 1 : Nat) : Int))] ⟨rfl, rfl, rfl, rfl, trivial⟩ (ih (t + 1) _ _ _ (by omega) k38 rfl rfl (fun k a b => (xup_n _ _ b).trans ((xup_n _ _ a).trans (kH k a b))) (by rw [kP]; exact stf_s P1 (9 * s) t (fun j => P (9 * s + j))) (fun i hi => by
                    by_cases e : i = t
                    · rw [e, xui_s]
                    · rw [xui_n _ _ e]; exact kA1 i (by omega)) (fun i hi hi9 => by rw [xui_n _ _ (by omega)]; exact kA2 i (by omega) hi9))
          refine xw_istore dX10_move_201 (by decide) ?_
          refine xw_iconst dX10_move_203 ?_
          refine xw_istore dX10_move_204 (by decide) ?_
          exact xw_ls [(0, vR 38), (1, vI (s : Int)), (6, vI r), (7, vI ((0 : Nat) : Int))] ⟨rfl, rfl, rfl, rfl, trivial⟩ (L4 9 0 G1 P1 (stf ah0 0 9 (Ps P s)) (by omega) n38 n46 n55 (fun _ _ _ => rfl) (by rw [stf_0]) (fun i hi => absurd hi (Nat.not_lt_zero i)) (fun i _ hi => by have := stf_in (c := ah0) (a := 0) (v := Ps P s) hi; rw [Nat.zero_add] at this; exact this))
        have hnear : ∀ t, (t < gn ∨ t = s) → ∀ j, j < 9 → nr (P1 (9 * t + j)) := by
          intro t ht9 j hj
          have q9 := hall2 t (by omega)
          rw [q9.2.2 j hj]
          by_cases e : t = s
          · rw [e, xui_s]; exact okX.2.2.2.2 j hj
          · rw [xui_n _ _ e]; exact (hall t (by omega)).1.2.2.2.2 j hj
        refine xw_aload_n dX10_move_196 rfl ?_
        refine xw_iload_n dX10_move_197 rfl ?_
        refine xw_callV (rc := 0) (rs := 0) (mc2 := 0) (ms2 := 0) (a := 38) (As := [vI (s : Int)]) (st := []) dX10_move_198 mv_X10_206 G38 rfl rfl (by decide) (by decide) (Nat.le_of_ble_eq_true rfl) rfl (ct_touched G38 hraw m6 hgn (by omega) (fun t ht9 => Kin t (by omega)) hnear hz9 (by rw [m13, m14, m15]; exact hd1) (fun G1 r hf1 hr1 hlt => ?_))
        exact xw_ls [(0, vR 38), (1, vI (s : Int))] ⟨rfl, rfl, trivial⟩ (V G1 r hf1 hr1 (ltM_R hlt hall2 (by rw [hX]; exact q.2.1) hXp))
      -- the third loop: the stick is moved
      have L3 : (∀ k, k < nn → nr (P (9 * s + k) + sel x y9 w k)) → ∀ (j t : Nat) (H : xH), t + j = nn → H 38 = some (oMd m) → (∀ k, k ≠ 46 → k ≠ 55 → H k = F k) → H 46 = some (aI 909 (stf P (9 * s) t (fun k => P (9 * s + k) + sel x y9 w k))) → H 55 = some (aI 9 (stf ah0 0 9 (Ps P s))) → xw g M_X10_move Q 0 0 143 [(0, vR 38), (1, vI (s : Int)), (2, vI x), (3, vI y9), (4, vI w), (5, vI (nn : Int)), (6, vI (t : Int))] [] n H := by
        intro hall9 j
        induction j with
        | zero =>
          intro t H ht9 k38 kH k46 k55
          obtain rfl : t = nn := by omega
          refine xw_iload dX10_move_143 rfl ?_
          refine xw_iload dX10_move_145 rfl ?_
          refine xw_icmpge (tgt := 196) dX10_move_147 (by decide) (by first | assumption | (unfold inI; omega) | (unfold inI at *; omega)) (by first | assumption | (unfold inI; omega) | (unfold inI at *; omega)) (fun c_147 => ?_) (fun c_147 => ?_)
          · skip
            exact xw_ls [(0, vR 38), (1, vI (s : Int)), (5, vI (t : Int))] ⟨rfl, rfl, rfl, trivial⟩ (R hall9 H k38 kH (by rw [hP1]; exact k46) k55)
          · skip
            exfalso; omega
        | succ j ih =>
          intro t H ht9 k38 kH k46 k55
          have v1 : stf P (9 * s) t (fun k => P (9 * s + k) + sel x y9 w k) (9 * s + t) = P (9 * s + t) := stf_out (by omega)
          have E : ∀ dz : Int, dz = sel x y9 w t → xw g M_X10_move Q 0 0 188 [(0, vR 38), (1, vI (s : Int)), (2, vI x), (3, vI y9), (4, vI w), (5, vI (nn : Int)), (6, vI (t : Int))] [vI dz, vI (P (9 * s + t)), vI (9 * (s : Int) + (t : Int)), vR 46] n H := by
            intro dz hdz
            refine xw_iadd dX10_move_188 ?_
            refine xw_iast dX10_move_189 k46 (j := 9 * s + t) (by omega) (by omega) (by decide) ?_
            rw [hdz, stf_s P (9 * s) t (fun k => P (9 * s + k) + sel x y9 w k)]
            refine xw_iinc dX10_move_190 rfl (by decide) ?_
            refine xw_goto (tgt := 143) dX10_move_193 (by decide) ?_
            exact xw_ls [(0, vR 38), (1, vI (s : Int)), (2, vI x), (3, vI y9), (4, vI w), (5, vI (nn : Int)), (6, vI ((t + 1 : Nat) : Int))] ⟨rfl, rfl, rfl, rfl, rfl, rfl, rfl, trivial⟩ (ih (t + 1) _ (by omega) k38 (fun k a b => (xup_n _ _ a).trans (kH k a b)) rfl k55)
          have hm3 : (t : Int).tmod 3 = ((t % 3 : Nat) : Int) := tm3 t
          refine xw_iload dX10_move_143 rfl ?_
          refine xw_iload dX10_move_145 rfl ?_
          refine xw_icmpge (tgt := 196) dX10_move_147 (by decide) (by first | assumption | (unfold inI; omega) | (unfold inI at *; omega)) (by first | assumption | (unfold inI; omega) | (unfold inI at *; omega)) (fun c_147 => ?_) (fun c_147 => ?_)
          · skip
            exfalso; omega
          · skip
            refine xw_aload_n dX10_move_150 rfl ?_
            refine xw_getfield dX10_move_151 fl_X10_36 k38 rfl ?_
            refine xw_bipush (z := 9) dX10_move_154 (by decide) ?_
            refine xw_iload_n dX10_move_156 rfl ?_
            refine xw_imul dX10_move_157 ?_
            refine xw_iload dX10_move_158 rfl ?_
            refine xw_iadd dX10_move_160 ?_
            refine xw_dup2 dX10_move_161 rfl rfl ?_
            refine xw_iald dX10_move_162 k46 (j := 9 * s + t) (by omega) (by omega) (by decide) ?_
            refine xw_topi (P (9 * s + t)) v1 ?_
            refine xw_iload dX10_move_163 rfl ?_
            refine xw_iconst dX10_move_165 ?_
            refine xw_irem dX10_move_166 (by first | assumption | (unfold inI; omega) | (unfold inI at *; omega)) (by first | assumption | (unfold inI; omega) | (unfold inI at *; omega)) (by omega) ?_
            refine xw_topi ((t % 3 : Nat) : Int) hm3 ?_
            refine xw_ifne (tgt := 174) dX10_move_167 (by decide) (by first | assumption | (unfold inI; omega) | (unfold inI at *; omega)) (fun c_167 => ?_) (fun c_167 => ?_)
            · skip
              refine xw_iload dX10_move_174 rfl ?_
              refine xw_iconst dX10_move_176 ?_
              refine xw_irem dX10_move_177 (by first | assumption | (unfold inI; omega) | (unfold inI at *; omega)) (by first | assumption | (unfold inI; omega) | (unfold inI at *; omega)) (by omega) ?_
              refine xw_topi ((t % 3 : Nat) : Int) hm3 ?_
              refine xw_iconst dX10_move_178 ?_
              refine xw_icmpne (tgt := 186) dX10_move_179 (by decide) (by first | assumption | (unfold inI; omega) | (unfold inI at *; omega)) (by first | assumption | (unfold inI; omega) | (unfold inI at *; omega)) (fun c_179 => ?_) (fun c_179 => ?_)
              · skip
                refine xw_iload dX10_move_186 rfl ?_
                first
                  | exact E x (by unfold sel; rw [if_pos (by omega)])
                  | exact E y9 (by unfold sel; rw [if_neg (by omega), if_pos (by omega)])
                  | exact E w (by unfold sel; rw [if_neg (by omega), if_neg (by omega)])
              · skip
                refine xw_iload_n dX10_move_182 rfl ?_
                refine xw_goto (tgt := 188) dX10_move_183 (by decide) ?_
                first
                  | exact E x (by unfold sel; rw [if_pos (by omega)])
                  | exact E y9 (by unfold sel; rw [if_neg (by omega), if_pos (by omega)])
                  | exact E w (by unfold sel; rw [if_neg (by omega), if_neg (by omega)])
            · skip
              refine xw_iload_n dX10_move_170 rfl ?_
              refine xw_goto (tgt := 188) dX10_move_171 (by decide) ?_
              first
                | exact E x (by unfold sel; rw [if_pos (by omega)])
                | exact E y9 (by unfold sel; rw [if_neg (by omega), if_pos (by omega)])
                | exact E w (by unfold sel; rw [if_neg (by omega), if_neg (by omega)])
      have L2 : (∀ k, k < nn → nr (P (9 * s + k) + sel x y9 w k)) → ∀ (j t : Nat), t + j = 9 → xw g M_X10_move Q 0 0 108 [(0, vR 38), (1, vI (s : Int)), (2, vI x), (3, vI y9), (4, vI w), (5, vI (nn : Int)), (6, vI (t : Int))] [] n (xup F 55 (aI 9 (stf ah0 0 t (Ps P s)))) := by
        intro hall9 j
        induction j with
        | zero =>
          intro t ht9
          obtain rfl : t = 9 := by omega
          refine xw_iload dX10_move_108 rfl ?_
          refine xw_bipush (z := 9) dX10_move_110 (by decide) ?_
          refine xw_icmpge (tgt := 140) dX10_move_112 (by decide) (by first | assumption | (unfold inI; omega) | (unfold inI at *; omega)) (by first | assumption | (unfold inI; omega) | (unfold inI at *; omega)) (fun c_112 => ?_) (fun c_112 => ?_)
          · skip
            refine xw_iconst dX10_move_140 ?_
            refine xw_istore dX10_move_141 (by decide) ?_
            exact xw_ls [(0, vR 38), (1, vI (s : Int)), (2, vI x), (3, vI y9), (4, vI w), (5, vI (nn : Int)), (6, vI ((0 : Nat) : Int))] ⟨rfl, rfl, rfl, rfl, rfl, rfl, rfl, trivial⟩ (L3 hall9 nn 0 _ (by omega) h38 (fun k a b => xup_n _ _ b) (by rw [stf_0]; exact s46) rfl)
          · skip
            exfalso; omega
        | succ j ih =>
          intro t ht9
          refine xw_iload dX10_move_108 rfl ?_
          refine xw_bipush (z := 9) dX10_move_110 (by decide) ?_
          refine xw_icmpge (tgt := 140) dX10_move_112 (by decide) (by first | assumption | (unfold inI; omega) | (unfold inI at *; omega)) (by first | assumption | (unfold inI; omega) | (unfold inI at *; omega)) (fun c_112 => ?_) (fun c_112 => ?_)
          · skip
            exfalso; omega
          · skip
            refine xw_aload_n dX10_move_115 rfl ?_
            refine xw_getfield dX10_move_116 fl_X10_67 h38 rfl ?_
            refine xw_iload dX10_move_119 rfl ?_
            refine xw_aload_n dX10_move_121 rfl ?_
            refine xw_getfield dX10_move_122 fl_X10_36 h38 rfl ?_
            refine xw_bipush (z := 9) dX10_move_125 (by decide) ?_
            refine xw_iload_n dX10_move_127 rfl ?_
            refine xw_imul dX10_move_128 ?_
            refine xw_iload dX10_move_129 rfl ?_
            refine xw_iadd dX10_move_131 ?_
            refine xw_iald dX10_move_132 s46 (j := 9 * s + t) (by omega) (by omega) (by decide) ?_
            refine xw_iast dX10_move_133 rfl (j := 0 + t) (by omega) (by omega) (by decide) ?_
            rw [xup_up, show P (9 * s + t) = Ps P s t from rfl, stf_s]
            refine xw_iinc dX10_move_134 rfl (by decide) ?_
            refine xw_goto (tgt := 108) dX10_move_137 (by decide) ?_
            exact xw_ls [(0, vR 38), (1, vI (s : Int)), (2, vI x), (3, vI y9), (4, vI w), (5, vI (nn : Int)), (6, vI ((t + 1 : Nat) : Int))] ⟨rfl, rfl, rfl, rfl, rfl, rfl, rfl, trivial⟩ (ih (t + 1) (by omega))
      have L1 : ∀ (j t : Nat), t + j = nn → (∀ k, k < t → nr (P (9 * s + k) + sel x y9 w k)) → xw g M_X10_move Q 0 0 29 [(0, vR 38), (1, vI (s : Int)), (2, vI x), (3, vI y9), (4, vI w), (5, vI (nn : Int)), (6, vI (t : Int))] [] n F := by
        intro j
        induction j with
        | zero =>
          intro t ht9 hi9
          obtain rfl : t = nn := by omega
          refine xw_iload dX10_move_29 rfl ?_
          refine xw_iload dX10_move_31 rfl ?_
          refine xw_icmpge (tgt := 105) dX10_move_33 (by decide) (by first | assumption | (unfold inI; omega) | (unfold inI at *; omega)) (by first | assumption | (unfold inI; omega) | (unfold inI at *; omega)) (fun c_33 => ?_) (fun c_33 => ?_)
          · skip
            refine xw_iconst dX10_move_105 ?_
            refine xw_istore dX10_move_106 (by decide) ?_
            have hL := L2 hi9 9 0 (by omega)
            rw [stf_0, xup_id b55] at hL
            exact xw_ls [(0, vR 38), (1, vI (s : Int)), (2, vI x), (3, vI y9), (4, vI w), (5, vI (t : Int)), (6, vI ((0 : Nat) : Int))] ⟨rfl, rfl, rfl, rfl, rfl, rfl, rfl, trivial⟩ hL
          · skip
            exfalso; omega
        | succ j ih =>
          intro t ht9 hi9
          have hpt := hnr t (by omega)
          rw [← Pe t (by omega)] at hpt
          unfold nr at hpt
          have E : ∀ dz : Int, dz = sel x y9 w t → inI dz → xw g M_X10_move Q 0 0 74 [(0, vR 38), (1, vI (s : Int)), (2, vI x), (3, vI y9), (4, vI w), (5, vI (nn : Int)), (6, vI (t : Int))] [vI dz, vL (P (9 * s + t))] n F := by
            intro dz hdz hdi
            have hdi2 := hdi
            unfold inI at hdi2
            refine xw_i2l dX10_move_74 hdi ?_
            refine xw_ladd dX10_move_75 ?_
            refine xw_lstore dX10_move_76 (by decide) ?_
            refine xw_lload dX10_move_78 rfl ?_
            refine xw_ldc2 (z := -1000) dX10_move_80 kl_X10_202 (by decide) ?_
            refine xw_lcmplt (tgt := 96) dX10_move_83 dX10_move_84 (by decide) (by unfold inL; omega) (by unfold inL; omega) (fun c_83 => ?_) (fun c_83 => ?_)
            · skip
              refine xw_bipush (z := -3) dX10_move_96 (by decide) ?_
              exact xw_iret dX10_move_98 rfl (h1 s F ez e2 e3 (fun hna => by have q9 := near_iff.mp hna t (by omega); rw [← Pe t (by omega), ← hdz] at q9; unfold nr at q9; omega) hF kF)
            · skip
              refine xw_lload dX10_move_87 rfl ?_
              refine xw_ldc2 (z := 1000) dX10_move_89 kl_X10_204 (by decide) ?_
              refine xw_lcmple (tgt := 99) dX10_move_92 dX10_move_93 (by decide) (by unfold inL; omega) (by unfold inL; omega) (fun c_92 => ?_) (fun c_92 => ?_)
              · skip
                refine xw_iinc dX10_move_99 rfl (by decide) ?_
                refine xw_goto (tgt := 29) dX10_move_102 (by decide) ?_
                exact xw_ls [(0, vR 38), (1, vI (s : Int)), (2, vI x), (3, vI y9), (4, vI w), (5, vI (nn : Int)), (6, vI ((t + 1 : Nat) : Int))] ⟨rfl, rfl, rfl, rfl, rfl, rfl, rfl, trivial⟩ (ih (t + 1) (by omega) (fun k hk => by
                    by_cases e : k = t
                    · rw [e, ← hdz]; unfold nr; omega
                    · exact hi9 k (by omega)))
              · skip
                refine xw_bipush (z := -3) dX10_move_96 (by decide) ?_
                exact xw_iret dX10_move_98 rfl (h1 s F ez e2 e3 (fun hna => by have q9 := near_iff.mp hna t (by omega); rw [← Pe t (by omega), ← hdz] at q9; unfold nr at q9; omega) hF kF)
          have hm3 : (t : Int).tmod 3 = ((t % 3 : Nat) : Int) := tm3 t
          refine xw_iload dX10_move_29 rfl ?_
          refine xw_iload dX10_move_31 rfl ?_
          refine xw_icmpge (tgt := 105) dX10_move_33 (by decide) (by first | assumption | (unfold inI; omega) | (unfold inI at *; omega)) (by first | assumption | (unfold inI; omega) | (unfold inI at *; omega)) (fun c_33 => ?_) (fun c_33 => ?_)
          · skip
            exfalso; omega
          · skip
            refine xw_aload_n dX10_move_36 rfl ?_
            refine xw_getfield dX10_move_37 fl_X10_36 h38 rfl ?_
            refine xw_bipush (z := 9) dX10_move_40 (by decide) ?_
            refine xw_iload_n dX10_move_42 rfl ?_
            refine xw_imul dX10_move_43 ?_
            refine xw_iload dX10_move_44 rfl ?_
            refine xw_iadd dX10_move_46 ?_
            refine xw_iald dX10_move_47 s46 (j := 9 * s + t) (by omega) (by omega) (by decide) ?_
            refine xw_i2l dX10_move_48 (by unfold inI; omega) ?_
            refine xw_iload dX10_move_49 rfl ?_
            refine xw_iconst dX10_move_51 ?_
            refine xw_irem dX10_move_52 (by first | assumption | (unfold inI; omega) | (unfold inI at *; omega)) (by first | assumption | (unfold inI; omega) | (unfold inI at *; omega)) (by omega) ?_
            refine xw_topi ((t % 3 : Nat) : Int) hm3 ?_
            refine xw_ifne (tgt := 60) dX10_move_53 (by decide) (by first | assumption | (unfold inI; omega) | (unfold inI at *; omega)) (fun c_53 => ?_) (fun c_53 => ?_)
            · skip
              refine xw_iload dX10_move_60 rfl ?_
              refine xw_iconst dX10_move_62 ?_
              refine xw_irem dX10_move_63 (by first | assumption | (unfold inI; omega) | (unfold inI at *; omega)) (by first | assumption | (unfold inI; omega) | (unfold inI at *; omega)) (by omega) ?_
              refine xw_topi ((t % 3 : Nat) : Int) hm3 ?_
              refine xw_iconst dX10_move_64 ?_
              refine xw_icmpne (tgt := 72) dX10_move_65 (by decide) (by first | assumption | (unfold inI; omega) | (unfold inI at *; omega)) (by first | assumption | (unfold inI; omega) | (unfold inI at *; omega)) (fun c_65 => ?_) (fun c_65 => ?_)
              · skip
                refine xw_iload dX10_move_72 rfl ?_
                first
                  | exact E x (by unfold sel; rw [if_pos (by omega)]) hx9
                  | exact E y9 (by unfold sel; rw [if_neg (by omega), if_pos (by omega)]) hy9
                  | exact E w (by unfold sel; rw [if_neg (by omega), if_neg (by omega)]) hw9
              · skip
                refine xw_iload_n dX10_move_68 rfl ?_
                refine xw_goto (tgt := 74) dX10_move_69 (by decide) ?_
                first
                  | exact E x (by unfold sel; rw [if_pos (by omega)]) hx9
                  | exact E y9 (by unfold sel; rw [if_neg (by omega), if_pos (by omega)]) hy9
                  | exact E w (by unfold sel; rw [if_neg (by omega), if_neg (by omega)]) hw9
            · skip
              refine xw_iload_n dX10_move_56 rfl ?_
              refine xw_goto (tgt := 74) dX10_move_57 (by decide) ?_
              first
                | exact E x (by unfold sel; rw [if_pos (by omega)]) hx9
                | exact E y9 (by unfold sel; rw [if_neg (by omega), if_pos (by omega)]) hy9
                | exact E w (by unfold sel; rw [if_neg (by omega), if_neg (by omega)]) hw9
      refine xw_iconst dX10_move_26 ?_
      refine xw_istore dX10_move_27 (by decide) ?_
      exact xw_ls [(0, vR 38), (1, vI (s : Int)), (2, vI x), (3, vI y9), (4, vI w), (5, vI (nn : Int)), (6, vI ((0 : Nat) : Int))] ⟨rfl, rfl, rfl, rfl, rfl, rfl, rfl, trivial⟩ (L1 nn 0 (by omega) (fun k hk => absurd hk (Nat.not_lt_zero k)))
    refine xw_aload_n dX10_move_5 rfl ?_
    refine xw_iload_n dX10_move_6 rfl ?_
    refine xw_callV (rc := 0) (rs := 0) (mc2 := 0) (ms2 := 0) (a := 38) (As := [vI z]) (st := []) dX10_move_7 mv_X10_213 h38 rfl rfl (by decide) (by decide) (Nat.le_of_ble_eq_true rfl) rfl (ct_isThere h38 m0 m6 hst hz (fun s e1 e2 e3 => ?_) (fun q => ?_))
    · skip
      refine xw_ifne (tgt := 15) dX10_move_10 (by decide) (by unfold inI; omega) (fun _ => ?_) (fun c => absurd c (by decide))
      have ez := e1
      subst e1
      refine xw_iconst dX10_move_15 ?_
      refine xw_aload_n dX10_move_16 rfl ?_
      refine xw_iload_n dX10_move_17 rfl ?_
      refine xw_callV (rc := 0) (rs := 0) (mc2 := 0) (ms2 := 0) (a := 38) (As := [vI (s : Int)]) (st := [vI 3]) dX10_move_18 mv_X10_184 h38 rfl rfl (by decide) (by decide) (Nat.le_of_ble_eq_true rfl) rfl (ct_pieces h38 s43 (by omega) (Kin s e2) ?_)
      rw [pce s e2]
      refine xw_iconst dX10_move_21 ?_
      refine xw_iadd dX10_move_22 ?_
      refine xw_imul dX10_move_23 ?_
      refine xw_istore dX10_move_24 (by decide) ?_
      refine xw_ls [(0, vR 38), (1, vI (s : Int)), (2, vI x), (3, vI y9), (4, vI w), (5, vI ((3 * (pcS (σ s) + 1) : Nat) : Int))] ⟨rfl, rfl, rfl, rfl, rfl, ?_, trivial⟩ (main s ez e2 e3)
      show some (vI (3 * ((pcS (σ s) : Int) + 1))) = some (vI ((3 * (pcS (σ s) + 1) : Nat) : Int))
      rw [show ((3 * (pcS (σ s) + 1) : Nat) : Int) = 3 * ((pcS (σ s) : Int) + 1) by omega]
    · skip
      refine xw_ifne (tgt := 15) dX10_move_10 (by decide) (by unfold inI; omega) (fun c => absurd c (by decide)) (fun _ => ?_)
      exact xw_ls [(0, vR 38)] ⟨rfl, trivial⟩ (ZZ _ (hx1 q _ (MS_th 1 hF h38 hm).1 (kC_tr kF (MS_th 1 hF h38 hm).2)))
  obtain ⟨m, h38, hm, _⟩ := id h
  refine xw_aload_n dX10_move_0 rfl ?_
  refine xw_iconst dX10_move_1 ?_
  refine xw_putfield dX10_move_2 (fp_X10_1 _) h38 rfl rfl ?_
  rw [xmd_0]
  exact S _ (MS_th 0 h h38 hm).1 (MS_th 0 h h38 hm).2
end C84
