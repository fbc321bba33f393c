/-! the model undoes, tells, moves -/
section C83
variable {g : xG} {y : xM} {Q : xP} {n : Nat} {f : xH} {th : Int} {bn : Nat} {β : Nat → xBx} {gn : Nat} {σ : Nat → xSt} {d : Nat → Int} {as : List xAc} {ps : Nat} {pb : Nat → Int} {pu : Nat} {pr : Nat → Int}
set_option maxHeartbeats 4000000 in
theorem mct_undo (h : MS f th bn β gn σ d as ps pb pu pr) (hu : ∀ x as1, as = x :: as1 → undOK gn σ x) (h1 : as = [] → ∀ f1, MS f1 0 bn (β) gn σ d as ps pb pu pr → kC f f1 → Q (.inl (some (vI (-1)))) n f1) (h2 : ∀ x as1 f1, as = x :: as1 → MS f1 0 bn β gn (und σ x) d as1 ps pb pu pr → kC f f1 → Q (.inl (some (vI x.1))) n f1) : xct g M_X10_undo 0 0 [vR 38] n f Q := by
  refine xct_of rfl rfl (Nat.le_of_ble_eq_true rfl) ?_
  have S : ∀ F, MS F 0 bn β gn σ d as ps pb pu pr → kC f F → xw g M_X10_undo Q 0 0 5 [(0, vR 38)] [] n F := by
    intro F hF kF
    obtain ⟨m, h38, hm, hbx, hst, hac, hpg, hpr, hsh, h40, hd1, hd2⟩ := id hF
    obtain ⟨m0, m1, m6, m7, m13, m14, m15, m23, m42, m60⟩ := id hm
    obtain ⟨K, M, W, P, Z, s43, s44, s45, s46, s47, hgn, hall, hz9⟩ := id hst
    obtain ⟨A, S, AP, a52, a53, a54, hl8, hai, hap⟩ := id hac
    cases as with
    | nil =>
      refine xw_aload_n dX10_undo_5 rfl ?_
      refine xw_getfield dX10_undo_6 fl_X10_196 h38 rfl ?_
      refine xw_topi 0 m23 ?_
      refine xw_ifne (tgt := 14) dX10_undo_9 (by decide) (by first | assumption | (unfold inI; omega) | (unfold inI at *; omega)) (fun c_9 => ?_) (fun c_9 => ?_)
      · skip
        exact absurd rfl c_9
      · skip
        refine xw_iconst dX10_undo_12 ?_
        exact xw_iret dX10_undo_13 rfl (h1 rfl F hF kF)
    | cons x as1 =>
      obtain ⟨s, us, ug, uk⟩ := hu x as1 rfl
      have hx0 := hai 0 x rfl
      have hlen : (x :: as1).length = as1.length + 1 := List.length_cons
      rw [show (x :: as1).length - 1 - 0 = as1.length by omega] at hx0
      have hl7 : as1.length ≤ 7 := by omega
      have ux : x.2.1.toNat = s := by rw [us, Int.toNat_natCast]
      have q := hall s ug
      obtain ⟨c, hcl⟩ : ∃ c, c = as1.length := ⟨_, rfl⟩
      rw [← hcl] at hx0 hl7
      obtain ⟨m2, hm2⟩ : ∃ m2, m2 = xui m 23 (m 23 - 1) := ⟨_, rfl⟩
      have e23 : m2 23 = (c : Int) := by rw [hm2, xui_s, m23, hlen, hcl]; omega
      have ek : ∀ k, k ≠ 23 → m2 k = m k := fun k q => by rw [hm2, xui_n _ _ q]
      obtain ⟨G, hG⟩ : ∃ G, G = xup F 38 (oMd m2) := ⟨_, rfl⟩
      have G38 : G 38 = some (oMd m2) := by rw [hG, xup_s]
      have Gk : ∀ k, k ≠ 38 → G k = F k := fun k q => by rw [hG, xup_n _ _ q]
      have hx1i : inI x.1 := by rcases uk with q | q | q <;> (rw [q.1]; unfold inI; omega)
      -- the end
      have T : ∀ (H : xH) (mm : Nat → Int), H 38 = some (oMd mm) → mm 23 = (c : Int) → H 52 = some (aI 8 A) → Q (.inl (some (vI x.1))) n H → xw g M_X10_undo Q 0 0 139 [(0, vR 38)] [] n H := by
        intro H mm k1 k2 k3 hqH
        refine xw_aload_n dX10_undo_139 rfl ?_
        refine xw_getfield dX10_undo_140 fl_X10_58 k1 rfl ?_
        refine xw_aload_n dX10_undo_143 rfl ?_
        refine xw_getfield dX10_undo_144 fl_X10_196 k1 rfl ?_
        refine xw_iald dX10_undo_147 k3 (j := c) k2 (by omega) (by decide) ?_
        refine xw_topi x.1 hx0.1 ?_
        exact xw_iret dX10_undo_148 rfl hqH
      have K9 : ∀ (H : xH) (mm : Nat → Int) (X : xSt) (P1 Z1 : Nat → Int), H 38 = some (oMd mm) → (∀ k, k ≠ 7 → mm k = m2 k) → mm 7 = (hc (xui σ s X) gn : Int) → H 46 = some (aI 909 P1) → H 47 = some (aZ 101 Z1) → (∀ k, k ≠ 38 → k ≠ 46 → k ≠ 47 → H k = F k) → okK X → X.1 = (σ s).1 → X.2.1 = (σ s).2.1 → woS X = woS (σ s) → (∀ j, j < 9 → P1 (9 * s + j) = ptS X j) → (∀ j, (j < 9 * s ∨ 9 * s + 9 ≤ j) → P1 j = P j) → Z1 s = hrS X → (∀ t, t ≠ s → Z1 t = Z t) → hc (xui σ s X) gn ≤ 40 → und σ x = xui σ s X → Q (.inl (some (vI x.1))) n H := by
        intro H mm X P1 Z1 k38 kmm k7 k46 k47 kH kX kx1 kx2 kx3 kP kP1 kZ kZ1 k40 ku
        have hap2 := hap.2
        rw [ku] at hap2
        refine h2 x as1 H rfl ?_ (fun k k9 => (kH k (by omega) (by omega) (by omega)).trans (kF k k9))
        rw [ku]
        refine ⟨mm, k38, ⟨by rw [kmm 0 (by decide), ek 0 (by decide), m0], by rw [kmm 1 (by decide), ek 1 (by decide), m1], by rw [kmm 6 (by decide), ek 6 (by decide), m6], k7, by rw [kmm 13 (by decide), ek 13 (by decide), m13], by rw [kmm 14 (by decide), ek 14 (by decide), m14], by rw [kmm 15 (by decide), ek 15 (by decide), m15], by rw [kmm 23 (by decide), e23, hcl], by rw [kmm 42 (by decide), ek 42 (by decide), m42], by rw [kmm 60 (by decide), ek 60 (by decide), m60]⟩, mbx_fr hbx (fun k q1 q2 => kH k (by omega) (by omega) (by omega)), mst_set ug hgn hall kX kx1 kx2 kx3 kP kP1 kZ kZ1 hz9 ((kH 43 (by decide) (by decide) (by decide)).trans s43) ((kH 44 (by decide) (by decide) (by decide)).trans s44) ((kH 45 (by decide) (by decide) (by decide)).trans s45) k46 k47, ⟨A, S, AP, (kH 52 (by decide) (by decide) (by decide)).trans a52, (kH 53 (by decide) (by decide) (by decide)).trans a53, (kH 54 (by decide) (by decide) (by decide)).trans a54, by omega, fun i b hb => ?_, hap2⟩, mpg_fr hpg (kH 66 (by decide) (by decide) (by decide)), mpr_fr hpr (kH 77 (by decide) (by decide) (by decide)), fun p hp => by obtain ⟨c9, hc9⟩ := hsh p hp; exact ⟨c9, (kH p.1 ((by decide : ∀ p ∈ shL, p.1 ≠ 38) p hp) ((by decide : ∀ p ∈ shL, p.1 ≠ 46) p hp) ((by decide : ∀ p ∈ shL, p.1 ≠ 47) p hp)).trans hc9⟩, k40, hd1, hd2⟩
        have hb9 := (List.getElem?_eq_some_iff.mp hb).1
        have r := hai (i + 1) b (by rw [List.getElem?_cons_succ]; exact hb)
        rw [show (x :: as1).length - 1 - (i + 1) = as1.length - 1 - i by omega] at r
        exact r
      have U1 : x.1 = 1 → hrS (σ s) = 1 → xw g M_X10_undo Q 0 0 34 [(0, vR 38), (1, vI (s : Int))] [] n G := by
        intro u1 u2
        have hcn := hc_off u2 (X := stS (σ s) 0) rfl gn
        rw [if_pos ug] at hcn
        refine xw_aload_n dX10_undo_34 rfl ?_
        refine xw_getfield dX10_undo_35 fl_X10_58 G38 rfl ?_
        refine xw_aload_n dX10_undo_38 rfl ?_
        refine xw_getfield dX10_undo_39 fl_X10_196 G38 rfl ?_
        refine xw_iald dX10_undo_42 ((Gk 52 (by decide)).trans a52) (j := c) e23 (by omega) (by decide) ?_
        refine xw_topi x.1 hx0.1 ?_
        refine xw_iconst dX10_undo_43 ?_
        refine xw_icmpne (tgt := 67) dX10_undo_44 (by decide) (by first | assumption | (unfold inI; omega) | (unfold inI at *; omega)) (by first | assumption | (unfold inI; omega) | (unfold inI at *; omega)) (fun c_44 => ?_) (fun c_44 => ?_)
        · skip
          exact absurd u1 c_44
        · skip
          refine xw_aload_n dX10_undo_47 rfl ?_
          refine xw_getfield dX10_undo_48 fl_X10_39 G38 rfl ?_
          refine xw_iload_n dX10_undo_51 rfl ?_
          refine xw_iconst dX10_undo_52 ?_
          refine xw_zast dX10_undo_53 ((Gk 47 (by decide)).trans s47) (j := s) rfl (by omega) (by decide) rfl ?_
          refine xw_aload_n dX10_undo_54 rfl ?_
          refine xw_dup dX10_undo_55 rfl ?_
          refine xw_getfield dX10_undo_56 fl_X10_199 G38 rfl ?_
          refine xw_iconst dX10_undo_59 ?_
          refine xw_isub dX10_undo_60 ?_
          refine xw_putfield dX10_undo_61 (fp_X10_199 _) G38 rfl rfl ?_
          rw [xmd_7]
          refine xw_goto (tgt := 139) dX10_undo_64 (by decide) ?_
          exact xw_ls [(0, vR 38)] ⟨rfl, trivial⟩ (T _ (xui m2 7 (m2 7 - 1)) rfl (by rw [xui_n _ _ (by decide)]; exact e23) ((Gk 52 (by decide)).trans a52) (K9 _ (xui m2 7 (m2 7 - 1)) (stS (σ s) 0) P (xui Z s 0) rfl (fun k k9 => xui_n _ _ k9) (by rw [xui_s, ek 7 (by decide), m7]; omega) ((Gk 46 (by decide)).trans s46) rfl (fun k k1 k2 k3 => (xup_n _ _ k1).trans ((xup_n _ _ k3).trans (Gk k k1))) (okK_st q.1 (Or.inl rfl)) rfl rfl rfl q.2.2.2.2.2 (fun _ _ => rfl) (xui_s _ _ _) (fun t ht => xui_n _ _ ht) (by omega) (by unfold und; rw [ux, if_pos u1])))
      have U3 : x.1 = 3 → hrS (σ s) ≠ 1 → hc σ gn < 40 → xw g M_X10_undo Q 0 0 34 [(0, vR 38), (1, vI (s : Int))] [] n G := by
        intro u1 u2 u3
        have hcn := hc_on u2 (X := stS (σ s) 1) rfl gn
        rw [if_pos ug] at hcn
        refine xw_aload_n dX10_undo_34 rfl ?_
        refine xw_getfield dX10_undo_35 fl_X10_58 G38 rfl ?_
        refine xw_aload_n dX10_undo_38 rfl ?_
        refine xw_getfield dX10_undo_39 fl_X10_196 G38 rfl ?_
        refine xw_iald dX10_undo_42 ((Gk 52 (by decide)).trans a52) (j := c) e23 (by omega) (by decide) ?_
        refine xw_topi x.1 hx0.1 ?_
        refine xw_iconst dX10_undo_43 ?_
        refine xw_icmpne (tgt := 67) dX10_undo_44 (by decide) (by first | assumption | (unfold inI; omega) | (unfold inI at *; omega)) (by first | assumption | (unfold inI; omega) | (unfold inI at *; omega)) (fun c_44 => ?_) (fun c_44 => ?_)
        · skip
          refine xw_aload_n dX10_undo_67 rfl ?_
          refine xw_getfield dX10_undo_68 fl_X10_58 G38 rfl ?_
          refine xw_aload_n dX10_undo_71 rfl ?_
          refine xw_getfield dX10_undo_72 fl_X10_196 G38 rfl ?_
          refine xw_iald dX10_undo_75 ((Gk 52 (by decide)).trans a52) (j := c) e23 (by omega) (by decide) ?_
          refine xw_topi x.1 hx0.1 ?_
          refine xw_iconst dX10_undo_76 ?_
          refine xw_icmpne (tgt := 122) dX10_undo_77 (by decide) (by first | assumption | (unfold inI; omega) | (unfold inI at *; omega)) (by first | assumption | (unfold inI; omega) | (unfold inI at *; omega)) (fun c_77 => ?_) (fun c_77 => ?_)
          · skip
            refine xw_aload_n dX10_undo_122 rfl ?_
            refine xw_getfield dX10_undo_123 fl_X10_39 G38 rfl ?_
            refine xw_iload_n dX10_undo_126 rfl ?_
            refine xw_iconst dX10_undo_127 ?_
            refine xw_zast dX10_undo_128 ((Gk 47 (by decide)).trans s47) (j := s) rfl (by omega) (by decide) rfl ?_
            refine xw_aload_n dX10_undo_129 rfl ?_
            refine xw_dup dX10_undo_130 rfl ?_
            refine xw_getfield dX10_undo_131 fl_X10_199 G38 rfl ?_
            refine xw_iconst dX10_undo_134 ?_
            refine xw_iadd dX10_undo_135 ?_
            refine xw_putfield dX10_undo_136 (fp_X10_199 _) G38 rfl rfl ?_
            rw [xmd_7]
            exact xw_ls [(0, vR 38)] ⟨rfl, trivial⟩ (T _ (xui m2 7 (m2 7 + 1)) rfl (by rw [xui_n _ _ (by decide)]; exact e23) ((Gk 52 (by decide)).trans a52) (K9 _ (xui m2 7 (m2 7 + 1)) (stS (σ s) 1) P (xui Z s 1) rfl (fun k k9 => xui_n _ _ k9) (by rw [xui_s, ek 7 (by decide), m7]; omega) ((Gk 46 (by decide)).trans s46) rfl (fun k k1 k2 k3 => (xup_n _ _ k1).trans ((xup_n _ _ k3).trans (Gk k k1))) (okK_st q.1 (Or.inr rfl)) rfl rfl rfl q.2.2.2.2.2 (fun _ _ => rfl) (xui_s _ _ _) (fun t ht => xui_n _ _ ht) (by omega) (by unfold und; rw [ux, if_neg (by rw [u1]; decide), if_neg (by rw [u1]; decide)])))
          · skip
            exact absurd (u1.symm.trans c_77) (by decide)
        · skip
          exact absurd (u1.symm.trans c_44) (by decide)
      have U2 : x.1 = 2 → okK (mvS (σ s) (-x.2.2.1) (-x.2.2.2.1) (-x.2.2.2.2)) → xw g M_X10_undo Q 0 0 34 [(0, vR 38), (1, vI (s : Int))] [] n G := by
        intro u1 u2
        have hcn : hc (xui σ s (mvS (σ s) (-x.2.2.1) (-x.2.2.2.1) (-x.2.2.2.2))) gn = hc σ gn := hc_cg gn (fun t ht9 => by
          by_cases e : t = s
          · subst e; rw [xui_s]; rfl
          · rw [xui_n _ _ e])
        have hue : und σ x = xui σ s (mvS (σ s) (-x.2.2.1) (-x.2.2.2.1) (-x.2.2.2.2)) := by unfold und; rw [ux, if_neg (by rw [u1]; decide), if_pos u1]
        have hapx : ∀ j, j < 9 → AP (9 * c + j) = ptS (mvS (σ s) (-x.2.2.1) (-x.2.2.2.1) (-x.2.2.2.2)) j := fun j hj => by
          have r := hap.1 u1 j hj
          rw [hue, ux, xui_s, ← hcl] at r
          exact r
        have L : ∀ (j t : Nat), t + j = 9 → xw g M_X10_undo Q 0 0 82 [(0, vR 38), (1, vI (s : Int)), (2, vI (t : Int))] [] n (xup G 46 (aI 909 (stf P (9 * s) t (fun j => AP (9 * c + j))))) := by
          intro j
          induction j with
          | zero =>
            intro t ht9
            obtain rfl : t = 9 := by omega
            refine xw_iload_n dX10_undo_82 rfl ?_
            refine xw_bipush (z := 9) dX10_undo_83 (by decide) ?_
            refine xw_icmpge (tgt := 119) dX10_undo_85 (by decide) (by first | assumption | (unfold inI; omega) | (unfold inI at *; omega)) (by first | assumption | (unfold inI; omega) | (unfold inI at *; omega)) (fun c_85 => ?_) (fun c_85 => ?_)
            · skip
              refine xw_goto (tgt := 139) dX10_undo_119 (by decide) ?_
              exact xw_ls [(0, vR 38)] ⟨rfl, trivial⟩ (T _ m2 G38 e23 ((Gk 52 (by decide)).trans a52) (K9 _ m2 (mvS (σ s) (-x.2.2.1) (-x.2.2.2.1) (-x.2.2.2.2)) (stf P (9 * s) 9 (fun j => AP (9 * c + j))) Z G38 (fun _ _ => rfl) (by rw [ek 7 (by decide), m7, hcn]) rfl ((Gk 47 (by decide)).trans s47) (fun k k1 k2 k3 => (xup_n _ _ k2).trans (Gk k k1)) u2 rfl rfl rfl (fun j hj => by rw [stf_in hj]; exact hapx j hj) (fun j hj => stf_out (by omega)) q.2.2.2.2.1 (fun _ _ => rfl) (by rw [hcn]; exact h40) hue))
            · skip
              exfalso; omega
          | succ j ih =>
            intro t ht9
            refine xw_iload_n dX10_undo_82 rfl ?_
            refine xw_bipush (z := 9) dX10_undo_83 (by decide) ?_
            refine xw_icmpge (tgt := 119) dX10_undo_85 (by decide) (by first | assumption | (unfold inI; omega) | (unfold inI at *; omega)) (by first | assumption | (unfold inI; omega) | (unfold inI at *; omega)) (fun c_85 => ?_) (fun c_85 => ?_)
            · skip
              exfalso; omega
            · skip
              refine xw_aload_n dX10_undo_88 rfl ?_
              refine xw_getfield dX10_undo_89 fl_X10_36 G38 rfl ?_
              refine xw_bipush (z := 9) dX10_undo_92 (by decide) ?_
              refine xw_iload_n dX10_undo_94 rfl ?_
              refine xw_imul dX10_undo_95 ?_
              refine xw_iload_n dX10_undo_96 rfl ?_
              refine xw_iadd dX10_undo_97 ?_
              refine xw_aload_n dX10_undo_98 rfl ?_
              refine xw_getfield dX10_undo_99 fl_X10_64 G38 rfl ?_
              refine xw_bipush (z := 9) dX10_undo_102 (by decide) ?_
              refine xw_aload_n dX10_undo_104 rfl ?_
              refine xw_getfield dX10_undo_105 fl_X10_196 G38 rfl ?_
              refine xw_imul dX10_undo_108 ?_
              refine xw_iload_n dX10_undo_109 rfl ?_
              refine xw_iadd dX10_undo_110 ?_
              refine xw_iald dX10_undo_111 ((Gk 54 (by decide)).trans a54) (j := 9 * c + t) (by rw [e23]; omega) (by omega) (by decide) ?_
              refine xw_iast dX10_undo_112 rfl (j := 9 * s + t) (by omega) (by omega) (by decide) ?_
              rw [xup_up, stf_s P (9 * s) t (fun j => AP (9 * c + j))]
              refine xw_iinc dX10_undo_113 rfl (by decide) ?_
              refine xw_goto (tgt := 82) dX10_undo_116 (by decide) ?_
              exact xw_ls [(0, vR 38), (1, vI (s : Int)), (2, vI ((t + 1 : Nat) : Int))] ⟨rfl, rfl, rfl, trivial⟩ (ih (t + 1) (by omega))
        refine xw_aload_n dX10_undo_34 rfl ?_
        refine xw_getfield dX10_undo_35 fl_X10_58 G38 rfl ?_
        refine xw_aload_n dX10_undo_38 rfl ?_
        refine xw_getfield dX10_undo_39 fl_X10_196 G38 rfl ?_
        refine xw_iald dX10_undo_42 ((Gk 52 (by decide)).trans a52) (j := c) e23 (by omega) (by decide) ?_
        refine xw_topi x.1 hx0.1 ?_
        refine xw_iconst dX10_undo_43 ?_
        refine xw_icmpne (tgt := 67) dX10_undo_44 (by decide) (by first | assumption | (unfold inI; omega) | (unfold inI at *; omega)) (by first | assumption | (unfold inI; omega) | (unfold inI at *; omega)) (fun c_44 => ?_) (fun c_44 => ?_)
        · skip
          refine xw_aload_n dX10_undo_67 rfl ?_
          refine xw_getfield dX10_undo_68 fl_X10_58 G38 rfl ?_
          refine xw_aload_n dX10_undo_71 rfl ?_
          refine xw_getfield dX10_undo_72 fl_X10_196 G38 rfl ?_
          refine xw_iald dX10_undo_75 ((Gk 52 (by decide)).trans a52) (j := c) e23 (by omega) (by decide) ?_
          refine xw_topi x.1 hx0.1 ?_
          refine xw_iconst dX10_undo_76 ?_
          refine xw_icmpne (tgt := 122) dX10_undo_77 (by decide) (by first | assumption | (unfold inI; omega) | (unfold inI at *; omega)) (by first | assumption | (unfold inI; omega) | (unfold inI at *; omega)) (fun c_77 => ?_) (fun c_77 => ?_)
          · skip
            exact absurd u1 c_77
          · skip
            refine xw_iconst dX10_undo_80 ?_
            refine xw_istore_n dX10_undo_81 (by decide) ?_
            refine xw_ls [(0, vR 38), (1, vI (s : Int)), (2, vI ((0 : Nat) : Int))] ⟨rfl, rfl, rfl, trivial⟩ ?_
            have hL := L 9 0 (by omega)
            rw [stf_0, xup_id ((Gk 46 (by decide)).trans s46)] at hL
            exact hL
        · skip
          exact absurd (u1.symm.trans c_44) (by decide)
      refine xw_aload_n dX10_undo_5 rfl ?_
      refine xw_getfield dX10_undo_6 fl_X10_196 h38 rfl ?_
      refine xw_topi ((x :: as1).length : Int) m23 ?_
      refine xw_ifne (tgt := 14) dX10_undo_9 (by decide) (by unfold inI; omega) (fun c_9 => ?_) (fun c_9 => ?_)
      · skip
        refine xw_aload_n dX10_undo_14 rfl ?_
        refine xw_dup dX10_undo_15 rfl ?_
        refine xw_getfield dX10_undo_16 fl_X10_196 h38 rfl ?_
        refine xw_iconst dX10_undo_19 ?_
        refine xw_isub dX10_undo_20 ?_
        refine xw_putfield dX10_undo_21 (fp_X10_196 _) h38 rfl rfl ?_
        rw [xmd_23]
        rw [← hm2, ← hG]
        refine xw_aload_n dX10_undo_24 rfl ?_
        refine xw_getfield dX10_undo_25 fl_X10_61 G38 rfl ?_
        refine xw_aload_n dX10_undo_28 rfl ?_
        refine xw_getfield dX10_undo_29 fl_X10_196 G38 rfl ?_
        refine xw_iald dX10_undo_32 ((Gk 53 (by decide)).trans a53) (j := c) e23 (by omega) (by decide) ?_
        refine xw_topi (s : Int) (hx0.2.trans us) ?_
        refine xw_istore_n dX10_undo_33 (by decide) ?_
        refine xw_ls [(0, vR 38), (1, vI (s : Int))] ⟨rfl, rfl, trivial⟩ ?_
        rcases uk with ⟨u1, u2⟩ | ⟨u1, u2⟩ | ⟨u1, u2, u3⟩
        · exact U1 u1 u2
        · exact U2 u1 u2
        · exact U3 u1 u2 u3
      · skip
        exfalso; omega
  obtain ⟨m, h38, hm, _⟩ := id h
  refine xw_aload_n dX10_undo_0 rfl ?_
  refine xw_iconst dX10_undo_1 ?_
  refine xw_putfield dX10_undo_2 (fp_X10_1 _) h38 rfl rfl ?_
  rw [xmd_0]
  exact S _ (MS_th 0 h h38 hm).1 (MS_th 0 h h38 hm).2
set_option maxHeartbeats 4000000 in
theorem mct_told {z w : Int} (h : MS f th bn β gn σ d as ps pb pu pr) (hz : inI z) (hw9 : inI w) (h1 : ∀ (s : Nat) r f1, z = (s : Int) → s < gn → hrS (σ s) = 1 → tldA (σ s) w r → MS f1 0 bn (β) gn σ d as ps pb pu pr → kC f f1 → Q (.inl (some (vI r))) n f1) (hx1 : ¬ hre gn σ z → ∀ f1, MS f1 1 bn β gn σ d as ps pb pu pr → kC f f1 → Q (.inl (some (vI 0))) n f1) (hx2 : ∀ s : Nat, z = (s : Int) → s < gn → hrS (σ s) = 1 → ¬ (0 ≤ w ∧ w < 4 + 3 * ((pcS (σ s) : Int) + 1)) → ∀ f1, MS f1 2 bn β gn σ d as ps pb pu pr → kC f f1 → Q (.inl (some (vI 0))) n f1) : xct g M_X10_told 0 0 [vR 38, vI z, vI w] n f Q := by
  refine xct_of rfl rfl (Nat.le_of_ble_eq_true rfl) ?_
  have S : ∀ F, MS F 0 bn β gn σ d as ps pb pu pr → kC f F → xw g M_X10_told Q 0 0 5 [(0, vR 38), (1, vI z), (2, vI w)] [] n F := by
    intro F hF kF
    obtain ⟨m, h38, hm, hbx, hst, hac, hpg, hpr, hsh, h40, hd1, hd2⟩ := id hF
    obtain ⟨m0, m1, m6, m7, m13, m14, m15, m23, m42, m60⟩ := id hm
    have ZZ : ∀ f1, Q (.inl (some (vI 0))) n f1 → xw g M_X10_told Q 0 0 45 [(0, vR 38)] [] n f1 := by
      intro f1 hq
      refine xw_iconst dX10_told_45 ?_
      exact xw_iret dX10_told_46 rfl hq
    obtain ⟨K, M, W, P, Z, s43, s44, s45, s46, s47, hgn, hall, hz9⟩ := id hst
    have pce : ∀ s, s < gn → pcz (K s) = pcS (σ s) := fun s hs => by unfold pcz pcS; rw [(hall s hs).2.1]
    have Kin : ∀ s, s < gn → inI (K s) := fun s hs => by have := (hall s hs).1.1; rw [(hall s hs).2.1]; unfold inI; omega
    have D : ∀ s : Nat, z = (s : Int) → s < gn → hrS (σ s) = 1 → (0 ≤ w ∧ w < 4 + 3 * ((pcS (σ s) : Int) + 1)) → xw g M_X10_told Q 0 0 47 [(0, vR 38), (1, vI z), (2, vI w)] [] n F := by
      intro s e1 e2 e3 hwr
      subst e1
      have q := hall s e2
      have hp2 := pcS_in (σ s)
      rcases (by omega : w = 0 ∨ w = 1 ∨ w = 2 ∨ w = 3 ∨ (w < 0 ∨ 3 < w)) with rfl | rfl | rfl | rfl | hw3
      · refine xw_iload_n dX10_told_47 rfl ?_
        refine xw_tin (tgt := 80) dX10_told_48 hw9 (by decide) (by decide) rfl (by decide) ?_
        refine xw_aload_n dX10_told_80 rfl ?_
        refine xw_getfield dX10_told_81 fl_X10_27 h38 rfl ?_
        refine xw_iload_n dX10_told_84 rfl ?_
        refine xw_iald dX10_told_85 s43 (j := s) rfl (by omega) (by decide) ?_
        exact xw_iret dX10_told_86 rfl (h1 s _ F rfl e2 e3 (Or.inl ⟨rfl, q.2.1⟩) hF kF)
      · refine xw_iload_n dX10_told_47 rfl ?_
        refine xw_tin (tgt := 87) dX10_told_48 hw9 (by decide) (by decide) rfl (by decide) ?_
        refine xw_aload_n dX10_told_87 rfl ?_
        refine xw_getfield dX10_told_88 fl_X10_30 h38 rfl ?_
        refine xw_iload_n dX10_told_91 rfl ?_
        refine xw_iald dX10_told_92 s44 (j := s) rfl (by omega) (by decide) ?_
        exact xw_iret dX10_told_93 rfl (h1 s _ F rfl e2 e3 (Or.inr (Or.inl ⟨rfl, q.2.2.1⟩)) hF kF)
      · refine xw_iload_n dX10_told_47 rfl ?_
        refine xw_tin (tgt := 94) dX10_told_48 hw9 (by decide) (by decide) rfl (by decide) ?_
        refine xw_aload_n dX10_told_94 rfl ?_
        refine xw_getfield dX10_told_95 fl_X10_33 h38 rfl ?_
        refine xw_iload_n dX10_told_98 rfl ?_
        refine xw_iald dX10_told_99 s45 (j := s) rfl (by omega) (by decide) ?_
        exact xw_iret dX10_told_100 rfl (h1 s _ F rfl e2 e3 (Or.inr (Or.inr (Or.inl ⟨rfl, q.2.2.2.1⟩))) hF kF)
      · refine xw_iload_n dX10_told_47 rfl ?_
        refine xw_tin (tgt := 101) dX10_told_48 hw9 (by decide) (by decide) rfl (by decide) ?_
        refine xw_aload_n dX10_told_101 rfl ?_
        refine xw_iload_n dX10_told_102 rfl ?_
        refine xw_callV (rc := 0) (rs := 0) (mc2 := 0) (ms2 := 0) (a := 38) (As := [vI (s : Int)]) (st := []) dX10_told_103 mv_X10_184 h38 rfl rfl (by decide) (by decide) (Nat.le_of_ble_eq_true rfl) rfl (ct_pieces h38 s43 (by omega) (Kin s e2) ?_)
        exact xw_iret dX10_told_106 rfl (h1 s _ F rfl e2 e3 (Or.inr (Or.inr (Or.inr (Or.inl ⟨rfl, by rw [pce s e2]⟩)))) hF kF)
      · refine xw_iload_n dX10_told_47 rfl ?_
        refine xw_tout (tgt := 107) dX10_told_48 hw9 hw3 (by decide) ?_
        refine xw_aload_n dX10_told_107 rfl ?_
        refine xw_getfield dX10_told_108 fl_X10_36 h38 rfl ?_
        refine xw_bipush (z := 9) dX10_told_111 (by decide) ?_
        refine xw_iload_n dX10_told_113 rfl ?_
        refine xw_imul dX10_told_114 ?_
        refine xw_iload_n dX10_told_115 rfl ?_
        refine xw_iadd dX10_told_116 ?_
        refine xw_iconst dX10_told_117 ?_
        refine xw_isub dX10_told_118 ?_
        refine xw_iald dX10_told_119 s46 (j := 9 * s + (w - 4).toNat) (by omega) (by omega) (by decide) ?_
        exact xw_iret dX10_told_120 rfl (h1 s _ F rfl e2 e3 (Or.inr (Or.inr (Or.inr (Or.inr ⟨by omega, q.2.2.2.2.2 _ (by omega)⟩)))) hF kF)
    have B : ∀ (s : Nat) (gd : Int), z = (s : Int) → s < gn → hrS (σ s) = 1 → (gd = 0 ∨ gd = 1) → (gd = 1 → (0 ≤ w ∧ w < 4 + 3 * ((pcS (σ s) : Int) + 1))) → (gd = 0 → ¬ (0 ≤ w ∧ w < 4 + 3 * ((pcS (σ s) : Int) + 1))) → xw g M_X10_told Q 0 0 38 [(0, vR 38), (1, vI z), (2, vI w)] [vI gd, vR 38] n F := by
      intro s gd e1 e2 e3 hg q1 q2
      refine xw_iconst dX10_told_38 ?_
      refine xw_callV (rc := 0) (rs := 0) (mc2 := 0) (ms2 := 0) (a := 38) (As := [vI gd, vI 2]) (st := []) dX10_told_39 mv_X10_136 h38 rfl rfl (by decide) (by decide) (Nat.le_of_ble_eq_true rfl) rfl (ct_may h38 m0 hg (by decide) (by unfold inI; omega) (fun e => ?_) (fun e => ?_))
      · skip
        refine xw_ifne (tgt := 47) dX10_told_42 (by decide) (by unfold inI; omega) (fun _ => ?_) (fun c => absurd c (by decide))
        exact D s e1 e2 e3 (q1 e)
      · skip
        refine xw_ifne (tgt := 47) dX10_told_42 (by decide) (by unfold inI; omega) (fun c => absurd c (by decide)) (fun _ => ?_)
        exact xw_ls [(0, vR 38)] ⟨rfl, trivial⟩ (ZZ _ (hx2 s e1 e2 e3 (q2 e) _ (MS_th 2 hF h38 hm).1 (kC_tr kF (MS_th 2 hF h38 hm).2)))
    refine xw_aload_n dX10_told_5 rfl ?_
    refine xw_iload_n dX10_told_6 rfl ?_
    refine xw_callV (rc := 0) (rs := 0) (mc2 := 0) (ms2 := 0) (a := 38) (As := [vI z]) (st := []) dX10_told_7 mv_X10_213 h38 rfl rfl (by decide) (by decide) (Nat.le_of_ble_eq_true rfl) rfl (ct_isThere h38 m0 m6 hst hz (fun s e1 e2 e3 => ?_) (fun q => ?_))
    · skip
      refine xw_ifeq (tgt := 45) dX10_told_10 (by decide) (by unfold inI; omega) (fun c => absurd c (by decide)) (fun _ => ?_)
      subst e1
      refine xw_aload_n dX10_told_13 rfl ?_
      refine xw_iload_n dX10_told_14 rfl ?_
      refine xw_iflt (tgt := 37) dX10_told_15 (by decide) (by first | assumption | (unfold inI; omega) | (unfold inI at *; omega)) (fun c_15 => ?_) (fun c_15 => ?_)
      · skip
        refine xw_iconst dX10_told_37 ?_
        first
          | exact xw_ls [(0, vR 38), (1, vI (s : Int)), (2, vI w)] ⟨rfl, rfl, rfl, trivial⟩ (B s 1 rfl e2 e3 (Or.inr rfl) (fun _ => by omega) (fun k => absurd k (by decide)))
          | exact xw_ls [(0, vR 38), (1, vI (s : Int)), (2, vI w)] ⟨rfl, rfl, rfl, trivial⟩ (B s 0 rfl e2 e3 (Or.inl rfl) (fun k => absurd k (by decide)) (fun _ => by omega))
      · skip
        refine xw_iload_n dX10_told_18 rfl ?_
        refine xw_iconst dX10_told_19 ?_
        refine xw_iconst dX10_told_20 ?_
        refine xw_aload_n dX10_told_21 rfl ?_
        refine xw_iload_n dX10_told_22 rfl ?_
        refine xw_callV (rc := 0) (rs := 0) (mc2 := 0) (ms2 := 0) (a := 38) (As := [vI (s : Int)]) (st := [vI 3, vI 4, vI w, vR 38]) dX10_told_23 mv_X10_184 h38 rfl rfl (by decide) (by decide) (Nat.le_of_ble_eq_true rfl) rfl (ct_pieces h38 s43 (by omega) (Kin s e2) ?_)
        have hpp := pcS_in (σ s)
        rw [pce s e2]
        refine xw_iconst dX10_told_26 ?_
        refine xw_iadd dX10_told_27 ?_
        refine xw_imul dX10_told_28 ?_
        refine xw_iadd dX10_told_29 ?_
        refine xw_icmpge (tgt := 37) dX10_told_30 (by decide) (by first | assumption | (unfold inI; omega) | (unfold inI at *; omega)) (by first | assumption | (unfold inI; omega) | (unfold inI at *; omega)) (fun c_30 => ?_) (fun c_30 => ?_)
        · skip
          refine xw_iconst dX10_told_37 ?_
          first
            | exact xw_ls [(0, vR 38), (1, vI (s : Int)), (2, vI w)] ⟨rfl, rfl, rfl, trivial⟩ (B s 1 rfl e2 e3 (Or.inr rfl) (fun _ => by omega) (fun k => absurd k (by decide)))
            | exact xw_ls [(0, vR 38), (1, vI (s : Int)), (2, vI w)] ⟨rfl, rfl, rfl, trivial⟩ (B s 0 rfl e2 e3 (Or.inl rfl) (fun k => absurd k (by decide)) (fun _ => by omega))
        · skip
          refine xw_iconst dX10_told_33 ?_
          refine xw_goto (tgt := 38) dX10_told_34 (by decide) ?_
          first
            | exact xw_ls [(0, vR 38), (1, vI (s : Int)), (2, vI w)] ⟨rfl, rfl, rfl, trivial⟩ (B s 1 rfl e2 e3 (Or.inr rfl) (fun _ => by omega) (fun k => absurd k (by decide)))
            | exact xw_ls [(0, vR 38), (1, vI (s : Int)), (2, vI w)] ⟨rfl, rfl, rfl, trivial⟩ (B s 0 rfl e2 e3 (Or.inl rfl) (fun k => absurd k (by decide)) (fun _ => by omega))
    · skip
      refine xw_ifeq (tgt := 45) dX10_told_10 (by decide) (by unfold inI; omega) (fun _ => ?_) (fun c => absurd c (by decide))
      exact xw_ls [(0, vR 38)] ⟨rfl, trivial⟩ (ZZ _ (hx1 q _ (MS_th 1 hF h38 hm).1 (kC_tr kF (MS_th 1 hF h38 hm).2)))
  obtain ⟨m, h38, hm, _⟩ := id h
  refine xw_aload_n dX10_told_0 rfl ?_
  refine xw_iconst dX10_told_1 ?_
  refine xw_putfield dX10_told_2 (fp_X10_1 _) h38 rfl rfl ?_
  rw [xmd_0]
  exact S _ (MS_th 0 h h38 hm).1 (MS_th 0 h h38 hm).2
end C83
