/-! the model: count, check -/
section C98
variable {g : xG} {y : xM} {Q : xP} {n : Nat} {f : xH} {th : Int} {bn : Nat} {β : Nat → xBx} {gn : Nat} {σ : Nat → xSt} {d : Nat → Int} {as : List xAc} {ps : Nat} {pb : Nat → Int} {pu : Nat} {pr : Nat → Int} {sz : Nat} {N : Nat → Nat} {av : Nat → Nat}
set_option maxHeartbeats 8000000 in
theorem mct_count {z : Int} (h : MS f th bn β gn σ d as ps pb pu pr) (hz : inI z) (hN : onO gn σ sz N) (hq : ∀ f1 r, MS f1 0 bn β gn σ d as ps pb pu pr → kC f f1 → ((z = 0 ∧ r = (bn : Int)) ∨ (z = 1 ∧ r = (hc σ gn : Int)) ∨ (z = 2 ∧ r = (gn : Int)) ∨ (z = 3 ∧ r = (ps : Int)) ∨ (z = 4 ∧ r = (as.length : Int)) ∨ (z = 5 ∧ r = ((msum (fun i j => mBar d σ (N i) (N j)) sz sz : Nat) : Int)) ∨ ((z < 0 ∨ 5 < z) ∧ r = -1)) → Q (.inl (some (vI r))) n f1) : xct g M_X10_count 0 0 [vR 38, vI z] n f Q := by
  refine xct_of rfl rfl (Nat.le_of_ble_eq_true rfl) ?_
  have S : ∀ F, MS F 0 bn β gn σ d as ps pb pu pr → kC f F → xw g M_X10_count Q 0 0 5 [(0, vR 38), (1, vI z)] [] n F := by
    intro F0 hF0 kF0
    obtain ⟨m0, hm0, hE0⟩ := MS_E hF0
    have h38 := hE0.1
    have hsh : msh F0 := hF0.choose_spec.2.2.2.2.2.2.2.1
    have h40 : sz ≤ 40 := by rw [hN.1]; exact hF0.choose_spec.2.2.2.2.2.2.2.2.1
    have hgn : gn ≤ 100 := hE0.2.2.2.1.choose_spec.choose_spec.choose_spec.choose_spec.choose_spec.2.2.2.2.2.1
    obtain ⟨n0, n1, n6, n7, n13, n14, n15, n23, n42, n60⟩ := id hm0
    rcases (by omega : z = 0 ∨ z = 1 ∨ z = 2 ∨ z = 3 ∨ z = 4 ∨ z = 5 ∨ (z < 0 ∨ 5 < z)) with rfl | rfl | rfl | rfl | rfl | rfl | hz9
    · refine xw_iload_n dX10_count_5 rfl ?_
      refine xw_tin (tgt := 44) dX10_count_6 hz (by decide) (by decide) rfl (by decide) ?_
      refine xw_aload_n dX10_count_44 rfl ?_
      refine xw_getfield dX10_count_45 fl_X10_140 h38 rfl ?_
      exact xw_iret dX10_count_48 rfl (hq F0 _ hF0 kF0 (Or.inl ⟨rfl, n1⟩))
    · refine xw_iload_n dX10_count_5 rfl ?_
      refine xw_tin (tgt := 49) dX10_count_6 hz (by decide) (by decide) rfl (by decide) ?_
      refine xw_aload_n dX10_count_49 rfl ?_
      refine xw_getfield dX10_count_50 fl_X10_199 h38 rfl ?_
      exact xw_iret dX10_count_53 rfl (hq F0 _ hF0 kF0 (Or.inr (Or.inl ⟨rfl, n7⟩)))
    · refine xw_iload_n dX10_count_5 rfl ?_
      refine xw_tin (tgt := 54) dX10_count_6 hz (by decide) (by decide) rfl (by decide) ?_
      refine xw_aload_n dX10_count_54 rfl ?_
      refine xw_getfield dX10_count_55 fl_X10_181 h38 rfl ?_
      exact xw_iret dX10_count_58 rfl (hq F0 _ hF0 kF0 (Or.inr (Or.inr (Or.inl ⟨rfl, n6⟩))))
    · refine xw_iload_n dX10_count_5 rfl ?_
      refine xw_tin (tgt := 59) dX10_count_6 hz (by decide) (by decide) rfl (by decide) ?_
      refine xw_aload_n dX10_count_59 rfl ?_
      refine xw_getfield dX10_count_60 fl_X10_278 h38 rfl ?_
      exact xw_iret dX10_count_63 rfl (hq F0 _ hF0 kF0 (Or.inr (Or.inr (Or.inr (Or.inl ⟨rfl, n42⟩)))))
    · refine xw_iload_n dX10_count_5 rfl ?_
      refine xw_tin (tgt := 64) dX10_count_6 hz (by decide) (by decide) rfl (by decide) ?_
      refine xw_aload_n dX10_count_64 rfl ?_
      refine xw_getfield dX10_count_65 fl_X10_196 h38 rfl ?_
      exact xw_iret dX10_count_68 rfl (hq F0 _ hF0 kF0 (Or.inr (Or.inr (Or.inr (Or.inr (Or.inl ⟨rfl, n23⟩))))))
    · obtain ⟨R, hR⟩ : ∃ R : Nat → Nat → Prop, R = (fun i j => mBar d σ (N i) (N j)) := ⟨_, rfl⟩
      rw [← hR] at hq
      have LJ : ∀ (t j i a : Nat) (F : xH) (m1 : Nat → Int), j + t = sz → i < sz → F 38 = some (oMd m1) → m1 49 = (sz : Int) → onF F sz N → bmF F 67 sz N R → a = msum R sz i + rsum R i j → (xw g M_X10_count Q 0 0 77 [(0, vR 38), (2, vI ((msum R sz (i + 1) : Nat) : Int)), (3, vI ((i + 1 : Nat) : Int))] [] n F) → xw g M_X10_count Q 0 0 88 [(0, vR 38), (2, vI (a : Int)), (3, vI (i : Int)), (4, vI (j : Int))] [] n F := by
        intro t
        induction t with
        | zero =>
          intro j i a F m1 hj hi h38 m49 hon hb ha K
          obtain rfl : j = sz := by omega
          refine xw_iload dX10_count_88 rfl ?_
          refine xw_aload_n dX10_count_90 rfl ?_
          refine xw_getfield dX10_count_91 fl_X10_285 h38 rfl ?_
          refine xw_topi (j : Int) m49 ?_
          refine xw_icmpge (tgt := 136) dX10_count_94 (by decide) (by first | assumption | (unfold inI; omega) | (unfold inI at *; omega)) (by first | assumption | (unfold inI; omega) | (unfold inI at *; omega)) (fun c_94 => ?_) (fun c_94 => ?_)
          · skip
            refine xw_iinc dX10_count_136 rfl (by decide) ?_
            refine xw_goto (tgt := 77) dX10_count_139 (by decide) ?_
            exact xw_ls [(0, vR 38), (2, vI (a : Int)), (3, vI ((i + 1 : Nat) : Int))] ⟨rfl, rfl, rfl, trivial⟩ (by rw [ha]; exact K)
          · skip
            exfalso; omega
        | succ t ih =>
          intro j i a F m1 hj hi h38 m49 hon hb ha K
          obtain ⟨on, h70, hon9⟩ := id hon
          obtain ⟨br, h67, hb9⟩ := id hb
          have ni := hN.2 i hi
          have nj := hN.2 j (by omega)
          have q2 := hb9 i j hi (by omega)
          have a1 := msum_le R sz i
          have a2 := rsum_le R i j
          have a3 : i * sz ≤ 40 * 40 := Nat.mul_le_mul (by omega) h40
          have nx : ∀ x : Nat, x = cite (R i j) 1 0 → xw g M_X10_count Q 0 0 128 [(0, vR 38), (3, vI (i : Int)), (4, vI (j : Int))] [vI (x : Int), vI (a : Int)] n F := by
            intro x hx
            refine xw_iadd dX10_count_128 ?_
            refine xw_istore_n dX10_count_129 (by decide) ?_
            refine xw_iinc dX10_count_130 rfl (by decide) ?_
            refine xw_goto (tgt := 88) dX10_count_133 (by decide) ?_
            exact xw_ls [(0, vR 38), (2, vI ((a + x : Nat) : Int)), (3, vI (i : Int)), (4, vI ((j + 1 : Nat) : Int))] ⟨rfl, rfl, rfl, rfl, trivial⟩ (ih (j + 1) i (a + x) F m1 (by omega) hi h38 m49 hon hb (by rw [ha, hx]; show _ = _ + (_ + _); omega) K)
          refine xw_iload dX10_count_88 rfl ?_
          refine xw_aload_n dX10_count_90 rfl ?_
          refine xw_getfield dX10_count_91 fl_X10_285 h38 rfl ?_
          refine xw_topi (sz : Int) m49 ?_
          refine xw_icmpge (tgt := 136) dX10_count_94 (by decide) (by first | assumption | (unfold inI; omega) | (unfold inI at *; omega)) (by first | assumption | (unfold inI; omega) | (unfold inI at *; omega)) (fun c_94 => ?_) (fun c_94 => ?_)
          · skip
            exfalso; omega
          · skip
            refine xw_iload_n dX10_count_97 rfl ?_
            refine xw_aload_n dX10_count_98 rfl ?_
            refine xw_getfield dX10_count_99 fl_X10_103 h38 rfl ?_
            refine xw_bipush (z := 100) dX10_count_102 (by decide) ?_
            refine xw_aload_n dX10_count_104 rfl ?_
            refine xw_getfield dX10_count_105 fl_X10_112 h38 rfl ?_
            refine xw_iload_n dX10_count_108 rfl ?_
            refine xw_iald dX10_count_109 h70 (j := i) rfl (by omega) (by decide) ?_
            refine xw_topi (N i : Int) (hon9 i hi) ?_
            refine xw_imul dX10_count_110 ?_
            refine xw_aload_n dX10_count_111 rfl ?_
            refine xw_getfield dX10_count_112 fl_X10_112 h38 rfl ?_
            refine xw_iload dX10_count_115 rfl ?_
            refine xw_iald dX10_count_117 h70 (j := j) rfl (by omega) (by decide) ?_
            refine xw_topi (N j : Int) (hon9 j (by omega)) ?_
            refine xw_iadd dX10_count_118 ?_
            refine xw_zald dX10_count_119 h67 (j := 100 * N i + N j) (by omega) (by omega) (by decide) ?_
            refine xw_ifeq (tgt := 127) dX10_count_120 (by decide) (by first | assumption | (unfold inI; omega) | (unfold inI at *; omega)) (fun c_120 => ?_) (fun c_120 => ?_)
            · skip
              refine xw_iconst dX10_count_127 ?_
              first
                | exact xw_ls [(0, vR 38), (3, vI (i : Int)), (4, vI (j : Int))] ⟨rfl, rfl, rfl, trivial⟩ (nx 0 (cite_f (by rcases q2 with ⟨_, b⟩ | ⟨b, _⟩; exact b; exact absurd c_120 (by omega))).symm)
                | exact xw_ls [(0, vR 38), (3, vI (i : Int)), (4, vI (j : Int))] ⟨rfl, rfl, rfl, trivial⟩ (nx 1 (cite_t (by rcases q2 with ⟨b, _⟩ | ⟨_, b⟩; exact absurd b c_120; exact b)).symm)
            · skip
              refine xw_iconst dX10_count_123 ?_
              refine xw_goto (tgt := 128) dX10_count_124 (by decide) ?_
              first
                | exact xw_ls [(0, vR 38), (3, vI (i : Int)), (4, vI (j : Int))] ⟨rfl, rfl, rfl, trivial⟩ (nx 0 (cite_f (by rcases q2 with ⟨_, b⟩ | ⟨b, _⟩; exact b; exact absurd c_120 (by omega))).symm)
                | exact xw_ls [(0, vR 38), (3, vI (i : Int)), (4, vI (j : Int))] ⟨rfl, rfl, rfl, trivial⟩ (nx 1 (cite_t (by rcases q2 with ⟨b, _⟩ | ⟨_, b⟩; exact absurd b c_120; exact b)).symm)
      have LI : ∀ (t i : Nat) (F : xH) (m1 : Nat → Int), i + t = sz → gR F0 F m0 m1 → m1 49 = (sz : Int) → onF F sz N → bmF F 67 sz N R → xw g M_X10_count Q 0 0 77 [(0, vR 38), (2, vI ((msum R sz i : Nat) : Int)), (3, vI (i : Int))] [] n F := by
        intro t
        induction t with
        | zero =>
          intro i F m1 hi hG m49 hon hb
          have h38 := hG.2.1
          obtain rfl : i = sz := by omega
          refine xw_iload_n dX10_count_77 rfl ?_
          refine xw_aload_n dX10_count_78 rfl ?_
          refine xw_getfield dX10_count_79 fl_X10_285 h38 rfl ?_
          refine xw_topi (i : Int) m49 ?_
          refine xw_icmpge (tgt := 142) dX10_count_82 (by decide) (by first | assumption | (unfold inI; omega) | (unfold inI at *; omega)) (by first | assumption | (unfold inI; omega) | (unfold inI at *; omega)) (fun c_82 => ?_) (fun c_82 => ?_)
          · skip
            refine xw_iload_n dX10_count_142 rfl ?_
            exact xw_iret dX10_count_143 rfl (hq F _ (MS_gr hF0 hm0 hG).1 (kC_tr kF0 (MS_gr hF0 hm0 hG).2.1) (Or.inr (Or.inr (Or.inr (Or.inr (Or.inr (Or.inl ⟨rfl, rfl⟩)))))))
          · skip
            exfalso; omega
        | succ t ih =>
          intro i F m1 hi hG m49 hon hb
          have h38 := hG.2.1
          refine xw_iload_n dX10_count_77 rfl ?_
          refine xw_aload_n dX10_count_78 rfl ?_
          refine xw_getfield dX10_count_79 fl_X10_285 h38 rfl ?_
          refine xw_topi (sz : Int) m49 ?_
          refine xw_icmpge (tgt := 142) dX10_count_82 (by decide) (by first | assumption | (unfold inI; omega) | (unfold inI at *; omega)) (by first | assumption | (unfold inI; omega) | (unfold inI at *; omega)) (fun c_82 => ?_) (fun c_82 => ?_)
          · skip
            exfalso; omega
          · skip
            refine xw_iconst dX10_count_85 ?_
            refine xw_istore dX10_count_86 (by decide) ?_
            exact xw_ls [(0, vR 38), (2, vI ((msum R sz i : Nat) : Int)), (3, vI (i : Int)), (4, vI ((0 : Nat) : Int))] ⟨rfl, rfl, rfl, rfl, trivial⟩ (LJ sz 0 i _ F m1 (by omega) (by omega) h38 m49 hon hb rfl (ih (i + 1) F m1 (by omega) hG m49 hon hb))
      refine xw_iload_n dX10_count_5 rfl ?_
      refine xw_tin (tgt := 69) dX10_count_6 hz (by decide) (by decide) rfl (by decide) ?_
      refine xw_aload_n dX10_count_69 rfl ?_
      refine xw_callV (rc := 0) (rs := 0) (mc2 := 0) (ms2 := 0) (a := 38) (As := []) (st := []) dX10_count_70 mv_X10_288 h38 rfl rfl (by decide) (by decide) (Nat.le_of_ble_eq_true rfl) rfl (ct_findBars hE0 hsh hN h40 (fun F1 m1 hG m49 hon hb => ?_))
      refine xw_iconst dX10_count_73 ?_
      refine xw_istore_n dX10_count_74 (by decide) ?_
      refine xw_iconst dX10_count_75 ?_
      refine xw_istore_n dX10_count_76 (by decide) ?_
      exact xw_ls [(0, vR 38), (2, vI ((msum R sz 0 : Nat) : Int)), (3, vI ((0 : Nat) : Int))] ⟨rfl, rfl, rfl, trivial⟩ (LI sz 0 F1 m1 (by omega) hG m49 hon (by rw [hR]; exact hb))
    · refine xw_iload_n dX10_count_5 rfl ?_
      refine xw_tout (tgt := 144) dX10_count_6 hz hz9 (by decide) ?_
      refine xw_iconst dX10_count_144 ?_
      exact xw_iret dX10_count_145 rfl (hq F0 _ hF0 kF0 (Or.inr (Or.inr (Or.inr (Or.inr (Or.inr (Or.inr ⟨hz9, rfl⟩)))))))
  obtain ⟨m, h38, hm, _⟩ := id h
  refine xw_aload_n dX10_count_0 rfl ?_
  refine xw_iconst dX10_count_1 ?_
  refine xw_putfield dX10_count_2 (fp_X10_1 _) h38 rfl rfl ?_
  rw [xmd_0]
  exact S _ (MS_th 0 h h38 hm).1 (MS_th 0 h h38 hm).2
end C98
