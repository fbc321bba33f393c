/-! the model's acts -/
def shA (full : Bool) : Nat := if full then 1 else 0
def mActd (A S AP P A2 S2 AP2 : Nat → Int) (c sh : Nat) (wh : Int) (s : Nat) : Prop := (∀ j, j < c → A2 j = A (j + sh) ∧ S2 j = S (j + sh)) ∧ A2 c = wh ∧ S2 c = (s : Int) ∧ (∀ j, j < 9 * c → AP2 j = AP (j + 9 * sh)) ∧ ∀ j, j < 9 → AP2 (9 * c + j) = P (9 * s + j)
theorem mAP_take {AP AP2 : Nat → Int} : ∀ (as : List xAc) (t : Nat) (σ : Nat → xSt), mAP AP σ as → (∀ j, j < 9 * (as.take t).length → AP2 j = AP (j + 9 * (as.length - (as.take t).length))) → mAP AP2 σ (as.take t) := by
  intro as
  induction as with
  | nil => intro t σ _ _; rw [List.take_nil]; trivial
  | cons x r ih =>
    intro t σ h hA
    cases t with
    | zero => rw [List.take_zero]; trivial
    | succ t =>
      rw [List.take_succ_cons] at hA ⊢
      have hlen : (r.take t).length ≤ r.length := by rw [List.length_take]; omega
      refine ⟨fun q j hj => ?_, ih t _ h.2 (fun j hj => ?_)⟩
      · rw [← h.1 q j hj, hA _ (by rw [List.length_cons]; omega)]
        congr 1
        rw [List.length_cons, List.length_cons]
        omega
      · rw [hA j (by rw [List.length_cons]; omega), List.length_cons, List.length_cons]
        congr 1
        omega
theorem mAP_cg {AP : Nat → Int} : ∀ (as : List xAc) (gn : Nat) (σ σ1 : Nat → xSt), (∀ x ∈ as, x.2.1.toNat < gn) → (∀ s, s < gn → σ s = σ1 s) → mAP AP σ as → mAP AP σ1 as := by
  intro as
  induction as with
  | nil => intro _ _ _ _ _ _; trivial
  | cons x r ih =>
    intro gn σ σ1 hx hs h
    have hx0 := hx x List.mem_cons_self
    have hu : ∀ s, s < gn → und σ x s = und σ1 x s := by
      intro s hs9
      unfold und
      rw [hs _ hx0]
      by_cases e : s = x.2.1.toNat
      · rw [e, xui_s, xui_s]
      · rw [xui_n _ _ e, xui_n _ _ e]; exact hs s hs9
    refine ⟨fun q j hj => ?_, ih gn _ _ (fun z hz => hx z (List.mem_cons_of_mem _ hz)) hu h.2⟩
    rw [← hu _ hx0]
    exact h.1 q j hj
theorem mac_act {f1 : xH} {σ σ1 : Nat → xSt} {as : List xAc} {A S AP P A2 S2 AP2 : Nat → Int} {gn s : Nat} {wh x y z : Int} (hl : as.length ≤ 8) (hi : ∀ i x, as[i]? = some x → A (as.length - 1 - i) = x.1 ∧ S (as.length - 1 - i) = x.2.1) (hap : mAP AP σ as) (hch : ∀ x ∈ as, x.2.1.toNat < gn) (hA : mActd A S AP P A2 S2 AP2 (as.take 7).length (as.length - (as.take 7).length) wh s) (g52 : f1 52 = some (aI 8 A2)) (g53 : f1 53 = some (aI 8 S2)) (g54 : f1 54 = some (aI 72 AP2)) (hu : ∀ t, t < gn → und σ1 (aCt wh (s : Int) x y z) t = σ t) (hm : wh = 2 → ∀ j, j < 9 → P (9 * s + j) = ptS (und σ1 (aCt wh (s : Int) x y z) s) j) : mac f1 σ1 (aCt wh (s : Int) x y z :: as.take 7) := by
  obtain ⟨a1, a2, a3, a4, a5⟩ := hA
  have hlt : (as.take 7).length ≤ as.length ∧ (as.take 7).length ≤ 7 := by rw [List.length_take]; omega
  refine ⟨A2, S2, AP2, g52, g53, g54, by rw [List.length_cons]; omega, fun i b hb => ?_, fun q j hj => ?_, ?_⟩
  · rw [List.length_cons]
    cases i with
    | zero =>
      have e : aCt wh (s : Int) x y z = b := Option.some.inj hb
      rw [← e]
      exact ⟨a2, a3⟩
    | succ i =>
      rw [List.getElem?_cons_succ] at hb
      have hil := (List.getElem?_eq_some_iff.mp hb).1
      rw [List.getElem?_take] at hb
      by_cases e7 : i < 7
      · rw [if_pos e7] at hb
        have q := hi i b hb
        have r := a1 ((as.take 7).length + 1 - 1 - (i + 1)) (by omega)
        rw [r.1, r.2, show (as.take 7).length + 1 - 1 - (i + 1) + (as.length - (as.take 7).length) = as.length - 1 - i by omega]
        exact q
      · rw [if_neg e7] at hb; cases hb
  · have e1 : (aCt wh (s : Int) x y z).2.1.toNat = s := Int.toNat_natCast s
    rw [a5 j hj, e1]
    exact hm q j hj
  · exact mAP_cg _ gn σ _ (fun b hb => hch b (List.mem_of_mem_take hb)) (fun t ht => (hu t ht).symm) (mAP_take as 7 σ hap a4)
section C80
variable {g : xG} {y : xM} {Q : xP} {n : Nat} {f : xH}
set_option maxHeartbeats 4000000 in
theorem ct_acted {m A S AP P : Nat → Int} {ln s : Nat} {wh : Int} (h38 : f 38 = some (oMd m)) (h46 : f 46 = some (aI 909 P)) (h52 : f 52 = some (aI 8 A)) (h53 : f 53 = some (aI 8 S)) (h54 : f 54 = some (aI 72 AP)) (h23 : m 23 = (ln : Int)) (hln : ln ≤ 8) (hs : s < 101)
    (hq : ∀ f1 A2 S2 AP2 m1, (m1 23 = ((min ln 7 + 1 : Nat) : Int) ∧ ∀ k, k ≠ 23 → m1 k = m k) → fr [38, 52, 53, 54] f f1 → f1 38 = some (oMd m1) → f1 52 = some (aI 8 A2) → f1 53 = some (aI 8 S2) → f1 54 = some (aI 72 AP2) → mActd A S AP P A2 S2 AP2 (min ln 7) (ln - min ln 7) wh s → Q (.inl none) n f1) : xct g M_X10_acted 0 0 [vR 38, vI wh, vI (s : Int)] n f Q := by
  refine xct_of rfl rfl (Nat.le_of_ble_eq_true rfl) ?_
  -- from 86 on, with c acts kept
  have E : ∀ (c : Nat) (f1 : xH) (m1 A1 S1 AP1 : Nat → Int), c ≤ 7 → m1 23 = (c : Int) → c = min ln 7 → (∀ k, k ≠ 23 → m1 k = m k) → fr [38, 52, 53, 54] f f1 → f1 38 = some (oMd m1) → f1 52 = some (aI 8 A1) → f1 53 = some (aI 8 S1) → f1 54 = some (aI 72 AP1) → (∀ j, j < c → A1 j = A (j + (ln - min ln 7)) ∧ S1 j = S (j + (ln - min ln 7))) → (∀ j, j < 9 * c → AP1 j = AP (j + 9 * (ln - min ln 7))) → xw g M_X10_acted Q 0 0 86 [(0, vR 38), (1, vI wh), (2, vI (s : Int))] [] n f1 := by
    intro c f1 m1 A1 S1 AP1 hc7 hm1 hcm hmk hf e38 e52 e53 e54 hAS hAP
    obtain ⟨F, hF⟩ : ∃ F, F = xup (xup f1 52 (aI 8 (xui A1 c wh))) 53 (aI 8 (xui S1 c (s : Int))) := ⟨_, rfl⟩
    have F38 : F 38 = some (oMd m1) := by rw [hF]; exact e38
    have F54 : F 54 = some (aI 72 AP1) := by rw [hF]; exact e54
    have F46 : F 46 = some (aI 909 P) := by rw [hF]; exact fr_at hf h46 (by decide)
    have Ff : fr [38, 52, 53, 54] f F := by rw [hF]; exact fr_up (fr_up hf (by decide)) (by decide)
    have L : ∀ (j t : Nat), t + j = 9 → xw g M_X10_acted Q 0 0 108 [(0, vR 38), (1, vI wh), (2, vI (s : Int)), (3, vI (t : Int))] [] n (xup F 54 (aI 72 (stf AP1 (9 * c) t (Ps P s)))) := by
      intro j
      induction j with
      | zero =>
        intro t ht9
        obtain rfl : t = 9 := by omega
        refine xw_iload_n dX10_acted_108 rfl ?_
        refine xw_bipush (z := 9) dX10_acted_109 (by decide) ?_
        refine xw_icmpge (tgt := 145) dX10_acted_111 (by decide) (by first | assumption | (unfold inI; omega) | (unfold inI at *; omega)) (by first | assumption | (unfold inI; omega) | (unfold inI at *; omega)) (fun c_111 => ?_) (fun c_111 => ?_)
        · skip
          refine xw_aload_n dX10_acted_145 rfl ?_
          refine xw_dup dX10_acted_146 rfl ?_
          refine xw_getfield dX10_acted_147 fl_X10_196 F38 rfl ?_
          refine xw_iconst dX10_acted_150 ?_
          refine xw_iadd dX10_acted_151 ?_
          refine xw_putfield dX10_acted_152 (fp_X10_196 _) F38 rfl rfl ?_
          rw [xmd_23]
          exact xw_vret dX10_acted_155 rfl (hq _ (xui A1 c wh) (xui S1 c (s : Int)) (stf AP1 (9 * c) 9 (Ps P s)) (xui m1 23 (m1 23 + 1)) ⟨by show m1 23 + 1 = _; rw [hm1, ← hcm]; omega, fun k hk => by rw [xui_n _ _ hk]; exact hmk k hk⟩ (fr_up (fr_up Ff (by decide)) (by decide)) rfl (by rw [hF]; rfl) (by rw [hF]; rfl) rfl ⟨fun j hj => by rw [← hcm] at hj; rw [xui_n _ _ (by omega), xui_n _ _ (by omega)]; exact hAS j hj, by rw [← hcm, xui_s], by rw [← hcm, xui_s], fun j hj => by rw [← hcm] at hj; rw [stf_out (by omega)]; exact hAP j hj, fun j hj => by rw [← hcm, stf_in hj]; rfl⟩)
        · skip
          exfalso; omega
      | succ j ih =>
        intro t ht9
        refine xw_iload_n dX10_acted_108 rfl ?_
        refine xw_bipush (z := 9) dX10_acted_109 (by decide) ?_
        refine xw_icmpge (tgt := 145) dX10_acted_111 (by decide) (by first | assumption | (unfold inI; omega) | (unfold inI at *; omega)) (by first | assumption | (unfold inI; omega) | (unfold inI at *; omega)) (fun c_111 => ?_) (fun c_111 => ?_)
        · skip
          exfalso; omega
        · skip
          refine xw_aload_n dX10_acted_114 rfl ?_
          refine xw_getfield dX10_acted_115 fl_X10_64 F38 rfl ?_
          refine xw_bipush (z := 9) dX10_acted_118 (by decide) ?_
          refine xw_aload_n dX10_acted_120 rfl ?_
          refine xw_getfield dX10_acted_121 fl_X10_196 F38 rfl ?_
          refine xw_imul dX10_acted_124 ?_
          refine xw_iload_n dX10_acted_125 rfl ?_
          refine xw_iadd dX10_acted_126 ?_
          refine xw_aload_n dX10_acted_127 rfl ?_
          refine xw_getfield dX10_acted_128 fl_X10_36 F38 rfl ?_
          refine xw_bipush (z := 9) dX10_acted_131 (by decide) ?_
          refine xw_iload_n dX10_acted_133 rfl ?_
          refine xw_imul dX10_acted_134 ?_
          refine xw_iload_n dX10_acted_135 rfl ?_
          refine xw_iadd dX10_acted_136 ?_
          refine xw_iald dX10_acted_137 F46 (j := 9 * s + t) (by omega) (by omega) (by decide) ?_
          refine xw_iast dX10_acted_138 rfl (j := 9 * c + t) (by show 9 * m1 23 + (t : Int) = _; omega) (by omega) (by decide) ?_
          rw [xup_up, show P (9 * s + t) = Ps P s t from rfl, stf_s]
          refine xw_iinc dX10_acted_139 rfl (by decide) ?_
          refine xw_goto (tgt := 108) dX10_acted_142 (by decide) ?_
          exact xw_ls [(0, vR 38), (1, vI wh), (2, vI (s : Int)), (3, vI ((t + 1 : Nat) : Int))] ⟨rfl, rfl, rfl, rfl, trivial⟩ (ih (t + 1) (by omega))
    refine xw_aload_n dX10_acted_86 rfl ?_
    refine xw_getfield dX10_acted_87 fl_X10_58 e38 rfl ?_
    refine xw_aload_n dX10_acted_90 rfl ?_
    refine xw_getfield dX10_acted_91 fl_X10_196 e38 rfl ?_
    refine xw_iload_n dX10_acted_94 rfl ?_
    refine xw_iast dX10_acted_95 e52 (j := c) hm1 (by omega) (by decide) ?_
    refine xw_aload_n dX10_acted_96 rfl ?_
    refine xw_getfield dX10_acted_97 fl_X10_61 e38 rfl ?_
    refine xw_aload_n dX10_acted_100 rfl ?_
    refine xw_getfield dX10_acted_101 fl_X10_196 e38 rfl ?_
    refine xw_iload_n dX10_acted_104 rfl ?_
    refine xw_iast dX10_acted_105 e53 (j := c) hm1 (by omega) (by decide) ?_
    refine xw_iconst dX10_acted_106 ?_
    refine xw_istore_n dX10_acted_107 (by decide) ?_
    refine xw_hq F hF.symm ?_
    refine xw_ls [(0, vR 38), (1, vI wh), (2, vI (s : Int)), (3, vI ((0 : Nat) : Int))] ⟨rfl, rfl, rfl, rfl, trivial⟩ ?_
    have hL := L 9 0 (by omega)
    rw [stf_0, xup_id F54] at hL
    exact hL
  by_cases h8 : ln = 8
  · -- full: all is moved down
    have L2 : ∀ (j t : Nat) (f1 : xH) (AP1 : Nat → Int), t + j = 63 → fr [38, 52, 53, 54] f f1 → f1 38 = some (oMd m) → (∃ A1 S1 : Nat → Int, f1 52 = some (aI 8 A1) ∧ f1 53 = some (aI 8 S1) ∧ ∀ j, j < 7 → A1 j = A (j + 1) ∧ S1 j = S (j + 1)) → f1 54 = some (aI 72 AP1) → (∀ i, i < t → AP1 i = AP (i + 9)) → (∀ i, t ≤ i → AP1 i = AP i) → xw g M_X10_acted Q 0 0 53 [(0, vR 38), (1, vI wh), (2, vI (s : Int)), (3, vI (t : Int))] [] n f1 := by
      intro j
      induction j with
      | zero =>
        intro t f1 AP1 ht9 hf e38 hAS e54 i1 i2
        obtain ⟨A1, S1, e52, e53, hAS⟩ := hAS
        obtain rfl : t = 63 := by omega
        refine xw_iload_n dX10_acted_53 rfl ?_
        refine xw_bipush (z := 63) dX10_acted_54 (by decide) ?_
        refine xw_icmpge (tgt := 80) dX10_acted_56 (by decide) (by first | assumption | (unfold inI; omega) | (unfold inI at *; omega)) (by first | assumption | (unfold inI; omega) | (unfold inI at *; omega)) (fun c_56 => ?_) (fun c_56 => ?_)
        · skip
          refine xw_aload_n dX10_acted_80 rfl ?_
          refine xw_bipush (z := 7) dX10_acted_81 (by decide) ?_
          refine xw_putfield dX10_acted_83 (fp_X10_196 _) e38 rfl rfl ?_
          rw [xmd_23]
          exact xw_ls [(0, vR 38), (1, vI wh), (2, vI (s : Int))] ⟨rfl, rfl, rfl, trivial⟩ (E 7 _ (xui m 23 7) A1 S1 AP1 (by omega) rfl (by omega) (fun k hk => xui_n _ _ hk) (fr_up hf (by decide)) rfl e52 e53 e54 (fun j hj => by rw [show ln - min ln 7 = 1 by omega]; exact hAS j hj) (fun j hj => by rw [show 9 * (ln - min ln 7) = 9 by omega]; exact i1 j (by omega)))
        · skip
          exfalso; omega
      | succ j ih =>
        intro t f1 AP1 ht9 hf e38 hAS e54 i1 i2
        obtain ⟨A1, S1, e52, e53, hAS⟩ := hAS
        refine xw_iload_n dX10_acted_53 rfl ?_
        refine xw_bipush (z := 63) dX10_acted_54 (by decide) ?_
        refine xw_icmpge (tgt := 80) dX10_acted_56 (by decide) (by first | assumption | (unfold inI; omega) | (unfold inI at *; omega)) (by first | assumption | (unfold inI; omega) | (unfold inI at *; omega)) (fun c_56 => ?_) (fun c_56 => ?_)
        · skip
          exfalso; omega
        · skip
          refine xw_aload_n dX10_acted_59 rfl ?_
          refine xw_getfield dX10_acted_60 fl_X10_64 e38 rfl ?_
          refine xw_iload_n dX10_acted_63 rfl ?_
          refine xw_aload_n dX10_acted_64 rfl ?_
          refine xw_getfield dX10_acted_65 fl_X10_64 e38 rfl ?_
          refine xw_iload_n dX10_acted_68 rfl ?_
          refine xw_bipush (z := 9) dX10_acted_69 (by decide) ?_
          refine xw_iadd dX10_acted_71 ?_
          refine xw_iald dX10_acted_72 e54 (j := t + 9) (by omega) (by omega) (by decide) ?_
          refine xw_iast dX10_acted_73 e54 (j := t) rfl (by omega) (by decide) ?_
          refine xw_iinc dX10_acted_74 rfl (by decide) ?_
          refine xw_goto (tgt := 53) dX10_acted_77 (by decide) ?_
          exact xw_ls [(0, vR 38), (1, vI wh), (2, vI (s : Int)), (3, vI ((t + 1 : Nat) : Int))] ⟨rfl, rfl, rfl, rfl, trivial⟩ (ih (t + 1) _ (xui AP1 t (AP1 (t + 9))) (by omega) (fr_up hf (by decide)) e38 ⟨A1, S1, e52, e53, hAS⟩ rfl (fun i hi => by
              by_cases e : i = t
              · subst e; rw [xui_s]; exact i2 _ (by omega)
              · rw [xui_n _ _ e]; exact i1 i (by omega)) (fun i hi => by rw [xui_n _ _ (by omega)]; exact i2 i (by omega)))
    have L1 : ∀ (j t : Nat) (f1 : xH) (A1 S1 : Nat → Int), t + j = 7 → fr [38, 52, 53, 54] f f1 → f1 38 = some (oMd m) → f1 52 = some (aI 8 A1) → f1 53 = some (aI 8 S1) → f1 54 = some (aI 72 AP) → (∀ i, i < t → A1 i = A (i + 1) ∧ S1 i = S (i + 1)) → (∀ i, t ≤ i → A1 i = A i ∧ S1 i = S i) → xw g M_X10_acted Q 0 0 11 [(0, vR 38), (1, vI wh), (2, vI (s : Int)), (3, vI (t : Int))] [] n f1 := by
      intro j
      induction j with
      | zero =>
        intro t f1 A1 S1 ht9 hf e38 e52 e53 e54 i1 i2
        obtain rfl : t = 7 := by omega
        refine xw_iload_n dX10_acted_11 rfl ?_
        refine xw_bipush (z := 7) dX10_acted_12 (by decide) ?_
        refine xw_icmpge (tgt := 51) dX10_acted_14 (by decide) (by first | assumption | (unfold inI; omega) | (unfold inI at *; omega)) (by first | assumption | (unfold inI; omega) | (unfold inI at *; omega)) (fun c_14 => ?_) (fun c_14 => ?_)
        · skip
          refine xw_iconst dX10_acted_51 ?_
          refine xw_istore_n dX10_acted_52 (by decide) ?_
          exact xw_ls [(0, vR 38), (1, vI wh), (2, vI (s : Int)), (3, vI ((0 : Nat) : Int))] ⟨rfl, rfl, rfl, rfl, trivial⟩ (L2 63 0 f1 AP (by omega) hf e38 ⟨A1, S1, e52, e53, i1⟩ e54 (fun i hi => absurd hi (Nat.not_lt_zero i)) (fun i _ => rfl))
        · skip
          exfalso; omega
      | succ j ih =>
        intro t f1 A1 S1 ht9 hf e38 e52 e53 e54 i1 i2
        refine xw_iload_n dX10_acted_11 rfl ?_
        refine xw_bipush (z := 7) dX10_acted_12 (by decide) ?_
        refine xw_icmpge (tgt := 51) dX10_acted_14 (by decide) (by first | assumption | (unfold inI; omega) | (unfold inI at *; omega)) (by first | assumption | (unfold inI; omega) | (unfold inI at *; omega)) (fun c_14 => ?_) (fun c_14 => ?_)
        · skip
          exfalso; omega
        · skip
          refine xw_aload_n dX10_acted_17 rfl ?_
          refine xw_getfield dX10_acted_18 fl_X10_58 e38 rfl ?_
          refine xw_iload_n dX10_acted_21 rfl ?_
          refine xw_aload_n dX10_acted_22 rfl ?_
          refine xw_getfield dX10_acted_23 fl_X10_58 e38 rfl ?_
          refine xw_iload_n dX10_acted_26 rfl ?_
          refine xw_iconst dX10_acted_27 ?_
          refine xw_iadd dX10_acted_28 ?_
          refine xw_iald dX10_acted_29 e52 (j := t + 1) (by omega) (by omega) (by decide) ?_
          refine xw_iast dX10_acted_30 e52 (j := t) rfl (by omega) (by decide) ?_
          refine xw_aload_n dX10_acted_31 rfl ?_
          refine xw_getfield dX10_acted_32 fl_X10_61 e38 rfl ?_
          refine xw_iload_n dX10_acted_35 rfl ?_
          refine xw_aload_n dX10_acted_36 rfl ?_
          refine xw_getfield dX10_acted_37 fl_X10_61 e38 rfl ?_
          refine xw_iload_n dX10_acted_40 rfl ?_
          refine xw_iconst dX10_acted_41 ?_
          refine xw_iadd dX10_acted_42 ?_
          refine xw_iald dX10_acted_43 e53 (j := t + 1) (by omega) (by omega) (by decide) ?_
          refine xw_iast dX10_acted_44 e53 (j := t) rfl (by omega) (by decide) ?_
          refine xw_iinc dX10_acted_45 rfl (by decide) ?_
          refine xw_goto (tgt := 11) dX10_acted_48 (by decide) ?_
          exact xw_ls [(0, vR 38), (1, vI wh), (2, vI (s : Int)), (3, vI ((t + 1 : Nat) : Int))] ⟨rfl, rfl, rfl, rfl, trivial⟩ (ih (t + 1) _ (xui A1 t (A1 (t + 1))) (xui S1 t (S1 (t + 1))) (by omega) (fr_up (fr_up hf (by decide)) (by decide)) e38 rfl rfl e54 (fun i hi => by
              by_cases e : i = t
              · subst e; rw [xui_s, xui_s]; exact i2 _ (by omega)
              · rw [xui_n _ _ e, xui_n _ _ e]; exact i1 i (by omega)) (fun i hi => by rw [xui_n _ _ (by omega), xui_n _ _ (by omega)]; exact i2 i (by omega)))
    refine xw_aload_n dX10_acted_0 rfl ?_
    refine xw_getfield dX10_acted_1 fl_X10_196 h38 rfl ?_
    refine xw_topi (ln : Int) h23 ?_
    refine xw_bipush (z := 8) dX10_acted_4 (by decide) ?_
    refine xw_icmpne (tgt := 86) dX10_acted_6 (by decide) (by first | assumption | (unfold inI; omega) | (unfold inI at *; omega)) (by first | assumption | (unfold inI; omega) | (unfold inI at *; omega)) (fun c_6 => ?_) (fun c_6 => ?_)
    · skip
      exfalso; omega
    · skip
      refine xw_iconst dX10_acted_9 ?_
      refine xw_istore_n dX10_acted_10 (by decide) ?_
      exact xw_ls [(0, vR 38), (1, vI wh), (2, vI (s : Int)), (3, vI ((0 : Nat) : Int))] ⟨rfl, rfl, rfl, rfl, trivial⟩ (L1 7 0 f A S (by omega) (fr_rf _ f) h38 h52 h53 h54 (fun i hi => absurd hi (Nat.not_lt_zero i)) (fun i _ => ⟨rfl, rfl⟩))
  · skip
    refine xw_aload_n dX10_acted_0 rfl ?_
    refine xw_getfield dX10_acted_1 fl_X10_196 h38 rfl ?_
    refine xw_topi (ln : Int) h23 ?_
    refine xw_bipush (z := 8) dX10_acted_4 (by decide) ?_
    refine xw_icmpne (tgt := 86) dX10_acted_6 (by decide) (by first | assumption | (unfold inI; omega) | (unfold inI at *; omega)) (by first | assumption | (unfold inI; omega) | (unfold inI at *; omega)) (fun c_6 => ?_) (fun c_6 => ?_)
    · skip
      exact xw_ls [(0, vR 38), (1, vI wh), (2, vI (s : Int))] ⟨rfl, rfl, rfl, trivial⟩ (E ln f m A S AP (by omega) h23 (by omega) (fun _ _ => rfl) (fr_rf _ f) h38 h52 h53 h54 (fun j _ => by rw [show ln - min ln 7 = 0 by omega]; exact ⟨rfl, rfl⟩) (fun j _ => by rw [show 9 * (ln - min ln 7) = 0 by omega]; rfl))
    · skip
      exfalso; omega
end C80
