/-! what the class sees -/
def lnv (d p q : Nat → Int) : Nat → Int := if cr p d 0 = 0 ∧ cr p d 1 = 0 ∧ cr p d 2 = 0 then cr q d else cr p d
def lineM (d p q w : Nat → Int) : Prop := isMul (cr w d) (lnv d p q) (wide (lnv d p q))
def ofL2 (c : v4) (ps qs ws e : Int) (s : ofS) : ofS := ofE c 0 e qs ps ws (ofE c 1 e ps qs (-ws) s)
def ofLa (c : v4) (ps qs ws : Int) (s : ofS) : ofS := ofL2 c ps qs ws 1 (ofL2 c ps qs ws 0 (0, s.2))
def ofL (d p q w : Nat → Int) (k : Nat) (s : ofS) : ofS := ofLa (c4 d p q w k) (cr p d (wide (lnv d p q))) (cr q d (wide (lnv d p q))) (cr w d (wide (lnv d p q))) s
theorem okS_L2 {c : v4} {ps qs ws e : Int} {s : ofS} (hc : ok4 c) (h : okS s) (he : e = 0 ∨ e = 1) (h1 : nb ps 400000) (h2 : nb qs 400000) (h3 : nb ws 400000) : okS (ofL2 c ps qs ws e s) := okS_E hc (okS_E hc h he h1 h2 (nb_neg h3)) he h2 h1 h3
theorem okS_La {c : v4} {ps qs ws : Int} {s : ofS} (hc : ok4 c) (h : inL s.2.2.2.1) (h1 : nb ps 400000) (h2 : nb qs 400000) (h3 : nb ws 400000) : okS (ofLa c ps qs ws s) := okS_L2 hc (okS_L2 hc ⟨h, Or.inl rfl⟩ (Or.inl rfl) h1 h2 h3) (Or.inr rfl) h1 h2 h3
theorem scr_3 {f F : xH} {X : xE} (h : scr f F) : scr (xup f 3 X) (xup F 3 X) := by
  refine ⟨fun k hk => ?_, fun k k1 k2 => ?_⟩
  · by_cases e : k = 3
    · subst e; rw [xup_s, xup_s]
    · rw [xup_n _ _ e, xup_n _ _ e]; exact h.1 k hk
  · rw [xup_n _ _ (by omega)]; exact h.2 k k1 k2
theorem ok4_c4 {d p q w : Nat → Int} {k : Nat} (hk : k < 3) (bd4 : bd d 100) (bp : bd p 2000) (bq : bd q 2000) (bw : bd w 2000) : ok4 (c4 d p q w k) := ⟨nb_bd bd4 hk, nb_bd bw hk, nb_bd bp hk, nb_bd bq hk⟩
theorem z01 {s : ofS} (h : okS s) : narrow .boolean (.int (Int32.ofInt s.1)) = .int (Int32.ofInt s.1) := by
  rcases h.2 with e | e
  · rw [e]; rfl
  · rw [e.1]; rfl
section C39
variable {g : xG} {Q : xP} {n : Nat} {f : xH}
set_option maxHeartbeats 4000000 in
theorem ct_oneLine {k : Nat} {s : ofS} {d p q w : Nat → Int} (h3 : f 3 = some (oSs (k : Int) s)) (h4 : f 4 = some (aL 3 d)) (h5 : f 5 = some (aL 3 p)) (h6 : f 6 = some (aL 3 q)) (h7 : f 7 = some (aL 3 w)) (hs : sok f) (hk : k < 3) (hh : inL s.2.2.2.1) (bd4 : bd d 100) (bp : bd p 2000) (bq : bd q 2000) (bw : bd w 2000)
    (h0 : ¬ lineM d p q w → ∀ f1, scr f f1 → Q (.inl (some (vI 0))) n f1) (h1 : lineM d p q w → ∀ f1, scr (xup f 3 (oSs (k : Int) (ofL d p q w k s))) f1 → Q (.inl (some (vI (ofL d p q w k s).1))) n f1) : xct g M_X6_seesInOneLine 0 0 [vR 3] n f Q := by
  refine xct_of rfl rfl (Nat.le_of_ble_eq_true rfl) ?_
  obtain ⟨v8, h8⟩ := hs 8 (by decide) (by decide)
  obtain ⟨v9, h9⟩ := hs 9 (by decide) (by decide)
  obtain ⟨v10, h10⟩ := hs 10 (by decide) (by decide)
  have b1 : bd (cr p d) 400000 := bd_cr bp bd4 (by decide)
  have b2 : bd (cr q d) 400000 := bd_cr bq bd4 (by decide)
  have b3 : bd (cr w d) 400000 := bd_cr bw bd4 (by decide)
  have hc := ok4_c4 hk bd4 bp bq bw
  obtain ⟨F, hF⟩ : ∃ F, F = xup (xup (xup f 8 (aL 3 (cr p d))) 9 (aL 3 (cr q d))) 10 (aL 3 (cr w d)) := ⟨_, rfl⟩
  have hS : scr f F := by rw [hF]; exact scr_up (scr_up (scr_up (scr_rf hs) (by decide) (by decide)) (by decide) (by decide)) (by decide) (by decide)
  have h3F : F 3 = some (oSs (k : Int) s) := by rw [hF]; exact h3
  have h4F : F 4 = some (aL 3 d) := by rw [hF]; exact h4
  have h5F : F 5 = some (aL 3 p) := by rw [hF]; exact h5
  have h6F : F 6 = some (aL 3 q) := by rw [hF]; exact h6
  have h7F : F 7 = some (aL 3 w) := by rw [hF]; exact h7
  have h8F : F 8 = some (aL 3 (cr p d)) := by rw [hF]; rfl
  have h9F : F 9 = some (aL 3 (cr q d)) := by rw [hF]; rfl
  have hAF : F 10 = some (aL 3 (cr w d)) := by rw [hF]; rfl
  have E : ∀ s1 : ofS, okS s1 → Q (.inl (some (vI s1.1))) n (xup F 3 (oSs (k : Int) s1)) → xw g M_X6_seesInOneLine Q 0 0 93 [(0, vR 3), (3, vI 2)] [] n (xup F 3 (oSs (k : Int) s1)) := by
    intro s1 ho hq
    refine xw_iload_n dX6_seesInOneLine_93 rfl ?_
    refine xw_iconst dX6_seesInOneLine_94 ?_
    refine xw_icmpgt (tgt := 153) dX6_seesInOneLine_95 (by decide) (by unfold inI; omega) (by unfold inI; omega) (fun c_95 => ?_) (fun c_95 => ?_)
    · skip
      refine xw_aload_n dX6_seesInOneLine_153 rfl ?_
      refine xw_getfield dX6_seesInOneLine_154 fl_X6_115 (xup_s _ _ _) rfl ?_
      exact xw_zret dX6_seesInOneLine_157 rfl (z01 ho) hq
    · skip
      exfalso; omega
  have S : ∀ (a : Nat) (e : Int) (s1 : ofS), a < 3 → (e = 0 ∨ e = 1) → okS s1 → xw g M_X6_seesInOneLine Q 0 0 93 [(0, vR 3), (2, vI (a : Int)), (3, vI (e + 1))] [] n (xup F 3 (oSs (k : Int) (ofL2 (c4 d p q w k) (cr p d a) (cr q d a) (cr w d a) e s1))) → xw g M_X6_seesInOneLine Q 0 0 93 [(0, vR 3), (2, vI (a : Int)), (3, vI e)] [] n (xup F 3 (oSs (k : Int) s1)) := by
    intro a e s1 ha3 he ho K
    have ho1 := okS_E (ofP := 1) hc ho he (nb_bd b1 ha3) (nb_bd b2 ha3) (nb_neg (nb_bd b3 ha3))
    refine xw_iload_n dX6_seesInOneLine_93 rfl ?_
    refine xw_iconst dX6_seesInOneLine_94 ?_
    refine xw_icmpgt (tgt := 153) dX6_seesInOneLine_95 (by decide) (by unfold inI; omega) (by unfold inI; omega) (fun c_95 => ?_) (fun c_95 => ?_)
    · skip
      exfalso; omega
    · skip
      refine xw_aload_n dX6_seesInOneLine_98 rfl ?_
      refine xw_iconst dX6_seesInOneLine_99 ?_
      refine xw_iload_n dX6_seesInOneLine_100 rfl ?_
      refine xw_aload_n dX6_seesInOneLine_101 rfl ?_
      refine xw_getfield dX6_seesInOneLine_102 fl_X6_24 (xup_s _ _ _) rfl ?_
      refine xw_iload_n dX6_seesInOneLine_105 rfl ?_
      refine xw_lald dX6_seesInOneLine_106 h8F (j := a) rfl ha3 (by decide) ?_
      refine xw_aload_n dX6_seesInOneLine_107 rfl ?_
      refine xw_getfield dX6_seesInOneLine_108 fl_X6_27 (xup_s _ _ _) rfl ?_
      refine xw_iload_n dX6_seesInOneLine_111 rfl ?_
      refine xw_lald dX6_seesInOneLine_112 h9F (j := a) rfl ha3 (by decide) ?_
      refine xw_aload_n dX6_seesInOneLine_113 rfl ?_
      refine xw_getfield dX6_seesInOneLine_114 fl_X6_30 (xup_s _ _ _) rfl ?_
      refine xw_iload_n dX6_seesInOneLine_117 rfl ?_
      refine xw_lald dX6_seesInOneLine_118 hAF (j := a) rfl ha3 (by decide) ?_
      refine xw_lneg dX6_seesInOneLine_119 ?_
      refine xw_callV (rc := 0) (rs := 0) (mc2 := 0) (ms2 := 0) (a := 3) (As := [vI 1, vI e, vL (cr p d a), vL (cr q d a), vL (-(cr w d a))]) (st := []) dX6_seesInOneLine_120 mv_X6_119 (xup_s F 3 (oSs (k : Int) s1)) rfl rfl (by decide) (by decide) (Nat.le_of_ble_eq_true rfl) rfl (ct_offerEnd (f := xup F 3 (oSs (k : Int) s1)) (s := s1) (xup_s F 3 (oSs (k : Int) s1)) h4F h5F h6F h7F hk ho (Or.inr rfl) he bd4 bp bq bw (nb_bd b1 ha3) (nb_bd b2 ha3) (nb_neg (nb_bd b3 ha3)) ?_)
      rw [xup_up]
      refine xw_aload_n dX6_seesInOneLine_123 rfl ?_
      refine xw_iconst dX6_seesInOneLine_124 ?_
      refine xw_iload_n dX6_seesInOneLine_125 rfl ?_
      refine xw_aload_n dX6_seesInOneLine_126 rfl ?_
      refine xw_getfield dX6_seesInOneLine_127 fl_X6_27 (xup_s _ _ _) rfl ?_
      refine xw_iload_n dX6_seesInOneLine_130 rfl ?_
      refine xw_lald dX6_seesInOneLine_131 h9F (j := a) rfl ha3 (by decide) ?_
      refine xw_aload_n dX6_seesInOneLine_132 rfl ?_
      refine xw_getfield dX6_seesInOneLine_133 fl_X6_24 (xup_s _ _ _) rfl ?_
      refine xw_iload_n dX6_seesInOneLine_136 rfl ?_
      refine xw_lald dX6_seesInOneLine_137 h8F (j := a) rfl ha3 (by decide) ?_
      refine xw_aload_n dX6_seesInOneLine_138 rfl ?_
      refine xw_getfield dX6_seesInOneLine_139 fl_X6_30 (xup_s _ _ _) rfl ?_
      refine xw_iload_n dX6_seesInOneLine_142 rfl ?_
      refine xw_lald dX6_seesInOneLine_143 hAF (j := a) rfl ha3 (by decide) ?_
      refine xw_callV (rc := 0) (rs := 0) (mc2 := 0) (ms2 := 0) (a := 3) (As := [vI 0, vI e, vL (cr q d a), vL (cr p d a), vL (cr w d a)]) (st := []) dX6_seesInOneLine_144 mv_X6_119 (xup_s F 3 (oSs (k : Int) (ofE (c4 d p q w k) 1 e (cr p d a) (cr q d a) (-(cr w d a)) s1))) rfl rfl (by decide) (by decide) (Nat.le_of_ble_eq_true rfl) rfl (ct_offerEnd (f := xup F 3 (oSs (k : Int) (ofE (c4 d p q w k) 1 e (cr p d a) (cr q d a) (-(cr w d a)) s1))) (s := (ofE (c4 d p q w k) 1 e (cr p d a) (cr q d a) (-(cr w d a)) s1)) (xup_s F 3 (oSs (k : Int) (ofE (c4 d p q w k) 1 e (cr p d a) (cr q d a) (-(cr w d a)) s1))) h4F h5F h6F h7F hk ho1 (Or.inl rfl) he bd4 bp bq bw (nb_bd b2 ha3) (nb_bd b1 ha3) (nb_bd b3 ha3) ?_)
      rw [xup_up]
      refine xw_iinc dX6_seesInOneLine_147 rfl (by decide) ?_
      refine xw_goto (tgt := 93) dX6_seesInOneLine_150 (by decide) ?_
      exact xw_ls [(0, vR 3), (2, vI (a : Int)), (3, vI (e + 1))] ⟨rfl, rfl, rfl, trivial⟩ K
  have T : ∀ (l : Nat) (vl : Nat → Int), F l = some (aL 3 vl) → l ≠ 3 → bd vl 400000 → vl = lnv d p q → xw g M_X6_seesInOneLine Q 0 0 66 [(0, vR 3)] [vR l] n F := by
    intro l vl hl hl3 bl e
    have ha3 : wide vl < 3 := wide_lt vl
    refine xw_astore_n dX6_seesInOneLine_66 (by decide) ?_
    refine xw_aload_n dX6_seesInOneLine_67 rfl ?_
    refine xw_callS (rc := 0) (rs := 0) (mc2 := 0) (ms2 := 0) (As := [vR l]) (st := []) dX6_seesInOneLine_68 ms_X6_40 rfl (by decide) (by decide) (Nat.le_of_ble_eq_true rfl) rfl (ct_widest hl (bd_3s bl (by decide)) ?_)
    refine xw_istore_n dX6_seesInOneLine_71 (by decide) ?_
    refine xw_aload_n dX6_seesInOneLine_72 rfl ?_
    refine xw_getfield dX6_seesInOneLine_73 fl_X6_30 h3F rfl ?_
    refine xw_aload_n dX6_seesInOneLine_76 rfl ?_
    refine xw_iload_n dX6_seesInOneLine_77 rfl ?_
    refine xw_callS (rc := 0) (rs := 0) (mc2 := 0) (ms2 := 0) (As := [vR 10, vR l, vI (wide vl : Int)]) (st := []) dX6_seesInOneLine_78 ms_X6_111 rfl (by decide) (by decide) (Nat.le_of_ble_eq_true rfl) rfl (ct_isMul hAF hl ha3 b3 bl (fun h_78 => ?_) (fun h_78 => ?_))
    · skip
      refine xw_ifne (tgt := 86) dX6_seesInOneLine_81 (by decide) (by unfold inI; omega) (fun _ => ?_) (fun c => absurd c (by decide))
      refine xw_aload_n dX6_seesInOneLine_86 rfl ?_
      refine xw_iconst dX6_seesInOneLine_87 ?_
      refine xw_putfield dX6_seesInOneLine_88 (fp_X6_115 _) h3F rfl rfl ?_
      rw [fX6_9]
      refine xw_iconst dX6_seesInOneLine_91 ?_
      refine xw_istore_n dX6_seesInOneLine_92 (by decide) ?_
      have hq1 := okS_La hc hh (nb_bd b1 ha3) (nb_bd b2 ha3) (nb_bd b3 ha3)
      refine xw_ls [(0, vR 3), (2, vI (wide vl : Int)), (3, vI 0)] ⟨rfl, rfl, rfl, trivial⟩ (S (wide vl) 0 (0, s.2) ha3 (Or.inl rfl) ⟨hh, Or.inl rfl⟩ (S (wide vl) 1 _ ha3 (Or.inr rfl) (okS_L2 hc ⟨hh, Or.inl rfl⟩ (Or.inl rfl) (nb_bd b1 ha3) (nb_bd b2 ha3) (nb_bd b3 ha3)) (xw_ls [(0, vR 3), (3, vI 2)] ⟨rfl, rfl, trivial⟩ (E _ hq1 ?_))))
      subst e
      exact h1 h_78 _ (scr_3 hS)
    · skip
      refine xw_ifne (tgt := 86) dX6_seesInOneLine_81 (by decide) (by unfold inI; omega) (fun c => absurd c (by decide)) (fun _ => ?_)
      refine xw_iconst dX6_seesInOneLine_84 ?_
      exact xw_zret dX6_seesInOneLine_85 rfl rfl (h0 (fun h => h_78 (by rw [e]; exact h)) F hS)
  refine xw_aload_n dX6_seesInOneLine_0 rfl ?_
  refine xw_getfield dX6_seesInOneLine_1 fl_X6_15 h3 rfl ?_
  refine xw_aload_n dX6_seesInOneLine_4 rfl ?_
  refine xw_getfield dX6_seesInOneLine_5 fl_X6_9 h3 rfl ?_
  refine xw_aload_n dX6_seesInOneLine_8 rfl ?_
  refine xw_getfield dX6_seesInOneLine_9 fl_X6_24 h3 rfl ?_
  refine xw_callS (rc := 0) (rs := 0) (mc2 := 0) (ms2 := 0) (As := [vR 5, vR 4, vR 8]) (st := []) dX6_seesInOneLine_12 ms_X6_61 rfl (by decide) (by decide) (Nat.le_of_ble_eq_true rfl) rfl (ct_cross h5 h4 h8 (by decide) (by decide) ?_)
  refine xw_aload_n dX6_seesInOneLine_15 rfl ?_
  refine xw_getfield dX6_seesInOneLine_16 fl_X6_18 h3 rfl ?_
  refine xw_aload_n dX6_seesInOneLine_19 rfl ?_
  refine xw_getfield dX6_seesInOneLine_20 fl_X6_9 h3 rfl ?_
  refine xw_aload_n dX6_seesInOneLine_23 rfl ?_
  refine xw_getfield dX6_seesInOneLine_24 fl_X6_27 h3 rfl ?_
  refine xw_callS (rc := 0) (rs := 0) (mc2 := 0) (ms2 := 0) (As := [vR 6, vR 4, vR 9]) (st := []) dX6_seesInOneLine_27 ms_X6_61 rfl (by decide) (by decide) (Nat.le_of_ble_eq_true rfl) rfl (ct_cross (va := q) (vb := d) h6 h4 h9 (by decide) (by decide) ?_)
  refine xw_aload_n dX6_seesInOneLine_30 rfl ?_
  refine xw_getfield dX6_seesInOneLine_31 fl_X6_21 h3 rfl ?_
  refine xw_aload_n dX6_seesInOneLine_34 rfl ?_
  refine xw_getfield dX6_seesInOneLine_35 fl_X6_9 h3 rfl ?_
  refine xw_aload_n dX6_seesInOneLine_38 rfl ?_
  refine xw_getfield dX6_seesInOneLine_39 fl_X6_30 h3 rfl ?_
  refine xw_callS (rc := 0) (rs := 0) (mc2 := 0) (ms2 := 0) (As := [vR 7, vR 4, vR 10]) (st := []) dX6_seesInOneLine_42 ms_X6_61 rfl (by decide) (by decide) (Nat.le_of_ble_eq_true rfl) rfl (ct_cross (va := w) (vb := d) h7 h4 h10 (by decide) (by decide) ?_)
  rw [← hF]
  refine xw_aload_n dX6_seesInOneLine_45 rfl ?_
  refine xw_getfield dX6_seesInOneLine_46 fl_X6_24 h3F rfl ?_
  refine xw_callS (rc := 0) (rs := 0) (mc2 := 0) (ms2 := 0) (As := [vR 8]) (st := []) dX6_seesInOneLine_49 ms_X6_65 rfl (by decide) (by decide) (Nat.le_of_ble_eq_true rfl) rfl (ct_isZero h8F (bd_3 b1 (by decide)) (fun h_49 => ?_) (fun h_49 => ?_))
  · skip
    refine xw_ifeq (tgt := 62) dX6_seesInOneLine_52 (by decide) (by unfold inI; omega) (fun c => absurd c (by decide)) (fun _ => ?_)
    refine xw_aload_n dX6_seesInOneLine_55 rfl ?_
    refine xw_getfield dX6_seesInOneLine_56 fl_X6_27 h3F rfl ?_
    refine xw_goto (tgt := 66) dX6_seesInOneLine_59 (by decide) ?_
    first
      | exact T 9 (cr q d) h9F (by decide) b2 (by unfold lnv; rw [if_pos h_49])
      | exact T 8 (cr p d) h8F (by decide) b1 (by unfold lnv; rw [if_neg h_49])
  · skip
    refine xw_ifeq (tgt := 62) dX6_seesInOneLine_52 (by decide) (by unfold inI; omega) (fun _ => ?_) (fun c => absurd c (by decide))
    refine xw_aload_n dX6_seesInOneLine_62 rfl ?_
    refine xw_getfield dX6_seesInOneLine_63 fl_X6_24 h3F rfl ?_
    first
      | exact T 9 (cr q d) h9F (by decide) b2 (by unfold lnv; rw [if_pos h_49])
      | exact T 8 (cr p d) h8F (by decide) b1 (by unfold lnv; rw [if_neg h_49])
end C39
