/-! pieces that are seen in one line -/
abbrev v4 : Type := Int × (Int × (Int × Int))
def ofP4 (c : v4) (ofP own other whole : Int) (s : ofS) : ofS := ofr c.1 c.2.1 c.2.2.1 c.2.2.2 (if ofP = 0 then other else own) (if ofP = 0 then own else other) whole s
def ofE (c : v4) (ofP e own other shift : Int) (s : ofS) : ofS :=
  if other = 0 then (if e * own + shift = 0 then ofP4 c ofP e 1 1 (ofP4 c ofP e 0 1 s) else s)
  else if 0 ≤ sgn other * (e * own + shift) ∧ sgn other * (e * own + shift) ≤ sgn other * other then ofP4 c ofP (e * (sgn other * other)) (sgn other * (e * own + shift)) (sgn other * other) s else s
def isMul (a b : Nat → Int) (k : Nat) : Prop := (b k = 0 ∧ z3 a) ∨ (b k ≠ 0 ∧ ∀ j, j < 3 → a j * b k = a k * b j)
def ok4 (c : v4) : Prop := nb c.1 100 ∧ nb c.2.1 2000 ∧ nb c.2.2.1 2000 ∧ nb c.2.2.2 2000
theorem okS_P4 {c : v4} {ofP own other whole : Int} {s : ofS} (hc : ok4 c) (h : okS s) (h1 : nb own 400000) (h2 : nb other 400000) (h3 : nb whole 400000) : okS (ofP4 c ofP own other whole s) := by
  unfold ofP4
  exact okS_ofr h hc.1 hc.2.1 hc.2.2.1 hc.2.2.2 (by split <;> assumption) (by split <;> assumption) h3
theorem nb_prt {a b : Int} {A : Nat} (h : 0 ≤ a ∧ a ≤ b) (hb : nb b A) : nb a A := by unfold nb at *; omega
theorem nb_01 {e : Int} {z : Int} {A : Nat} (he : e = 0 ∨ e = 1) (h : nb z A) : nb (e * z) A := by
  rcases he with rfl | rfl
  · unfold nb; simp
  · rw [Int.one_mul]; exact h
theorem nb_c (z : Int) {A : Nat} (h : z.natAbs ≤ A) : nb z A := h
theorem nb_sg {z : Int} {A : Nat} (h : nb z A) (w : Int) : nb (sgn w * z) A := nb_le (nb_mul (sgn_n w) h) (by omega)
theorem okS_E {c : v4} {ofP e own other shift : Int} {s : ofS} (hc : ok4 c) (h : okS s) (he : e = 0 ∨ e = 1) (h1 : nb own 400000) (h2 : nb other 400000) (h3 : nb shift 400000) : okS (ofE c ofP e own other shift s) := by
  have en : nb e 400000 := by rcases he with rfl | rfl <;> exact nb_c _ (by decide)
  unfold ofE
  split
  · split
    · exact okS_P4 hc (okS_P4 hc h en (nb_c _ (by decide)) (nb_c _ (by decide))) en (nb_c _ (by decide)) (nb_c _ (by decide))
    · exact h
  · split
    · next hp => exact okS_P4 hc h (nb_01 he (nb_sg h2 other)) (nb_prt hp (nb_sg h2 other)) (nb_sg h2 other)
    · exact h
section C38
variable {g : xG} {Q : xP} {n : Nat} {f : xH}
set_option maxHeartbeats 4000000 in
theorem ct_isMul {a b k : Nat} {va vb : Nat → Int} (ha : f a = some (aL 3 va)) (hb : f b = some (aL 3 vb)) (hk : k < 3) (ba : bd va 400000) (bb : bd vb 400000) (h1 : isMul va vb k → Q (.inl (some (vI 1))) n f) (h0 : ¬ isMul va vb k → Q (.inl (some (vI 0))) n f) : xct g M_X6_isMultiple 0 0 [vR a, vR b, vI (k : Int)] n f Q := by
  refine xct_of rfl rfl (Nat.le_of_ble_eq_true rfl) ?_
  have L : vb k ≠ 0 → ∀ (m i : Nat), i + m = 3 → (∀ j, j < i → va j * vb k = va k * vb j) → xw g M_X6_isMultiple Q 0 0 15 [(0, vR a), (1, vR b), (2, vI (k : Int)), (3, vI (i : Int))] [] n f := by
    intro hne m
    induction m with
    | zero =>
      intro i hi hall
      have hq := h1 (Or.inr ⟨hne, fun j hj => hall j (by omega)⟩)
      refine xw_iload_n dX6_isMultiple_15 rfl ?_
      refine xw_iconst dX6_isMultiple_16 ?_
      refine xw_icmpge (tgt := 46) dX6_isMultiple_17 (by decide) (by unfold inI; omega) (by unfold inI; omega) (fun c_17 => ?_) (fun c_17 => ?_)
      · skip
        refine xw_iconst dX6_isMultiple_46 ?_
        exact xw_zret dX6_isMultiple_47 rfl rfl hq
      · skip
        exfalso; omega
    | succ m ih =>
      intro i hi hall
      have hi3 : i < 3 := by omega
      refine xw_iload_n dX6_isMultiple_15 rfl ?_
      refine xw_iconst dX6_isMultiple_16 ?_
      refine xw_icmpge (tgt := 46) dX6_isMultiple_17 (by decide) (by unfold inI; omega) (by unfold inI; omega) (fun c_17 => ?_) (fun c_17 => ?_)
      · skip
        exfalso; omega
      · skip
        refine xw_aload_n dX6_isMultiple_20 rfl ?_
        refine xw_iload_n dX6_isMultiple_21 rfl ?_
        refine xw_lald dX6_isMultiple_22 ha rfl (by omega) (by decide) ?_
        refine xw_aload_n dX6_isMultiple_23 rfl ?_
        refine xw_iload_n dX6_isMultiple_24 rfl ?_
        refine xw_lald dX6_isMultiple_25 hb (j := k) rfl hk (by decide) ?_
        refine xw_lmul dX6_isMultiple_26 ?_
        refine xw_aload_n dX6_isMultiple_27 rfl ?_
        refine xw_iload_n dX6_isMultiple_28 rfl ?_
        refine xw_lald dX6_isMultiple_29 ha (j := k) rfl hk (by decide) ?_
        refine xw_aload_n dX6_isMultiple_30 rfl ?_
        refine xw_iload_n dX6_isMultiple_31 rfl ?_
        refine xw_lald dX6_isMultiple_32 hb rfl (by omega) (by decide) ?_
        refine xw_lmul dX6_isMultiple_33 ?_
        refine xw_lcmpeq (tgt := 40) dX6_isMultiple_34 dX6_isMultiple_35 (by decide) (nb_L (nb_mul (nb_bd ba hi3) (nb_bd bb hk)) (by decide)) (nb_L (nb_mul (nb_bd ba hk) (nb_bd bb hi3)) (by decide)) (fun c_34 => ?_) (fun c_34 => ?_)
        · skip
          refine xw_iinc dX6_isMultiple_40 rfl (by decide) ?_
          refine xw_goto (tgt := 15) dX6_isMultiple_43 (by decide) ?_
          exact xw_ls [(0, vR a), (1, vR b), (2, vI (k : Int)), (3, vI ((i + 1 : Nat) : Int))] ⟨rfl, rfl, rfl, rfl, trivial⟩ (ih (i + 1) (by omega) (fun j hj => (Nat.lt_or_ge j i).elim (fun q => hall j q) (fun q => by have e9 : j = i := (by omega); rw [e9]; exact c_34)))
        · skip
          refine xw_iconst dX6_isMultiple_38 ?_
          exact xw_zret dX6_isMultiple_39 rfl rfl (h0 (fun h => h.elim (fun q => hne q.1) (fun q => c_34 (q.2 i hi3))))
  refine xw_aload_n dX6_isMultiple_0 rfl ?_
  refine xw_iload_n dX6_isMultiple_1 rfl ?_
  refine xw_lald dX6_isMultiple_2 hb (j := k) rfl hk (by decide) ?_
  refine xw_lconst (z := 0) dX6_isMultiple_3 (by decide) ?_
  refine xw_lcmpne (tgt := 13) dX6_isMultiple_4 dX6_isMultiple_5 (by decide) (nb_L (nb_bd bb hk) (by decide)) (by unfold inL; omega) (fun c_4 => ?_) (fun c_4 => ?_)
  · skip
    refine xw_iconst dX6_isMultiple_13 ?_
    refine xw_istore_n dX6_isMultiple_14 (by decide) ?_
    exact xw_ls [(0, vR a), (1, vR b), (2, vI (k : Int)), (3, vI ((0 : Nat) : Int))] ⟨rfl, rfl, rfl, rfl, trivial⟩ (L c_4 3 0 rfl (fun j hj => by omega))
  · skip
    refine xw_aload_n dX6_isMultiple_8 rfl ?_
    refine xw_callS (rc := 0) (rs := 0) (mc2 := 0) (ms2 := 0) (As := [vR a]) (st := []) dX6_isMultiple_9 ms_X6_65 rfl (by decide) (by decide) (Nat.le_of_ble_eq_true rfl) rfl (ct_isZero ha (bd_3 ba (by decide)) (fun h_9 => ?_) (fun h_9 => ?_))
    · skip
      exact xw_zret dX6_isMultiple_12 rfl rfl (by first | exact h1 (Or.inl ⟨c_4, h_9⟩) | exact h0 (fun h => h.elim (fun q => h_9 q.2) (fun q => q.1 c_4)))
    · skip
      exact xw_zret dX6_isMultiple_12 rfl rfl (by first | exact h1 (Or.inl ⟨c_4, h_9⟩) | exact h0 (fun h => h.elim (fun q => h_9 q.2) (fun q => q.1 c_4)))
abbrev c4 (d p q w : Nat → Int) (k : Nat) : v4 := (d k, (w k, (p k, q k)))
theorem ct_offer4 {k : Nat} {ofP own other whole : Int} (s : ofS) {d p q w : Nat → Int} (h3 : f 3 = some (oSs (k : Int) s)) (h4 : f 4 = some (aL 3 d)) (h5 : f 5 = some (aL 3 p)) (h6 : f 6 = some (aL 3 q)) (h7 : f 7 = some (aL 3 w)) (hk : k < 3) (hs : okS s) (hof : ofP = 0 ∨ ofP = 1) (bd4 : bd d 100) (bp : bd p 2000) (bq : bd q 2000) (bw : bd w 2000) (l1 : nb own 400000) (l2 : nb other 400000) (l3 : nb whole 400000)
    (hq : Q (.inl none) n (xup f 3 (oSs (k : Int) (ofP4 (c4 d p q w k) ofP own other whole s)))) : xct g M_X6_offer 0 0 [vR 3, vI ofP, vL own, vL other, vL whole] n f Q := ct_offer h3 h4 h5 h6 h7 hk hs hof bd4 bp bq bw l1 l2 l3 hq
set_option maxHeartbeats 4000000 in
theorem ct_offerEnd {k : Nat} {ofP e own other shift : Int} {s : ofS} {d p q w : Nat → Int} (h3 : f 3 = some (oSs (k : Int) s)) (h4 : f 4 = some (aL 3 d)) (h5 : f 5 = some (aL 3 p)) (h6 : f 6 = some (aL 3 q)) (h7 : f 7 = some (aL 3 w)) (hk : k < 3) (hs : okS s) (hof : ofP = 0 ∨ ofP = 1) (he : e = 0 ∨ e = 1) (bd4 : bd d 100) (bp : bd p 2000) (bq : bd q 2000) (bw : bd w 2000) (l1 : nb own 400000) (l2 : nb other 400000) (l3 : nb shift 400000)
    (hq : Q (.inl none) n (xup f 3 (oSs (k : Int) (ofE (c4 d p q w k) ofP e own other shift s)))) : xct g M_X6_offerEnd 0 0 [vR 3, vI ofP, vI e, vL own, vL other, vL shift] n f Q := by
  refine xct_of rfl rfl (Nat.le_of_ble_eq_true rfl) ?_
  have hc4 : ok4 (c4 d p q w k) := ⟨nb_bd bd4 hk, nb_bd bw hk, nb_bd bp hk, nb_bd bq hk⟩
  have en : nb e 400000 := by rcases he with rfl | rfl <;> exact nb_c _ (by decide)
  have hsame : xup f 3 (oSs (k : Int) s) = f := xup_id h3
  have k1 : inL own := nb_L l1 (by decide)
  have k2 : inL other := nb_L l2 (by decide)
  have k3 : inL (e * own + shift) := nb_L (nb_add (nb_01 he l1) l3) (by decide)
  have k4 : inL (sgn other * (e * own + shift)) := nb_L (nb_sg (nb_add (nb_01 he l1) l3) other) (by decide)
  have k5 : inL (sgn other * other) := nb_L (nb_sg l2 other) (by decide)
  unfold ofE at hq
  have T : ∀ z : Int, other ≠ 0 → z = sgn other → xw g M_X6_offerEnd Q 0 0 63 [(0, vR 3), (1, vI ofP), (2, vI e), (5, vL other), (9, vL (e * own + shift))] [vL z] n f := by
    intro z hne hz
    subst hz
    rw [if_neg hne] at hq
    refine xw_lstore dX6_offerEnd_63 (by decide) ?_
    refine xw_lload dX6_offerEnd_65 rfl ?_
    refine xw_lload dX6_offerEnd_67 rfl ?_
    refine xw_lmul dX6_offerEnd_69 ?_
    refine xw_lstore dX6_offerEnd_70 (by decide) ?_
    refine xw_lload dX6_offerEnd_72 rfl ?_
    refine xw_lload dX6_offerEnd_74 rfl ?_
    refine xw_lmul dX6_offerEnd_76 ?_
    refine xw_lload dX6_offerEnd_77 rfl ?_
    refine xw_callS (rc := 0) (rs := 0) (mc2 := 0) (ms2 := 0) (As := [vL (sgn other * (e * own + shift)), vL (sgn other * other)]) (st := []) dX6_offerEnd_79 ms_X6_76 rfl (by decide) (by decide) (Nat.le_of_ble_eq_true rfl) rfl (ct_isPart k4 k5 (fun h_79 => ?_) (fun h_79 => ?_))
    · skip
      refine xw_ifeq (tgt := 102) dX6_offerEnd_82 (by decide) (by unfold inI; omega) (fun c => absurd c (by decide)) (fun _ => ?_)
      refine xw_aload_n dX6_offerEnd_85 rfl ?_
      refine xw_iload_n dX6_offerEnd_86 rfl ?_
      refine xw_iload_n dX6_offerEnd_87 rfl ?_
      refine xw_i2l dX6_offerEnd_88 (by unfold inI; omega) ?_
      refine xw_lload dX6_offerEnd_89 rfl ?_
      refine xw_lmul dX6_offerEnd_91 ?_
      refine xw_lload dX6_offerEnd_92 rfl ?_
      refine xw_lload dX6_offerEnd_94 rfl ?_
      refine xw_lmul dX6_offerEnd_96 ?_
      refine xw_lload dX6_offerEnd_97 rfl ?_
      refine xw_callV (rc := 0) (rs := 0) (mc2 := 0) (ms2 := 0) (a := 3) (As := [vI ofP, vL (e * (sgn other * other)), vL (sgn other * (e * own + shift)), vL (sgn other * other)]) (st := []) dX6_offerEnd_99 mv_X6_123 h3 rfl rfl (by decide) (by decide) (Nat.le_of_ble_eq_true rfl) rfl (ct_offer4 s h3 h4 h5 h6 h7 hk hs hof bd4 bp bq bw (nb_01 he (nb_sg l2 other)) (nb_prt h_79 (nb_sg l2 other)) (nb_sg l2 other) ?_)
      exact xw_vret dX6_offerEnd_102 rfl (by first | (rw [if_pos h_79] at hq; exact hq) | (rw [if_neg h_79, hsame] at hq; exact hq))
    · skip
      refine xw_ifeq (tgt := 102) dX6_offerEnd_82 (by decide) (by unfold inI; omega) (fun _ => ?_) (fun c => absurd c (by decide))
      exact xw_vret dX6_offerEnd_102 rfl (by first | (rw [if_pos h_79] at hq; exact hq) | (rw [if_neg h_79, hsame] at hq; exact hq))
  have T41 : other ≠ 0 → xw g M_X6_offerEnd Q 0 0 41 [(0, vR 3), (1, vI ofP), (2, vI e), (5, vL other), (9, vL (e * own + shift))] [] n f := by
    intro hne
    refine xw_lload dX6_offerEnd_41 rfl ?_
    refine xw_lconst (z := 0) dX6_offerEnd_43 (by decide) ?_
    refine xw_lcmpne (tgt := 49) dX6_offerEnd_44 dX6_offerEnd_45 (by decide) k2 (by unfold inL; omega) (fun c_44 => ?_) (fun c_44 => ?_)
    · skip
      refine xw_lload dX6_offerEnd_49 rfl ?_
      refine xw_lconst (z := 0) dX6_offerEnd_51 (by decide) ?_
      refine xw_lcmpge (tgt := 62) dX6_offerEnd_52 dX6_offerEnd_53 (by decide) k2 (by unfold inL; omega) (fun c_52 => ?_) (fun c_52 => ?_)
      · skip
        refine xw_lconst (z := 1) dX6_offerEnd_62 (by decide) ?_
        exact xw_ls [(0, vR 3), (1, vI ofP), (2, vI e), (5, vL other), (9, vL (e * own + shift))] ⟨rfl, rfl, rfl, rfl, rfl, trivial⟩ (T _ hne (by unfold sgn; first | rw [if_pos (by omega)] | rw [if_neg (by omega)]))
      · skip
        refine xw_ldc2 (z := -1) dX6_offerEnd_56 kl_X6_96 (by decide) ?_
        refine xw_goto (tgt := 63) dX6_offerEnd_59 (by decide) ?_
        exact xw_ls [(0, vR 3), (1, vI ofP), (2, vI e), (5, vL other), (9, vL (e * own + shift))] ⟨rfl, rfl, rfl, rfl, rfl, trivial⟩ (T _ hne (by unfold sgn; first | rw [if_pos (by omega)] | rw [if_neg (by omega)]))
    · skip
      exact absurd c_44 hne
  have R41 : other = 0 → ∀ f' : xH, Q (.inl none) n f' → xw g M_X6_offerEnd Q 0 0 41 [(5, vL other)] [] n f' := by
    intro he0 f' hq'
    refine xw_lload dX6_offerEnd_41 rfl ?_
    refine xw_lconst (z := 0) dX6_offerEnd_43 (by decide) ?_
    refine xw_lcmpne (tgt := 49) dX6_offerEnd_44 dX6_offerEnd_45 (by decide) k2 (by unfold inL; omega) (fun c_44 => ?_) (fun c_44 => ?_)
    · skip
      exact absurd he0 c_44
    · skip
      exact xw_vret dX6_offerEnd_48 rfl hq'
  refine xw_iload_n dX6_offerEnd_0 rfl ?_
  refine xw_i2l dX6_offerEnd_1 (by unfold inI; omega) ?_
  refine xw_lload_n dX6_offerEnd_2 rfl ?_
  refine xw_lmul dX6_offerEnd_3 ?_
  refine xw_lload dX6_offerEnd_4 rfl ?_
  refine xw_ladd dX6_offerEnd_6 ?_
  refine xw_lstore dX6_offerEnd_7 (by decide) ?_
  refine xw_lload dX6_offerEnd_9 rfl ?_
  refine xw_lconst (z := 0) dX6_offerEnd_11 (by decide) ?_
  refine xw_lcmpne (tgt := 41) dX6_offerEnd_12 dX6_offerEnd_13 (by decide) k2 (by unfold inL; omega) (fun c_12 => ?_) (fun c_12 => ?_)
  · skip
    first
      | exact xw_ls [(0, vR 3), (1, vI ofP), (2, vI e), (5, vL other), (9, vL (e * own + shift))] ⟨rfl, rfl, rfl, rfl, rfl, trivial⟩ (T41 c_12)
      | (rw [if_pos c_12, if_neg c_19, hsame] at hq; exact xw_ls [(5, vL other)] ⟨rfl, trivial⟩ (R41 c_12 _ hq))
      | (rw [if_pos c_12, if_pos c_19] at hq; rw [xup_up]; exact xw_ls [(5, vL other)] ⟨rfl, trivial⟩ (R41 c_12 _ hq))
  · skip
    refine xw_lload dX6_offerEnd_16 rfl ?_
    refine xw_lconst (z := 0) dX6_offerEnd_18 (by decide) ?_
    refine xw_lcmpne (tgt := 41) dX6_offerEnd_19 dX6_offerEnd_20 (by decide) k3 (by unfold inL; omega) (fun c_19 => ?_) (fun c_19 => ?_)
    · skip
      first
        | exact xw_ls [(0, vR 3), (1, vI ofP), (2, vI e), (5, vL other), (9, vL (e * own + shift))] ⟨rfl, rfl, rfl, rfl, rfl, trivial⟩ (T41 c_12)
        | (rw [if_pos c_12, if_neg c_19, hsame] at hq; exact xw_ls [(5, vL other)] ⟨rfl, trivial⟩ (R41 c_12 _ hq))
        | (rw [if_pos c_12, if_pos c_19] at hq; rw [xup_up]; exact xw_ls [(5, vL other)] ⟨rfl, trivial⟩ (R41 c_12 _ hq))
    · skip
      refine xw_aload_n dX6_offerEnd_23 rfl ?_
      refine xw_iload_n dX6_offerEnd_24 rfl ?_
      refine xw_iload_n dX6_offerEnd_25 rfl ?_
      refine xw_i2l dX6_offerEnd_26 (by unfold inI; omega) ?_
      refine xw_lconst (z := 0) dX6_offerEnd_27 (by decide) ?_
      refine xw_lconst (z := 1) dX6_offerEnd_28 (by decide) ?_
      refine xw_callV (rc := 0) (rs := 0) (mc2 := 0) (ms2 := 0) (a := 3) (As := [vI ofP, vL e, vL 0, vL 1]) (st := []) dX6_offerEnd_29 mv_X6_123 h3 rfl rfl (by decide) (by decide) (Nat.le_of_ble_eq_true rfl) rfl (ct_offer4 s h3 h4 h5 h6 h7 hk hs hof bd4 bp bq bw en (nb_c _ (by decide)) (nb_c _ (by decide)) ?_)
      refine xw_aload_n dX6_offerEnd_32 rfl ?_
      refine xw_iload_n dX6_offerEnd_33 rfl ?_
      refine xw_iload_n dX6_offerEnd_34 rfl ?_
      refine xw_i2l dX6_offerEnd_35 (by unfold inI; omega) ?_
      refine xw_lconst (z := 1) dX6_offerEnd_36 (by decide) ?_
      refine xw_lconst (z := 1) dX6_offerEnd_37 (by decide) ?_
      refine xw_callV (rc := 0) (rs := 0) (mc2 := 0) (ms2 := 0) (a := 3) (As := [vI ofP, vL e, vL 1, vL 1]) (st := []) dX6_offerEnd_38 mv_X6_123 (xup_s f 3 (oSs (k : Int) (ofP4 (c4 d p q w k) ofP e 0 1 s))) rfl rfl (by decide) (by decide) (Nat.le_of_ble_eq_true rfl) rfl (ct_offer4 (f := xup f 3 (oSs (k : Int) (ofP4 (c4 d p q w k) ofP e 0 1 s))) (ofP4 (c4 d p q w k) ofP e 0 1 s) (xup_s f 3 (oSs (k : Int) (ofP4 (c4 d p q w k) ofP e 0 1 s))) h4 h5 h6 h7 hk (okS_P4 hc4 hs en (nb_c _ (by decide)) (nb_c _ (by decide))) hof bd4 bp bq bw en (nb_c _ (by decide)) (nb_c _ (by decide)) ?_)
      first
        | exact xw_ls [(0, vR 3), (1, vI ofP), (2, vI e), (5, vL other), (9, vL (e * own + shift))] ⟨rfl, rfl, rfl, rfl, rfl, trivial⟩ (T41 c_12)
        | (rw [if_pos c_12, if_neg c_19, hsame] at hq; exact xw_ls [(5, vL other)] ⟨rfl, trivial⟩ (R41 c_12 _ hq))
        | (rw [if_pos c_12, if_pos c_19] at hq; rw [xup_up]; exact xw_ls [(5, vL other)] ⟨rfl, trivial⟩ (R41 c_12 _ hq))
end C38
