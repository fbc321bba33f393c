/-! the model's crossings of a stick -/
def minT (c : xC7) (l : xLs) : xLs := (l.1 + 1, insL l.2 (mip c l.2 l.1) c)
noncomputable def mlQ (d : Nat → Int) (X : xSt) (p o : Nat) (Y : xSt) : Nat → Nat → xLs → xLs
  | 0, _, l => l
  | j + 1, q, l => mlQ d X p o Y j (q + 1) (cite (xB d X p Y q) (minT (crOf (p : Int) (o : Int) (q : Int) (xVl d X p Y q)) l) l)
noncomputable def mlO (d : Nat → Int) (σ : Nat → xSt) (s p : Nat) : Nat → Nat → xLs → xLs
  | 0, _, l => l
  | j + 1, o, l => mlO d σ s p j (o + 1) (if hrS (σ o) = 1 ∧ o ≠ s then mlQ d (σ s) p o (σ o) (pcS (σ o)) 0 l else l)
noncomputable def mlP (d : Nat → Int) (gn : Nat) (σ : Nat → xSt) (s : Nat) : Nat → Nat → xLs → xLs
  | 0, _, l => l
  | j + 1, p, l => mlP d gn σ s j (p + 1) (mlO d σ s p gn 0 l)
noncomputable def mlist (d : Nat → Int) (gn : Nat) (σ : Nat → xSt) (s : Nat) : xLs := mlP d gn σ s (pcS (σ s)) 0 (0, fun _ => c00)
abbrev fcS : List Nat := [38, 48, 49, 50, 51, 56, 57, 58, 59, 60, 61, 62, 63, 64, 65]
def fcF (f F : xH) (m m1 : Nat → Int) : Prop := fr fcS f F ∧ F 38 = some (oMd m1) ∧ (∀ k, k < 25 ∨ (29 < k ∧ k ≠ 40) → m1 k = m k) ∧ mVc F
theorem mE_fc {m m1 : Nat → Int} {f f1 : xH} {gn : Nat} {σ : Nat → xSt} {d : Nat → Int} (h : mE m f gn σ d) (hf : fcF f f1 m m1) : mE m1 f1 gn σ d := by
  obtain ⟨h1, h2, ⟨h3, h4, h5⟩, h6, h7, h8⟩ := h
  obtain ⟨c1, c2, c3, c4⟩ := hf
  exact ⟨c2, (c3 6 (by omega)).trans h2, ⟨(c3 13 (by omega)).trans h3, (c3 14 (by omega)).trans h4, (c3 15 (by omega)).trans h5⟩, mst_fr h6 (fun k a b => c1 k (by simp only [List.mem_cons, List.not_mem_nil, or_false]; omega)), c4, h8⟩
theorem fcF_cr {m m1 m2 : Nat → Int} {f f1 f2 : xH} (h : fcF f f1 m m1) (h2 : crF f1 f2 m1 m2) : fcF f f2 m m2 := ⟨fr_tr h.1 (fr_sub h2.1 (by decide)), h2.2.1, fun k q => (h2.2.2.1 k (by omega)).trans (h.2.2.1 k q), h2.2.2.2⟩
theorem mokL_ins {c : xC7} {l : xLs} (h : okL l) (hc9 : okW c) : okL (minT c l) := by
  intro j hj
  have hj2 : j < l.1 + 1 := hj
  have e := mip_le c l.2 l.1
  show okW (insL l.2 (mip c l.2 l.1) c j)
  unfold insL
  split
  · exact h j (by omega)
  · split
    · exact hc9
    · exact h (j - 1) (by omega)
theorem mVc_fr {f f1 : xH} (h : mVc f) (hf : ∀ k, k ∉ clS → f1 k = f k) : mVc f1 := by
  obtain ⟨U, V, W, D, A, B, C, g48, g49, g50, g51, g56, g57, g58⟩ := h
  exact ⟨U, V, W, D, A, B, C, (hf 48 (by decide)).trans g48, (hf 49 (by decide)).trans g49, (hf 50 (by decide)).trans g50, (hf 51 (by decide)).trans g51, (hf 56 (by decide)).trans g56, (hf 57 (by decide)).trans g57, (hf 58 (by decide)).trans g58⟩
theorem mcl_0 {F : xH} {L L1 : Nat → xC7} (h : mcl F 0 L) : mcl F 0 L1 := by
  obtain ⟨A, B, C, D, E, G, H, h1, h2, h3, h4, h5, h6, h7, h8⟩ := h
  exact ⟨A, B, C, D, E, G, H, h1, h2, h3, h4, h5, h6, h7, fun j hj => absurd hj (Nat.not_lt_zero _)⟩
/-- the loops' hold -/
def fcI (f F : xH) (m m1 : Nat → Int) (l : xLs) : Prop := fcF f F m m1 ∧ mcl F l.1 l.2 ∧ m1 40 = (l.1 : Int) ∧ okL l
section C93
variable {g : xG} {y : xM} {Q : xP} {n : Nat} {f : xH} {gn : Nat} {σ : Nat → xSt} {d m : Nat → Int}
set_option maxHeartbeats 16000000 in
theorem ct_findC {s : Nat} (h : mE m f gn σ d) (hs : s < gn) (h40 : hc σ gn ≤ 40) (hL : ∃ L, mcl f 0 L) (hq : ∀ F m1, fcI f F m m1 (mlist d gn σ s) → (mlist d gn σ s).1 ≤ 160 → Q (.inl none) n F) : xct g M_X10_findCrossings 0 0 [vR 38, vI (s : Int)] n f Q := by
  refine xct_of rfl rfl (Nat.le_of_ble_eq_true rfl) ?_
  have hgn : gn ≤ 100 := h.2.2.2.1.choose_spec.choose_spec.choose_spec.choose_spec.choose_spec.2.2.2.2.2.1
  have ps2 := pcS_2 (σ s)
  have hmo : ∀ o, o ≤ gn → hc σ o ≤ 40 := fun o ho => Nat.le_trans (hc_le ho) h40
  have LQ : ∀ (j q p o : Nat) (l l2 : xLs) (F : xH) (m1 : Nat → Int), q + j = pcS (σ o) → p < pcS (σ s) → o < gn → fcI f F m m1 l → l.1 ≤ 80 * p + 2 * hc σ o + q → mlQ d (σ s) p o (σ o) j q l = l2 → (∀ F2 m2, fcI f F2 m m2 l2 → l2.1 ≤ 80 * p + 2 * hc σ o + 2 → xw g M_X10_findCrossings Q 0 0 18 [(0, vR 38), (1, vI (s : Int)), (2, vI (p : Int)), (3, vI ((o + 1 : Nat) : Int))] [] n F2) → xw g M_X10_findCrossings Q 0 0 43 [(0, vR 38), (1, vI (s : Int)), (2, vI (p : Int)), (3, vI (o : Int)), (4, vI (q : Int))] [] n F := by
    intro j
    induction j with
    | zero =>
      intro q p o l l2 F m1 hj hp ho hI hle h2 K
      have hE := mE_fc h hI.1
      have po := pcS_2 (σ o)
      refine xw_iload dX10_findCrossings_43 rfl ?_
      refine xw_aload_n dX10_findCrossings_45 rfl ?_
      refine xw_iload_n dX10_findCrossings_46 rfl ?_
      refine xw_callV (rc := 0) (rs := 0) (mc2 := 0) (ms2 := 0) (a := 38) (As := [vI (o : Int)]) (st := [vI (q : Int)]) dX10_findCrossings_47 mv_X10_184 hE.1 rfl rfl (by decide) (by decide) (Nat.le_of_ble_eq_true rfl) rfl (ct_pcs hE ho ?_)
      refine xw_icmpge (tgt := 79) dX10_findCrossings_50 (by decide) (by first | assumption | (unfold inI; omega) | (unfold inI at *; omega)) (by first | assumption | (unfold inI; omega) | (unfold inI at *; omega)) (fun c_50 => ?_) (fun c_50 => ?_)
      · skip
        refine xw_iinc dX10_findCrossings_79 rfl (by decide) ?_
        refine xw_goto (tgt := 18) dX10_findCrossings_82 (by decide) ?_
        exact xw_ls [(0, vR 38), (1, vI (s : Int)), (2, vI (p : Int)), (3, vI ((o + 1 : Nat) : Int))] ⟨rfl, rfl, rfl, rfl, trivial⟩ (K F m1 (by rw [← h2]; exact hI) (by rw [← h2]; show l.1 ≤ _; omega))
      · skip
        exfalso; omega
    | succ j ih =>
      intro q p o l l2 F m1 hj hp ho hI hle h2 K
      have hE := mE_fc h hI.1
      have po := pcS_2 (σ o)
      have h39 := hmo o (by omega)
      have N : ∀ (F2 : xH) (m2 : Nat → Int) (l1 : xLs), fcI f F2 m m2 l1 → l1.1 ≤ 80 * p + 2 * hc σ o + (q + 1) → l1 = cite (xB d (σ s) p (σ o) q) (minT (crOf (p : Int) (o : Int) (q : Int) (xVl d (σ s) p (σ o) q)) l) l → xw g M_X10_findCrossings Q 0 0 73 [(0, vR 38), (1, vI (s : Int)), (2, vI (p : Int)), (3, vI (o : Int)), (4, vI (q : Int))] [] n F2 := by
        intro F2 m2 l1 hI1 hle1 e1
        refine xw_iinc dX10_findCrossings_73 rfl (by decide) ?_
        refine xw_goto (tgt := 43) dX10_findCrossings_76 (by decide) ?_
        exact xw_ls [(0, vR 38), (1, vI (s : Int)), (2, vI (p : Int)), (3, vI (o : Int)), (4, vI ((q + 1 : Nat) : Int))] ⟨rfl, rfl, rfl, rfl, rfl, trivial⟩ (ih (q + 1) p o l1 l2 F2 m2 (by omega) hp ho hI1 hle1 (by rw [e1]; exact h2) K)
      refine xw_iload dX10_findCrossings_43 rfl ?_
      refine xw_aload_n dX10_findCrossings_45 rfl ?_
      refine xw_iload_n dX10_findCrossings_46 rfl ?_
      refine xw_callV (rc := 0) (rs := 0) (mc2 := 0) (ms2 := 0) (a := 38) (As := [vI (o : Int)]) (st := [vI (q : Int)]) dX10_findCrossings_47 mv_X10_184 hE.1 rfl rfl (by decide) (by decide) (Nat.le_of_ble_eq_true rfl) rfl (ct_pcs hE ho ?_)
      refine xw_icmpge (tgt := 79) dX10_findCrossings_50 (by decide) (by first | assumption | (unfold inI; omega) | (unfold inI at *; omega)) (by first | assumption | (unfold inI; omega) | (unfold inI at *; omega)) (fun c_50 => ?_) (fun c_50 => ?_)
      · skip
        exfalso; omega
      · skip
        refine xw_aload_n dX10_findCrossings_53 rfl ?_
        refine xw_iload_n dX10_findCrossings_54 rfl ?_
        refine xw_iload_n dX10_findCrossings_55 rfl ?_
        refine xw_iload_n dX10_findCrossings_56 rfl ?_
        refine xw_iload dX10_findCrossings_57 rfl ?_
        refine xw_callV (rc := 0) (rs := 0) (mc2 := 0) (ms2 := 0) (a := 38) (As := [vI (s : Int), vI (p : Int), vI (o : Int), vI (q : Int)]) (st := []) dX10_findCrossings_59 mv_X10_257 hE.1 rfl rfl (by decide) (by decide) (Nat.le_of_ble_eq_true rfl) rfl (ct_crs hE hs ho (by omega) (by omega) (fun F2 m2 c1 c2 c3 => ?_) (fun F2 m2 c1 c2 => ?_))
        · skip
          refine xw_ifeq (tgt := 73) dX10_findCrossings_62 (by decide) (by unfold inI; omega) (fun c => absurd c (by decide)) (fun _ => ?_)
          have okv := xVl_ok hE hs ho (by omega) (by omega) c1
          refine xw_aload_n dX10_findCrossings_65 rfl ?_
          refine xw_iload_n dX10_findCrossings_66 rfl ?_
          refine xw_iload_n dX10_findCrossings_67 rfl ?_
          refine xw_iload dX10_findCrossings_68 rfl ?_
          refine xw_callV (rc := 0) (rs := 0) (mc2 := 0) (ms2 := 0) (a := 38) (As := [vI (p : Int), vI (o : Int), vI (q : Int)]) (st := []) dX10_findCrossings_70 mv_X10_267 c2.2.1 rfl rfl (by decide) (by decide) (Nat.le_of_ble_eq_true rfl) rfl (ct_minsert (L := l.2) c2.2.1 ((c2.2.2.1 40 (by omega)).trans hI.2.2.1) (by omega) (mcl_fr hI.2.1 (fun k a b => c2.1 k (by simp only [List.mem_cons, List.not_mem_nil, or_false]; omega))) (fun j hj => ⟨(hI.2.2.2 j hj).1.1, nb_le (nb_prt (hI.2.2.2 j hj).2.1 (hI.2.2.2 j hj).2.2.1.2) (by decide), (hI.2.2.2 j hj).2.2.1.2⟩) c3 (nb_prt okv.1 okv.2.1.2) okv.2.1.2 (by omega) rfl (by omega) (by omega) (fun F3 q1 q2 q3 => ?_))
          have J1 : fcF f F3 m _ := ⟨fr_tr (fcF_cr hI.1 c2).1 (fr_sub q3 (by decide)), q2, fun k hk => (xui_n _ _ (by omega)).trans ((fcF_cr hI.1 c2).2.2.1 k hk), mVc_fr c2.2.2.2 (fun k hk => q3 k hk)⟩
          have J2 : okW (crOf (p : Int) (o : Int) (q : Int) (xVl d (σ s) p (σ o) q)) := ⟨⟨by unfold inI; show -2147483648 ≤ (p : Int) ∧ (p : Int) ≤ _; omega, by unfold inI; show -2147483648 ≤ (o : Int) ∧ (o : Int) ≤ _; omega, by unfold inI; show -2147483648 ≤ (q : Int) ∧ (q : Int) ≤ _; omega⟩, okv⟩
          have J3 := mokL_ins hI.2.2.2 J2
          have J4 := N F3 _ (minT (crOf (p : Int) (o : Int) (q : Int) (xVl d (σ s) p (σ o) q)) l) ⟨J1, q1, rfl, J3⟩ (by show l.1 + 1 ≤ _; omega) (cite_t c1).symm
          first
            | exact xw_ls [(0, vR 38), (1, vI (s : Int)), (2, vI (p : Int)), (3, vI (o : Int)), (4, vI (q : Int))] ⟨rfl, rfl, rfl, rfl, rfl, trivial⟩ J4
            | exact xw_ls [(0, vR 38), (1, vI (s : Int)), (2, vI (p : Int)), (3, vI (o : Int)), (4, vI (q : Int))] ⟨rfl, rfl, rfl, rfl, rfl, trivial⟩ (N F2 m2 l ⟨fcF_cr hI.1 c2, mcl_fr hI.2.1 (fun k a b => c2.1 k (by simp only [List.mem_cons, List.not_mem_nil, or_false]; omega)), (c2.2.2.1 40 (by omega)).trans hI.2.2.1, hI.2.2.2⟩ (by omega) (cite_f c1).symm)
        · skip
          refine xw_ifeq (tgt := 73) dX10_findCrossings_62 (by decide) (by unfold inI; omega) (fun _ => ?_) (fun c => absurd c (by decide))
          first
            | exact xw_ls [(0, vR 38), (1, vI (s : Int)), (2, vI (p : Int)), (3, vI (o : Int)), (4, vI (q : Int))] ⟨rfl, rfl, rfl, rfl, rfl, trivial⟩ J4
            | exact xw_ls [(0, vR 38), (1, vI (s : Int)), (2, vI (p : Int)), (3, vI (o : Int)), (4, vI (q : Int))] ⟨rfl, rfl, rfl, rfl, rfl, trivial⟩ (N F2 m2 l ⟨fcF_cr hI.1 c2, mcl_fr hI.2.1 (fun k a b => c2.1 k (by simp only [List.mem_cons, List.not_mem_nil, or_false]; omega)), (c2.2.2.1 40 (by omega)).trans hI.2.2.1, hI.2.2.2⟩ (by omega) (cite_f c1).symm)
  have LO : ∀ (j o p : Nat) (l l2 : xLs) (F : xH) (m1 : Nat → Int), o + j = gn → p < pcS (σ s) → fcI f F m m1 l → l.1 ≤ 80 * p + 2 * hc σ o → mlO d σ s p j o l = l2 → (∀ F2 m2, fcI f F2 m m2 l2 → l2.1 ≤ 80 * (p + 1) → xw g M_X10_findCrossings Q 0 0 7 [(0, vR 38), (1, vI (s : Int)), (2, vI ((p + 1 : Nat) : Int))] [] n F2) → xw g M_X10_findCrossings Q 0 0 18 [(0, vR 38), (1, vI (s : Int)), (2, vI (p : Int)), (3, vI (o : Int))] [] n F := by
    intro j
    induction j with
    | zero =>
      intro o p l l2 F m1 hj hp hI hle h2 K
      obtain ⟨h38, m6, _⟩ := mE_fc h hI.1
      have h39 := hmo o (by omega)
      refine xw_iload_n dX10_findCrossings_18 rfl ?_
      refine xw_aload_n dX10_findCrossings_19 rfl ?_
      refine xw_getfield dX10_findCrossings_20 fl_X10_181 h38 rfl ?_
      refine xw_topi (gn : Int) m6 ?_
      refine xw_icmpge (tgt := 85) dX10_findCrossings_23 (by decide) (by first | assumption | (unfold inI; omega) | (unfold inI at *; omega)) (by first | assumption | (unfold inI; omega) | (unfold inI at *; omega)) (fun c_23 => ?_) (fun c_23 => ?_)
      · skip
        refine xw_iinc dX10_findCrossings_85 rfl (by decide) ?_
        refine xw_goto (tgt := 7) dX10_findCrossings_88 (by decide) ?_
        exact xw_ls [(0, vR 38), (1, vI (s : Int)), (2, vI ((p + 1 : Nat) : Int))] ⟨rfl, rfl, rfl, trivial⟩ (K F m1 (by rw [← h2]; exact hI) (by rw [← h2]; show l.1 ≤ _; omega))
      · skip
        exfalso; omega
    | succ j ih =>
      intro o p l l2 F m1 hj hp hI hle h2 K
      obtain ⟨h38, m6, _, ⟨K9, M, W, P, Z, s43, s44, s45, s46, s47, hgn9, hall, hz9⟩, _⟩ := mE_fc h hI.1
      have q9 := hall o (by omega)
      have z9 := hz9 o (by omega)
      have hs1 : hc σ (o + 1) = hc σ o + (if hrS (σ o) = 1 then 1 else 0) := rfl
      have N : ¬ (hrS (σ o) = 1 ∧ o ≠ s) → xw g M_X10_findCrossings Q 0 0 79 [(0, vR 38), (1, vI (s : Int)), (2, vI (p : Int)), (3, vI (o : Int))] [] n F := by
        intro hn
        refine xw_iinc dX10_findCrossings_79 rfl (by decide) ?_
        refine xw_goto (tgt := 18) dX10_findCrossings_82 (by decide) ?_
        exact xw_ls [(0, vR 38), (1, vI (s : Int)), (2, vI (p : Int)), (3, vI ((o + 1 : Nat) : Int))] ⟨rfl, rfl, rfl, rfl, trivial⟩ (ih (o + 1) p l l2 F m1 (by omega) hp hI (by omega) (by rw [← h2, mlO, if_neg hn]) K)
      refine xw_iload_n dX10_findCrossings_18 rfl ?_
      refine xw_aload_n dX10_findCrossings_19 rfl ?_
      refine xw_getfield dX10_findCrossings_20 fl_X10_181 h38 rfl ?_
      refine xw_topi (gn : Int) m6 ?_
      refine xw_icmpge (tgt := 85) dX10_findCrossings_23 (by decide) (by first | assumption | (unfold inI; omega) | (unfold inI at *; omega)) (by first | assumption | (unfold inI; omega) | (unfold inI at *; omega)) (fun c_23 => ?_) (fun c_23 => ?_)
      · skip
        exfalso; omega
      · skip
        refine xw_aload_n dX10_findCrossings_26 rfl ?_
        refine xw_getfield dX10_findCrossings_27 fl_X10_39 h38 rfl ?_
        refine xw_iload_n dX10_findCrossings_30 rfl ?_
        refine xw_zald dX10_findCrossings_31 s47 (j := o) rfl (by omega) (by decide) ?_
        refine xw_ifeq (tgt := 79) dX10_findCrossings_32 (by decide) (by first | assumption | (unfold inI; omega) | (unfold inI at *; omega)) (fun c_32 => ?_) (fun c_32 => ?_)
        · skip
          exact xw_ls [(0, vR 38), (1, vI (s : Int)), (2, vI (p : Int)), (3, vI (o : Int))] ⟨rfl, rfl, rfl, rfl, trivial⟩ (N (fun k => by omega))
        · skip
          refine xw_iload_n dX10_findCrossings_35 rfl ?_
          refine xw_iload_n dX10_findCrossings_36 rfl ?_
          refine xw_icmpeq (tgt := 79) dX10_findCrossings_37 (by decide) (by first | assumption | (unfold inI; omega) | (unfold inI at *; omega)) (by first | assumption | (unfold inI; omega) | (unfold inI at *; omega)) (fun c_37 => ?_) (fun c_37 => ?_)
          · skip
            exact xw_ls [(0, vR 38), (1, vI (s : Int)), (2, vI (p : Int)), (3, vI (o : Int))] ⟨rfl, rfl, rfl, rfl, trivial⟩ (N (fun k => by omega))
          · skip
            refine xw_iconst dX10_findCrossings_40 ?_
            refine xw_istore dX10_findCrossings_41 (by decide) ?_
            exact xw_ls [(0, vR 38), (1, vI (s : Int)), (2, vI (p : Int)), (3, vI (o : Int)), (4, vI ((0 : Nat) : Int))] ⟨rfl, rfl, rfl, rfl, rfl, trivial⟩ (LQ (pcS (σ o)) 0 p o l _ F m1 (by omega) hp (by omega) hI (by omega) rfl (fun F2 m2 hI2 hle2 => ih (o + 1) p _ l2 F2 m2 (by omega) hp hI2 (by rw [hs1, if_pos (by omega)]; omega) (by rw [← h2, mlO, if_pos ⟨by omega, by omega⟩]) K))
  have LP : ∀ (j p : Nat) (l : xLs) (F : xH) (m1 : Nat → Int), p + j = pcS (σ s) → fcI f F m m1 l → l.1 ≤ 80 * p → mlP d gn σ s j p l = mlist d gn σ s → xw g M_X10_findCrossings Q 0 0 7 [(0, vR 38), (1, vI (s : Int)), (2, vI (p : Int))] [] n F := by
    intro j
    induction j with
    | zero =>
      intro p l F m1 hj hI hle h2
      have hE := mE_fc h hI.1
      have e9 : l = mlist d gn σ s := h2
      refine xw_iload_n dX10_findCrossings_7 rfl ?_
      refine xw_aload_n dX10_findCrossings_8 rfl ?_
      refine xw_iload_n dX10_findCrossings_9 rfl ?_
      refine xw_callV (rc := 0) (rs := 0) (mc2 := 0) (ms2 := 0) (a := 38) (As := [vI (s : Int)]) (st := [vI (p : Int)]) dX10_findCrossings_10 mv_X10_184 hE.1 rfl rfl (by decide) (by decide) (Nat.le_of_ble_eq_true rfl) rfl (ct_pcs hE hs ?_)
      refine xw_icmpge (tgt := 91) dX10_findCrossings_13 (by decide) (by first | assumption | (unfold inI; omega) | (unfold inI at *; omega)) (by first | assumption | (unfold inI; omega) | (unfold inI at *; omega)) (fun c_13 => ?_) (fun c_13 => ?_)
      · skip
        exact xw_vret dX10_findCrossings_91 rfl (hq F m1 (by rw [← e9]; exact hI) (by rw [← e9]; omega))
      · skip
        exfalso; omega
    | succ j ih =>
      intro p l F m1 hj hI hle h2
      have hE := mE_fc h hI.1
      refine xw_iload_n dX10_findCrossings_7 rfl ?_
      refine xw_aload_n dX10_findCrossings_8 rfl ?_
      refine xw_iload_n dX10_findCrossings_9 rfl ?_
      refine xw_callV (rc := 0) (rs := 0) (mc2 := 0) (ms2 := 0) (a := 38) (As := [vI (s : Int)]) (st := [vI (p : Int)]) dX10_findCrossings_10 mv_X10_184 hE.1 rfl rfl (by decide) (by decide) (Nat.le_of_ble_eq_true rfl) rfl (ct_pcs hE hs ?_)
      refine xw_icmpge (tgt := 91) dX10_findCrossings_13 (by decide) (by first | assumption | (unfold inI; omega) | (unfold inI at *; omega)) (by first | assumption | (unfold inI; omega) | (unfold inI at *; omega)) (fun c_13 => ?_) (fun c_13 => ?_)
      · skip
        exfalso; omega
      · skip
        refine xw_iconst dX10_findCrossings_16 ?_
        refine xw_istore_n dX10_findCrossings_17 (by decide) ?_
        exact xw_ls [(0, vR 38), (1, vI (s : Int)), (2, vI (p : Int)), (3, vI ((0 : Nat) : Int))] ⟨rfl, rfl, rfl, rfl, trivial⟩ (LO gn 0 p l _ F m1 (by omega) (by omega) hI (by omega) rfl (fun F2 m2 hI2 hle2 => ih (p + 1) _ F2 m2 (by omega) hI2 hle2 h2))
  obtain ⟨h38, m6, m13, hst, hv, _⟩ := id h
  obtain ⟨L0, hL0⟩ := hL
  refine xw_aload_n dX10_findCrossings_0 rfl ?_
  refine xw_iconst dX10_findCrossings_1 ?_
  refine xw_putfield dX10_findCrossings_2 (fp_X10_264 _) h38 rfl rfl ?_
  rw [xmd_40]
  refine xw_iconst dX10_findCrossings_5 ?_
  refine xw_istore_n dX10_findCrossings_6 (by decide) ?_
  exact xw_ls [(0, vR 38), (1, vI (s : Int)), (2, vI ((0 : Nat) : Int))] ⟨rfl, rfl, rfl, trivial⟩ (LP (pcS (σ s)) 0 (0, fun _ => c00) _ _ (by omega) ⟨⟨fr_up (fr_rf _ _) (by decide), rfl, fun k hk => xui_n _ _ (by omega), mVc_fr hv (fun k hk => xup_n _ _ (by intro e; subst e; exact hk (by decide)))⟩, mcl_0 (mcl_fr hL0 (fun k a b => xup_n _ _ (by omega))), rfl, fun j hj => absurd hj (Nat.not_lt_zero _)⟩ (by decide) rfl)
end C93
