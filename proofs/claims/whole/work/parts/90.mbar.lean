/-! the model: which bars which -/
def xB (d : Nat → Int) (X : xSt) (p : Nat) (Y : xSt) (q : Nat) : Prop := mCs d (dv (ptS X) p) (dv (ptS Y) q) (gv (ptS X) p (ptS Y) q) ≠ []
noncomputable def xVl (d : Nat → Int) (X : xSt) (p : Nat) (Y : xSt) (q : Nat) : ofS := mcV d (dv (ptS X) p) (dv (ptS Y) q) (gv (ptS X) p (ptS Y) q)
def mBar (d : Nat → Int) (σ : Nat → xSt) (a b : Nat) : Prop := a ≠ b ∧ ∃ p q, p < pcS (σ b) ∧ q < pcS (σ a) ∧ xB d (σ b) p (σ a) q ∧ 0 < (xVl d (σ b) p (σ a) q).2.2.2.1
/-- what the model's questions rest on -/
def mE (m : Nat → Int) (f : xH) (gn : Nat) (σ : Nat → xSt) (d : Nat → Int) : Prop := f 38 = some (oMd m) ∧ m 6 = (gn : Int) ∧ (m 13 = d 0 ∧ m 14 = d 1 ∧ m 15 = d 2) ∧ mst f gn σ ∧ mVc f ∧ bd d 100 ∧ ¬ z3 d
theorem mE_cr {m m1 : Nat → Int} {f f1 : xH} {gn : Nat} {σ : Nat → xSt} {d : Nat → Int} (h : mE m f gn σ d) (hf : crF f f1 m m1) : mE m1 f1 gn σ d := by
  obtain ⟨h1, h2, ⟨h3, h4, h5⟩, h6, h7, h8⟩ := h
  obtain ⟨c1, c2, c3, c4⟩ := hf
  exact ⟨c2, (c3 6 (by omega)).trans h2, ⟨(c3 13 (by omega)).trans h3, (c3 14 (by omega)).trans h4, (c3 15 (by omega)).trans h5⟩, mst_fr h6 (fun k a b => c1 k (by simp only [List.mem_cons, List.not_mem_nil, or_false]; omega)), c4, h8⟩
theorem crF_rf {m : Nat → Int} {f : xH} {gn : Nat} {σ : Nat → xSt} {d : Nat → Int} (h : mE m f gn σ d) : crF f f m m := ⟨fr_rf _ _, h.1, fun _ _ => rfl, h.2.2.2.2.1⟩
theorem crF_tr {m m1 m2 : Nat → Int} {f f1 f2 : xH} (h : crF f f1 m m1) (h2 : crF f1 f2 m1 m2) : crF f f2 m m2 := ⟨fr_tr h.1 h2.1, h2.2.1, fun k q => (h2.2.2.1 k q).trans (h.2.2.1 k q), h2.2.2.2⟩
theorem msh_vc {f : xH} (h : msh f) : mVc f := by
  obtain ⟨a, ha⟩ := msh_at h (k := 48) (t := 1) (N := 3) (by decide)
  obtain ⟨b, hb⟩ := msh_at h (k := 49) (t := 1) (N := 3) (by decide)
  obtain ⟨c, hc9⟩ := msh_at h (k := 50) (t := 1) (N := 3) (by decide)
  obtain ⟨e, he⟩ := msh_at h (k := 51) (t := 1) (N := 3) (by decide)
  obtain ⟨a1, ha1⟩ := msh_at h (k := 56) (t := 1) (N := 3) (by decide)
  obtain ⟨b1, hb1⟩ := msh_at h (k := 57) (t := 1) (N := 3) (by decide)
  obtain ⟨c1, hc1⟩ := msh_at h (k := 58) (t := 1) (N := 3) (by decide)
  exact ⟨a, b, c, e, a1, b1, c1, ha, hb, hc9, he, ha1, hb1, hc1⟩
theorem crF_sh {f f1 : xH} {m m1 : Nat → Int} (h : msh f) (hf : crF f f1 m m1) : msh f1 := by
  obtain ⟨c1, c2, c3, U, V, W, D, A, B, C, g48, g49, g50, g51, g56, g57, g58⟩ := hf
  intro p hp
  by_cases e : p.1 ∈ crS
  · have hp2 : p = (48, (1, 3)) ∨ p = (49, (1, 3)) ∨ p = (50, (1, 3)) ∨ p = (51, (1, 3)) ∨ p = (56, (1, 3)) ∨ p = (57, (1, 3)) ∨ p = (58, (1, 3)) := by
      have key : ∀ p ∈ shL, p.1 ∈ crS → (p = (48, (1, 3)) ∨ p = (49, (1, 3)) ∨ p = (50, (1, 3)) ∨ p = (51, (1, 3)) ∨ p = (56, (1, 3)) ∨ p = (57, (1, 3)) ∨ p = (58, (1, 3))) := by decide
      exact key p hp e
    rcases hp2 with rfl | rfl | rfl | rfl | rfl | rfl | rfl
    · exact ⟨U, g48⟩
    · exact ⟨V, g49⟩
    · exact ⟨W, g50⟩
    · exact ⟨D, g51⟩
    · exact ⟨A, g56⟩
    · exact ⟨B, g57⟩
    · exact ⟨C, g58⟩
  · obtain ⟨c, hc9⟩ := h p hp
    exact ⟨c, (c1 _ e).trans hc9⟩
section M90
variable {f : xH} {th : Int} {bn : Nat} {β : Nat → xBx} {gn : Nat} {σ : Nat → xSt} {d : Nat → Int} {as : List xAc} {ps : Nat} {pb : Nat → Int} {pu : Nat} {pr : Nat → Int}
theorem MS_E (h : MS f th bn β gn σ d as ps pb pu pr) : ∃ m, mfd m th bn gn σ d as ps pu ∧ mE m f gn σ d := by
  obtain ⟨m, h38, hm, hbx, hst, hac, hpg, hpr, hsh, h40, hd1, hd2⟩ := h
  exact ⟨m, hm, h38, hm.2.2.1, ⟨hm.2.2.2.2.1, hm.2.2.2.2.2.1, hm.2.2.2.2.2.2.1⟩, hst, msh_vc hsh, hd1, hd2⟩
theorem MS_cr {f1 : xH} {m m1 : Nat → Int} (h : MS f th bn β gn σ d as ps pb pu pr) (hm : mfd m th bn gn σ d as ps pu) (hf : crF f f1 m m1) : MS f1 th bn β gn σ d as ps pb pu pr ∧ kC f f1 ∧ mfd m1 th bn gn σ d as ps pu := by
  have hsh : msh f := h.choose_spec.2.2.2.2.2.2.2.1
  have c3 := hf.2.2.1
  obtain ⟨a1, a2, a3, a4, a5, a6, a7, a8, a9, a10⟩ := hm
  have hm1 : mfd m1 th bn gn σ d as ps pu := ⟨(c3 0 (by omega)).trans a1, (c3 1 (by omega)).trans a2, (c3 6 (by omega)).trans a3, (c3 7 (by omega)).trans a4, (c3 13 (by omega)).trans a5, (c3 14 (by omega)).trans a6, (c3 15 (by omega)).trans a7, (c3 23 (by omega)).trans a8, (c3 42 (by omega)).trans a9, (c3 60 (by omega)).trans a10⟩
  exact ⟨MS_s h hf.2.1 hm1 (crF_sh hsh hf) (fun k q => hf.1 k (by simp only [List.mem_cons, List.not_mem_nil, or_false]; omega)), fun k q => hf.1 k (by simp only [List.mem_cons, List.not_mem_nil, or_false]; omega), hm1⟩
end M90
section C90
variable {g : xG} {y : xM} {Q : xP} {n : Nat} {f : xH} {gn : Nat} {σ : Nat → xSt} {d m : Nat → Int}
theorem ct_pcs {s : Nat} (h : mE m f gn σ d) (hs : s < gn) (hq : Q (.inl (some (vI (pcS (σ s) : Int)))) n f) : xct g M_X10_pieces 0 0 [vR 38, vI (s : Int)] n f Q := by
  obtain ⟨h38, _, _, ⟨K, M, W, P, Z, s43, s44, s45, s46, s47, hgn, hall, hz9⟩, _⟩ := h
  have q := hall s hs
  refine ct_pieces h38 s43 (by omega) (by rw [q.2.1]; have := q.1.1; unfold inI; omega) ?_
  have e : pcz (K s) = pcS (σ s) := by unfold pcz pcS; rw [q.2.1]
  rw [e]; exact hq
theorem ct_crs {s p o q : Nat} (h : mE m f gn σ d) (hs : s < gn) (ho : o < gn) (hp : p < 2) (hq9 : q < 2) (h1 : ∀ f1 m1, xB d (σ s) p (σ o) q → crF f f1 m m1 → kst m1 (xVl d (σ s) p (σ o) q) → Q (.inl (some (vI 1))) n f1) (h0 : ∀ f1 m1, ¬ xB d (σ s) p (σ o) q → crF f f1 m m1 → Q (.inl (some (vI 0))) n f1) : xct g M_X10_crosses 0 0 [vR 38, vI (s : Int), vI (p : Int), vI (o : Int), vI (q : Int)] n f Q := by
  obtain ⟨h38, h6, ⟨d0, d1, d2⟩, ⟨K, M, W, P, Z, s43, s44, s45, s46, s47, hgn, hall, hz9⟩, hv, hd, hz⟩ := h
  have qs := hall s hs
  have qo := hall o ho
  have ed : ∀ k, k < 3 → v3 (m 13) (m 14) (m 15) k = d k := fun k hk => by rcases lt3 hk with rfl | rfl | rfl; exact d0; exact d1; exact d2
  have es : ∀ j, j < 9 → Ps P s j = ptS (σ s) j := fun j hj => qs.2.2.2.2.2 j hj
  have eo : ∀ j, j < 9 → Ps P o j = ptS (σ o) j := fun j hj => qo.2.2.2.2.2 j hj
  have eC : mCs (v3 (m 13) (m 14) (m 15)) (dv (Ps P s) p) (dv (Ps P o) q) (gv (Ps P s) p (Ps P o) q) = mCs d (dv (ptS (σ s)) p) (dv (ptS (σ o)) q) (gv (ptS (σ s)) p (ptS (σ o)) q) := mCs_cg ed (dv_cg hp es) (dv_cg hq9 eo) (gv_cg hp hq9 es eo)
  refine ct_crosses h38 s46 hv (by omega) (by omega) hp hq9 (fun j hj => by rw [qs.2.2.2.2.2 j hj]; exact qs.1.2.2.2.2 j hj) (fun j hj => by rw [qo.2.2.2.2.2 j hj]; exact qo.1.2.2.2.2 j hj) rfl rfl rfl rfl ?_ ?_ (fun f1 m1 a b c => h1 f1 m1 (by unfold xB; rw [← eC]; exact a) b (by unfold xVl mcV; rw [← eC]; exact c)) (fun f1 m1 a b => h0 f1 m1 (fun k => k (by rw [← eC]; exact a)) b)
  · exact bd_of (fun k hk => by rw [ed k hk]; exact bd_k hd hk)
  · intro k
    exact hz ⟨(ed 0 (by omega)).symm.trans k.1, (ed 1 (by omega)).symm.trans k.2.1, (ed 2 (by omega)).symm.trans k.2.2⟩
theorem xVl_ok {s p o q : Nat} (h : mE m f gn σ d) (hs : s < gn) (ho : o < gn) (hp : p < 2) (hq9 : q < 2) (hb : xB d (σ s) p (σ o) q) : okV (xVl d (σ s) p (σ o) q) := by
  obtain ⟨h38, h6, _, ⟨K, M, W, P, Z, s43, s44, s45, s46, s47, hgn, hall, hz9⟩, hv, hd, hz⟩ := h
  have qs := (hall s hs).1.2.2.2.2
  have qo := (hall o ho).1.2.2.2.2
  exact mcV_ok (bd_dv qs hp) (bd_dv qo hq9) (bd_gv qs qo hp hq9) hd hz hb
set_option maxHeartbeats 4000000 in
theorem ct_isBar {a b : Nat} (h : mE m f gn σ d) (ha : a < gn) (hb : b < gn) (h1 : ∀ f1 m1, mBar d σ a b → crF f f1 m m1 → Q (.inl (some (vI 1))) n f1) (h0 : ∀ f1 m1, ¬ mBar d σ a b → crF f f1 m m1 → Q (.inl (some (vI 0))) n f1) : xct g M_X10_isBar 0 0 [vR 38, vI (a : Int), vI (b : Int)] n f Q := by
  refine xct_of rfl rfl (Nat.le_of_ble_eq_true rfl) ?_
  have hgn : gn ≤ 100 := h.2.2.2.1.choose_spec.choose_spec.choose_spec.choose_spec.choose_spec.2.2.2.2.2.1
  have pa := pcS_2 (σ a)
  have pb9 := pcS_2 (σ b)
  have LQ : a ≠ b → ∀ (j q p : Nat) (F : xH) (m1 : Nat → Int), q + j = pcS (σ a) → p < pcS (σ b) → crF f F m m1 → (∀ q', q' < q → ¬ (xB d (σ b) p (σ a) q' ∧ 0 < (xVl d (σ b) p (σ a) q').2.2.2.1)) → (∀ F2 m2, crF f F2 m m2 → (∀ q', q' < pcS (σ a) → ¬ (xB d (σ b) p (σ a) q' ∧ 0 < (xVl d (σ b) p (σ a) q').2.2.2.1)) → xw g M_X10_isBar Q 0 0 9 [(0, vR 38), (1, vI (a : Int)), (2, vI (b : Int)), (3, vI ((p + 1 : Nat) : Int))] [] n F2) → xw g M_X10_isBar Q 0 0 21 [(0, vR 38), (1, vI (a : Int)), (2, vI (b : Int)), (3, vI (p : Int)), (4, vI (q : Int))] [] n F := by
    intro hab j
    induction j with
    | zero =>
      intro q p F m1 hj hp hF hn K
      have hE := mE_cr h hF
      refine xw_iload dX10_isBar_21 rfl ?_
      refine xw_aload_n dX10_isBar_23 rfl ?_
      refine xw_iload_n dX10_isBar_24 rfl ?_
      refine xw_callV (rc := 0) (rs := 0) (mc2 := 0) (ms2 := 0) (a := 38) (As := [vI (a : Int)]) (st := [vI (q : Int)]) dX10_isBar_25 mv_X10_184 hE.1 rfl rfl (by decide) (by decide) (Nat.le_of_ble_eq_true rfl) rfl (ct_pcs hE ha ?_)
      refine xw_icmpge (tgt := 60) dX10_isBar_28 (by decide) (by first | assumption | (unfold inI; omega) | (unfold inI at *; omega)) (by first | assumption | (unfold inI; omega) | (unfold inI at *; omega)) (fun c_28 => ?_) (fun c_28 => ?_)
      · skip
        refine xw_iinc dX10_isBar_60 rfl (by decide) ?_
        refine xw_goto (tgt := 9) dX10_isBar_63 (by decide) ?_
        exact xw_ls [(0, vR 38), (1, vI (a : Int)), (2, vI (b : Int)), (3, vI ((p + 1 : Nat) : Int))] ⟨rfl, rfl, rfl, rfl, trivial⟩ (K F m1 hF (fun q' hq' => hn q' (by omega)))
      · skip
        exfalso; omega
    | succ j ih =>
      intro q p F m1 hj hp hF hn K
      have hE := mE_cr h hF
      have N : ∀ (F2 : xH) (m2 : Nat → Int), crF f F2 m m2 → ¬ (xB d (σ b) p (σ a) q ∧ 0 < (xVl d (σ b) p (σ a) q).2.2.2.1) → xw g M_X10_isBar Q 0 0 54 [(0, vR 38), (1, vI (a : Int)), (2, vI (b : Int)), (3, vI (p : Int)), (4, vI (q : Int))] [] n F2 := by
        intro F2 m2 hF2 hn2
        refine xw_iinc dX10_isBar_54 rfl (by decide) ?_
        refine xw_goto (tgt := 21) dX10_isBar_57 (by decide) ?_
        exact xw_ls [(0, vR 38), (1, vI (a : Int)), (2, vI (b : Int)), (3, vI (p : Int)), (4, vI ((q + 1 : Nat) : Int))] ⟨rfl, rfl, rfl, rfl, rfl, trivial⟩ (ih (q + 1) p F2 m2 (by omega) hp hF2 (fun q' hq' => by
            by_cases e : q' = q
            · subst e; exact hn2
            · exact hn q' (by omega)) K)
      refine xw_iload dX10_isBar_21 rfl ?_
      refine xw_aload_n dX10_isBar_23 rfl ?_
      refine xw_iload_n dX10_isBar_24 rfl ?_
      refine xw_callV (rc := 0) (rs := 0) (mc2 := 0) (ms2 := 0) (a := 38) (As := [vI (a : Int)]) (st := [vI (q : Int)]) dX10_isBar_25 mv_X10_184 hE.1 rfl rfl (by decide) (by decide) (Nat.le_of_ble_eq_true rfl) rfl (ct_pcs hE ha ?_)
      refine xw_icmpge (tgt := 60) dX10_isBar_28 (by decide) (by first | assumption | (unfold inI; omega) | (unfold inI at *; omega)) (by first | assumption | (unfold inI; omega) | (unfold inI at *; omega)) (fun c_28 => ?_) (fun c_28 => ?_)
      · skip
        exfalso; omega
      · skip
        refine xw_aload_n dX10_isBar_31 rfl ?_
        refine xw_iload_n dX10_isBar_32 rfl ?_
        refine xw_iload_n dX10_isBar_33 rfl ?_
        refine xw_iload_n dX10_isBar_34 rfl ?_
        refine xw_iload dX10_isBar_35 rfl ?_
        refine xw_callV (rc := 0) (rs := 0) (mc2 := 0) (ms2 := 0) (a := 38) (As := [vI (b : Int), vI (p : Int), vI (a : Int), vI (q : Int)]) (st := []) dX10_isBar_37 mv_X10_257 hE.1 rfl rfl (by decide) (by decide) (Nat.le_of_ble_eq_true rfl) rfl (ct_crs hE hb ha (by omega) (by omega) (fun F2 m2 c1 c2 c3 => ?_) (fun F2 m2 c1 c2 => ?_))
        · skip
          refine xw_ifeq (tgt := 54) dX10_isBar_40 (by decide) (by unfold inI; omega) (fun c => absurd c (by decide)) (fun _ => ?_)
          refine xw_aload_n dX10_isBar_43 rfl ?_
          refine xw_getfield dX10_isBar_44 fl_X10_240 c2.2.1 rfl ?_
          refine xw_topl _ c3.2.2.2.1 ?_
          refine xw_lconst (z := 0) dX10_isBar_47 (by decide) ?_
          refine xw_lcmple (tgt := 54) dX10_isBar_48 dX10_isBar_49 (by decide) (nb_L (xVl_ok hE hb ha (by omega) (by omega) c1).2.2.1 (by decide)) (by unfold inL; omega) (fun c_48 => ?_) (fun c_48 => ?_)
          · skip
            first
              | exact N F2 m2 (crF_tr hF c2) (fun k => by omega)
              | exact N F2 m2 (crF_tr hF c2) (fun k => c1 k.1)
          · skip
            refine xw_iconst dX10_isBar_52 ?_
            exact xw_zret dX10_isBar_53 rfl rfl (h1 F2 m2 ⟨hab, p, q, hp, by omega, c1, by omega⟩ (crF_tr hF c2))
        · skip
          refine xw_ifeq (tgt := 54) dX10_isBar_40 (by decide) (by unfold inI; omega) (fun _ => ?_) (fun c => absurd c (by decide))
          first
            | exact N F2 m2 (crF_tr hF c2) (fun k => by omega)
            | exact N F2 m2 (crF_tr hF c2) (fun k => c1 k.1)
  have LP : a ≠ b → ∀ (j p : Nat) (F : xH) (m1 : Nat → Int), p + j = pcS (σ b) → crF f F m m1 → (∀ p' q', p' < p → q' < pcS (σ a) → ¬ (xB d (σ b) p' (σ a) q' ∧ 0 < (xVl d (σ b) p' (σ a) q').2.2.2.1)) → xw g M_X10_isBar Q 0 0 9 [(0, vR 38), (1, vI (a : Int)), (2, vI (b : Int)), (3, vI (p : Int))] [] n F := by
    intro hab j
    induction j with
    | zero =>
      intro p F m1 hj hF hn
      have hE := mE_cr h hF
      refine xw_iload_n dX10_isBar_9 rfl ?_
      refine xw_aload_n dX10_isBar_10 rfl ?_
      refine xw_iload_n dX10_isBar_11 rfl ?_
      refine xw_callV (rc := 0) (rs := 0) (mc2 := 0) (ms2 := 0) (a := 38) (As := [vI (b : Int)]) (st := [vI (p : Int)]) dX10_isBar_12 mv_X10_184 hE.1 rfl rfl (by decide) (by decide) (Nat.le_of_ble_eq_true rfl) rfl (ct_pcs hE hb ?_)
      refine xw_icmpge (tgt := 66) dX10_isBar_15 (by decide) (by first | assumption | (unfold inI; omega) | (unfold inI at *; omega)) (by first | assumption | (unfold inI; omega) | (unfold inI at *; omega)) (fun c_15 => ?_) (fun c_15 => ?_)
      · skip
        refine xw_iconst dX10_isBar_66 ?_
        exact xw_zret dX10_isBar_67 rfl rfl (h0 F m1 (fun k => by obtain ⟨_, p', q', e1, e2, e3⟩ := k; exact hn p' q' (by omega) e2 e3) hF)
      · skip
        exfalso; omega
    | succ j ih =>
      intro p F m1 hj hF hn
      have hE := mE_cr h hF
      refine xw_iload_n dX10_isBar_9 rfl ?_
      refine xw_aload_n dX10_isBar_10 rfl ?_
      refine xw_iload_n dX10_isBar_11 rfl ?_
      refine xw_callV (rc := 0) (rs := 0) (mc2 := 0) (ms2 := 0) (a := 38) (As := [vI (b : Int)]) (st := [vI (p : Int)]) dX10_isBar_12 mv_X10_184 hE.1 rfl rfl (by decide) (by decide) (Nat.le_of_ble_eq_true rfl) rfl (ct_pcs hE hb ?_)
      refine xw_icmpge (tgt := 66) dX10_isBar_15 (by decide) (by first | assumption | (unfold inI; omega) | (unfold inI at *; omega)) (by first | assumption | (unfold inI; omega) | (unfold inI at *; omega)) (fun c_15 => ?_) (fun c_15 => ?_)
      · skip
        exfalso; omega
      · skip
        refine xw_iconst dX10_isBar_18 ?_
        refine xw_istore dX10_isBar_19 (by decide) ?_
        exact xw_ls [(0, vR 38), (1, vI (a : Int)), (2, vI (b : Int)), (3, vI (p : Int)), (4, vI ((0 : Nat) : Int))] ⟨rfl, rfl, rfl, rfl, rfl, trivial⟩ (LQ hab (pcS (σ a)) 0 p F m1 (by omega) (by omega) hF (fun q' hq' => absurd hq' (Nat.not_lt_zero _)) (fun F2 m2 hF2 hn2 => ih (p + 1) F2 m2 (by omega) hF2 (fun p' q' hp' hq' => by
            by_cases e : p' = p
            · subst e; exact hn2 q' hq'
            · exact hn p' q' (by omega) hq')))
  refine xw_iload_n dX10_isBar_0 rfl ?_
  refine xw_iload_n dX10_isBar_1 rfl ?_
  refine xw_icmpne (tgt := 7) dX10_isBar_2 (by decide) (by first | assumption | (unfold inI; omega) | (unfold inI at *; omega)) (by first | assumption | (unfold inI; omega) | (unfold inI at *; omega)) (fun c_2 => ?_) (fun c_2 => ?_)
  · skip
    refine xw_iconst dX10_isBar_7 ?_
    refine xw_istore_n dX10_isBar_8 (by decide) ?_
    exact xw_ls [(0, vR 38), (1, vI (a : Int)), (2, vI (b : Int)), (3, vI ((0 : Nat) : Int))] ⟨rfl, rfl, rfl, rfl, trivial⟩ (LP (by omega) (pcS (σ b)) 0 f m (by omega) (crF_rf h) (fun p' q' hp' => absurd hp' (Nat.not_lt_zero _)))
  · skip
    refine xw_iconst dX10_isBar_5 ?_
    exact xw_zret dX10_isBar_6 rfl rfl (h0 f m (fun k => k.1 (by omega)) (crF_rf h))
set_option maxHeartbeats 4000000 in
theorem mct_isFree {s : Nat} (h : mE m f gn σ d) (hs : s < gn) (h1 : ∀ f1 m1, (∀ o, o < gn → hrS (σ o) = 1 → ¬ mBar d σ o s) → crF f f1 m m1 → Q (.inl (some (vI 1))) n f1) (h0 : ∀ f1 m1, ¬ (∀ o, o < gn → hrS (σ o) = 1 → ¬ mBar d σ o s) → crF f f1 m m1 → Q (.inl (some (vI 0))) n f1) : xct g M_X10_isFree 0 0 [vR 38, vI (s : Int)] n f Q := by
  refine xct_of rfl rfl (Nat.le_of_ble_eq_true rfl) ?_
  have L : ∀ (j o : Nat) (F : xH) (m1 : Nat → Int), o + j = gn → crF f F m m1 → (∀ t, t < o → hrS (σ t) = 1 → ¬ mBar d σ t s) → xw g M_X10_isFree Q 0 0 2 [(0, vR 38), (1, vI (s : Int)), (2, vI (o : Int))] [] n F := by
    intro j
    induction j with
    | zero =>
      intro o F m1 hj hF hn
      obtain ⟨h38, m6, _, ⟨K, M, W, P, Z, s43, s44, s45, s46, s47, hgn, hall, hz9⟩, _⟩ := mE_cr h hF
      refine xw_iload_n dX10_isFree_2 rfl ?_
      refine xw_aload_n dX10_isFree_3 rfl ?_
      refine xw_getfield dX10_isFree_4 fl_X10_181 h38 rfl ?_
      refine xw_topi (gn : Int) m6 ?_
      refine xw_icmpge (tgt := 36) dX10_isFree_7 (by decide) (by first | assumption | (unfold inI; omega) | (unfold inI at *; omega)) (by first | assumption | (unfold inI; omega) | (unfold inI at *; omega)) (fun c_7 => ?_) (fun c_7 => ?_)
      · skip
        refine xw_iconst dX10_isFree_36 ?_
        exact xw_zret dX10_isFree_37 rfl rfl (h1 F m1 (fun o' ho' => hn o' (by omega)) hF)
      · skip
        exfalso; omega
    | succ j ih =>
      intro o F m1 hj hF hn
      have hE := mE_cr h hF
      obtain ⟨h38, m6, _, ⟨K, M, W, P, Z, s43, s44, s45, s46, s47, hgn, hall, hz9⟩, _⟩ := id hE
      have q := hall o (by omega)
      have z9 := hz9 o (by omega)
      have N : ∀ (F2 : xH) (m2 : Nat → Int), crF f F2 m m2 → ¬ (hrS (σ o) = 1 ∧ mBar d σ o s) → xw g M_X10_isFree Q 0 0 30 [(0, vR 38), (1, vI (s : Int)), (2, vI (o : Int))] [] n F2 := by
        intro F2 m2 hF2 hn2
        refine xw_iinc dX10_isFree_30 rfl (by decide) ?_
        refine xw_goto (tgt := 2) dX10_isFree_33 (by decide) ?_
        exact xw_ls [(0, vR 38), (1, vI (s : Int)), (2, vI ((o + 1 : Nat) : Int))] ⟨rfl, rfl, rfl, trivial⟩ (ih (o + 1) F2 m2 (by omega) hF2 (fun t ht q1 q2 => by
            by_cases e : t = o
            · subst e; exact hn2 ⟨q1, q2⟩
            · exact hn t (by omega) q1 q2))
      refine xw_iload_n dX10_isFree_2 rfl ?_
      refine xw_aload_n dX10_isFree_3 rfl ?_
      refine xw_getfield dX10_isFree_4 fl_X10_181 h38 rfl ?_
      refine xw_topi (gn : Int) m6 ?_
      refine xw_icmpge (tgt := 36) dX10_isFree_7 (by decide) (by first | assumption | (unfold inI; omega) | (unfold inI at *; omega)) (by first | assumption | (unfold inI; omega) | (unfold inI at *; omega)) (fun c_7 => ?_) (fun c_7 => ?_)
      · skip
        exfalso; omega
      · skip
        refine xw_aload_n dX10_isFree_10 rfl ?_
        refine xw_getfield dX10_isFree_11 fl_X10_39 h38 rfl ?_
        refine xw_iload_n dX10_isFree_14 rfl ?_
        refine xw_zald dX10_isFree_15 s47 (j := o) rfl (by omega) (by decide) ?_
        refine xw_ifeq (tgt := 30) dX10_isFree_16 (by decide) (by first | assumption | (unfold inI; omega) | (unfold inI at *; omega)) (fun c_16 => ?_) (fun c_16 => ?_)
        · skip
          first
            | exact N F2 m2 (crF_tr hF c2) (fun k => c1 k.2)
            | exact N F m1 hF (fun k => by omega)
        · skip
          refine xw_aload_n dX10_isFree_19 rfl ?_
          refine xw_iload_n dX10_isFree_20 rfl ?_
          refine xw_iload_n dX10_isFree_21 rfl ?_
          refine xw_callV (rc := 0) (rs := 0) (mc2 := 0) (ms2 := 0) (a := 38) (As := [vI (o : Int), vI (s : Int)]) (st := []) dX10_isFree_22 mv_X10_261 h38 rfl rfl (by decide) (by decide) (Nat.le_of_ble_eq_true rfl) rfl (ct_isBar hE (by omega) hs (fun F2 m2 c1 c2 => ?_) (fun F2 m2 c1 c2 => ?_))
          · skip
            refine xw_ifeq (tgt := 30) dX10_isFree_25 (by decide) (by unfold inI; omega) (fun c => absurd c (by decide)) (fun _ => ?_)
            refine xw_iconst dX10_isFree_28 ?_
            exact xw_zret dX10_isFree_29 rfl rfl (h0 F2 m2 (fun k => k o (by omega) (by omega) c1) (crF_tr hF c2))
          · skip
            refine xw_ifeq (tgt := 30) dX10_isFree_25 (by decide) (by unfold inI; omega) (fun _ => ?_) (fun c => absurd c (by decide))
            first
              | exact N F2 m2 (crF_tr hF c2) (fun k => c1 k.2)
              | exact N F m1 hF (fun k => by omega)
  refine xw_iconst dX10_isFree_0 ?_
  refine xw_istore_n dX10_isFree_1 (by decide) ?_
  exact xw_ls [(0, vR 38), (1, vI (s : Int)), (2, vI ((0 : Nat) : Int))] ⟨rfl, rfl, rfl, trivial⟩ (L gn 0 f m (by omega) (crF_rf h) (fun t ht => absurd ht (Nat.not_lt_zero _)))
end C90
