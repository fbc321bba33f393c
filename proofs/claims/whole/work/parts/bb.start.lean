/-! the law's beginning -/
section Cbb
variable {g : xG} {k : scT} {rc rs pc : Nat} {ls : xS} {st : List xV} {n : Nat} {f : xH}
theorem xl_new {idx ci N : Nat} {fs : Nat → xV} (hd : decode cL_law pc = .ok (.new idx, 3)) (hf : xNW RL idx ci N fs) (kk : xl g k rc rs (pc + 3) ls (vR n :: st) (n + 1) (xup f n (.inr (ci, fs)))) : xl g k (rc + 1) (rs + N) pc ls st n f := by
  intro hG hX hb p e m below meth c H locs cells slots A C hR hlo hc hs hl
  have hW : (g0 g).WarmedH (g0 g).vm := State.WarmedH.refl _
  obtain ⟨CC, T, ty0, hcl, hin, hw1, hw2, hw3, hty, hnf, hfs⟩ := hf
  have hts : ∀ w ∈ u_ws CC T N, w.before #[Value.ref k.1] (g0 g) = true := fun w h => xgw hG (hin w h) hW
  have hKn := (xKn hG hW).1 ci _ hcl
  refine W.newcK C.1 C.2.1 C.2.2.2.2.1 (xgw hG hw1 hW) (xgw hG hw2 hW) (xgw hG hw3 hW) rfl hd (by show cells + 1 ≤ 601024; omega) (by show slots + N ≤ 7293034; omega) hKn.2.1 hR.1 fun H1 kC hkC e1 z1 o1 => ?_
  have ho : ∀ q : Nat, q < H.size → H1[q]? = H[q]? := fun q hq => o1 q (by rw [← hR.1]; exact hq)
  refine kk hG hX hb p e m below meth c H1 locs (cells + 1) (slots + N) A C (xR_push hR (by rw [z1, hR.1]) ho ⟨_, hcl, (u_born ty0 hts (fun _ h => h) hKn hkC e1 hty).to (fun j hj => ?_)⟩) hlo (by omega) (by omega) hl
  show defaultValue (ty0 j) = xcv (gB g) (fs j)
  rw [hfs]
  exact xdef_cv _ _ (hnf j hj)
theorem xl_newa {at9 : ArrayType} {t N : Nat} {z : Int} {ty : FieldType} {c9 : xA} (hd : decode cL_law pc = .ok (.newarray at9, 2)) (hty : newarray.typeOf at9 = ty) (ht : xtys[t]? = some ty) (hw : xin (.arrayClass ty)) (hz : z = (N : Int)) (hN : N ≤ 60000000) (hby : N * componentBytes ty ≤ 536870912) (hc9 : ∀ (B : Nat) (cA : ClassId), vp_cell cA (N, xcA B c9) = arrV cA N (fun _ => defaultValue ty))
    (kk : xl g k rc rs (pc + 2) ls (vR n :: st) (n + 1) (xup f n (.inl (t, N, c9)))) : xl g k (rc + 1) (rs + N) pc ls (vI z :: st) n f := by
  intro hG hX hb p e m below meth c H locs cells slots A C hR hlo hc hs hl
  have hW : (g0 g).WarmedH (g0 g).vm := State.WarmedH.refl _
  subst hty
  obtain ⟨hin, hcl⟩ := xix hz (Nat.lt_succ_self N) (by omega)
  refine va_newaK C.1 C.2.1 (xgw hG hw hW) rfl hd rfl (fun q => hin (Or.inl q)) hcl hby (by show cells + 1 ≤ 601024; omega) (by show slots + N ≤ 7293034; omega) hR.1 fun H1 cA e1 z1 o1 hAr hNm => ?_
  have hcA : cA = gA g t := by
    have h2 := (xAr hG hW ht).2
    unfold va_RA at h2
    cases at9 <;> exact Option.some.inj (hNm.symm.trans h2)
  subst hcA
  have ho : ∀ q : Nat, q < H.size → H1[q]? = H[q]? := fun q hq => o1 q (by rw [← hR.1]; exact hq)
  refine kk hG hX hb p e m below meth c H1 locs (cells + 1) (slots + N) A C (xR_push hR (by rw [z1, hR.1]) ho ?_) hlo (by omega) (by omega) hl
  show H1[gB g + n]? = some (vp_cell _ _)
  rw [e1, hc9]
theorem xl_callI {idx a mc2 ms2 : Nat} {As sk : List xV} {y2 : xM} (hd : decode cL_law pc = .ok (.invokespecial idx, 3)) (hm : xMI RL idx As.length y2) (hfr : mF y2 + 1 ≤ 12) (hlo2 : 8 + (mL y2 + 11) + mW y2 ≤ 518) (hst : (st.map xcat).sum ≤ 8) (hsk : sk = As.reverse ++ vR a :: st)
    (ct : xct g y2 mc2 ms2 (vR a :: As) n f (xKl g k rc rs (pc + 3) ls st)) : xl g k (rc + mc2) (rs + ms2) pc ls sk n f := by
  intro hG hX hb p e m below meth c H locs cells slots A C hR hlo hc hs hl
  have hW : (g0 g).WarmedH (g0 g).vm := State.WarmedH.refl _
  obtain ⟨hmc, hmn, hmt, hm2, hm1⟩ := hm
  have hS : CallFix p m c cL_law 7 (g0 g) #[Value.ref k.1] [] RL := ⟨C.1, C.2.1, C.2.2.2.1, C.2.2.2.2.1, fun _ h => by cases h⟩
  have hcd := xMc_code hmc
  rw [hmt] at hcd
  have hcode : xin (.code (mN y2) (mB y2) (mL y2) none) := by have := hmc.2.1; rwa [hmt] at this
  have hp : PreS (g0 g) H (xPc g (vR a :: As) n f) (.ref (gB g + a) :: As.map (xcv (gB g))) := ⟨fun a9 U g9 mk q => q, fun U hU hWU => ⟨rfl, by rw [hU]; exact hR, hWU⟩⟩
  have hws : ∀ w ∈ [mcode y2], ∀ (a9 : Array Value) (U : State), (g0 g).WarmedH U.vm → w.before a9 U = true := fun w hw a9 U hU => by rw [List.mem_singleton.mp hw, hcd]; exact xgw hG hcode hU
  have hin : Cond.code (mN y2) (mB y2) (mL y2) none ∈ [mcode y2] := by rw [hcd]; exact List.mem_cons_self
  have hM := xct_met ct (fun _ _ _ h => h) hG
  have hsk2 : (F0 m pc A (sk.map (xcv (gB g)))).stack = (As.map (xcv (gB g))).reverse ++ .ref (gB g + a) :: st.map (xcv (gB g)) := by
    show sk.map (xcv (gB g)) = _
    rw [hsk, List.map_append, List.map_reverse]; rfl
  have hrun : va_Run p (gl g) e room_1 (g0 g) m #[Value.ref k.1] below meth c H locs cells slots mc2 ms2 (F0 m pc A (sk.map (xcv (gB g)))) (st.map (xcv (gB g))) (xQr g (xKl g k rc rs (pc + 3) ls st) (Value.ref (gB g + a) :: As.map (xcv (gB g))).toArray) (gF g) := by
    rcases hm1 with hm1 | ⟨host, hm1⟩
    · exact va_runI (n := As.length) hS hM ⟨⟨rfl, rfl, hfr, hlo2, hws, hin, xgw hG hcode hW, xgw hG hmc.2.2.1 hW, hmc.2.2.2.1, xMc_len hmc, xgw hG hm1 hW⟩, hmn, xgw hG hm2 hW⟩ hp rfl (List.length_map ..) hl.1 hsk2 (lv_room (by rw [xcats]; exact hst)) hd ⟨by show cells + mc2 ≤ 601024; omega, by show slots + ms2 ≤ 7293034; omega⟩
    · exact va_runIN (n := As.length) hS hM ⟨⟨⟨rfl, rfl, hfr, hlo2, hws, hin⟩, xgw hG hcode hW, xgw hG hmc.2.2.1 hW, hmc.2.2.2.1, xMc_len hmc, xNstM hG hm1 hW⟩, hmn, xgw hG hm2 hW⟩ hp rfl (List.length_map ..) hl.1 hsk2 (lv_room (by rw [xcats]; exact hst)) hd ⟨by show cells + mc2 ≤ 601024; omega, by show slots + ms2 ≤ 7293034; omega⟩
  intro T hT X
  obtain ⟨v, st0, t, T1, L, h0, X1, hL, e1, e2, hq, hgo⟩ := hrun T hT X
  exact xl_behind hG hX hb C hlo hc hs hl X1 hL e1 hq _ hgo
end Cbb
/-! the first state -/
def d0s : Nat → Int := xui (fun _ => 0) 2 1
def s0s : Nat → xSt := fun _ => (0, (0, (0, (0, fun _ => 0))))
def b0s : Nat → xBx := fun _ => (0, (fun _ => 0, fun _ => 0))
def S0s : LSt := (0, (b0s, (0, (s0s, (d0s, ([], (0, (fun _ => 0, (0, fun _ => 0)))))))))
theorem d0_bd : bd d0s 100 := by
  unfold bd
  decide
theorem d0_z3 : ¬ z3 d0s := fun h => absurd h.2.2 (by decide)
theorem ne_cr {e : xE} (h : szA e ≠ 1002) : ∀ c, e ≠ oCr c := fun c q => h (by rw [q]; rfl)

theorem MS_0 {F : xH} (h38 : F 38 = some (.inr (10, fX10 0 0 0 0 0 0 1 0 0 0 0 0 0 0 0 0 0 0 0 0 0 0))) (hl : lyd F 78 [aI 40 (fun _ => 0), aI 40 (fun _ => 0), aI 40 (fun _ => 0), aI 101 (fun _ => 0), aI 41 (fun _ => 0), aI 101 (fun _ => 0), aI 101 (fun _ => 0), aI 40 (fun _ => 0), aZ 101 (fun _ => 0), aZ 10000 (fun _ => 0), aZ 10000 (fun _ => 0), aI 100 (fun _ => 0), aL 200 (fun _ => 0), aL 200 (fun _ => 0), aL 200 (fun _ => 0), aL 200 (fun _ => 0), aI 200 (fun _ => 0), aI 200 (fun _ => 0), aI 200 (fun _ => 0), aL 3 (fun _ => 0), aL 3 (fun _ => 0), aL 3 (fun _ => 0), aI 9 (fun _ => 0), aI 72 (fun _ => 0), aI 8 (fun _ => 0), aI 8 (fun _ => 0), aL 3 (fun _ => 0), aL 3 (fun _ => 0), aL 3 (fun _ => 0), aL 3 (fun _ => 0), aZ 101 (fun _ => 0), aI 909 (fun _ => 0), aI 101 (fun _ => 0), aI 101 (fun _ => 0), aI 101 (fun _ => 0), aL 30 (fun _ => 0), aL 4800 (fun _ => 0), aI 160 (fun _ => -1), aI 8 (fun _ => 0)]) : MSs F 0 S0s := by
  obtain ⟨m77, m76, m75, m74, m73, m72, m71, m70, m69, m68, m67, m66, m65, m64, m63, m62, m61, m60, m59, m58, m57, m56, m55, m54, m53, m52, m51, m50, m49, m48, m47, m46, m45, m44, m43, m42, m41, m40, m39, _⟩ := hl
  refine ⟨fun j => if j = 15 then 1 else 0, h38, ⟨rfl, rfl, rfl, rfl, rfl, rfl, rfl, rfl, rfl, rfl⟩, ⟨_, _, _, m39, m40, m41, by decide, fun b hb => absurd hb (Nat.not_lt_zero b), fun b _ _ => ⟨fun k _ => rfl, fun j _ => rfl⟩⟩, ⟨_, _, _, _, _, m43, m44, m45, m46, m47, by decide, fun s hs => absurd hs (Nat.not_lt_zero s), fun s _ => Or.inl rfl⟩, ⟨_, _, _, m52, m53, m54, by decide, fun i x (h : ([] : List xAc)[i]? = some x) => (by rw [List.getElem?_nil] at h; cases h), trivial⟩, ⟨_, m66, by decide, fun j hj => absurd hj (Nat.not_lt_zero j)⟩, ⟨_, m77, by decide, fun j hj => absurd hj (Nat.not_lt_zero j)⟩, ?_, by decide, d0_bd, d0_z3⟩
  intro p hp
  unfold shL at hp
  simp only [List.mem_cons, List.not_mem_nil, or_false] at hp
  rcases hp with rfl | rfl | rfl | rfl | rfl | rfl | rfl | rfl | rfl | rfl | rfl | rfl | rfl | rfl | rfl | rfl | rfl | rfl | rfl | rfl | rfl | rfl | rfl | rfl | rfl | rfl
  · exact ⟨fun _ => 0, m42⟩
  · exact ⟨fun _ => 0, m48⟩
  · exact ⟨fun _ => 0, m49⟩
  · exact ⟨fun _ => 0, m50⟩
  · exact ⟨fun _ => 0, m51⟩
  · exact ⟨fun _ => 0, m55⟩
  · exact ⟨fun _ => 0, m56⟩
  · exact ⟨fun _ => 0, m57⟩
  · exact ⟨fun _ => 0, m58⟩
  · exact ⟨fun _ => 0, m59⟩
  · exact ⟨fun _ => 0, m60⟩
  · exact ⟨fun _ => 0, m61⟩
  · exact ⟨fun _ => 0, m62⟩
  · exact ⟨fun _ => 0, m63⟩
  · exact ⟨fun _ => 0, m64⟩
  · exact ⟨fun _ => 0, m65⟩
  · exact ⟨fun _ => 0, m67⟩
  · exact ⟨fun _ => 0, m68⟩
  · exact ⟨fun _ => 0, m69⟩
  · exact ⟨fun _ => 0, m70⟩
  · exact ⟨fun _ => 0, m71⟩
  · exact ⟨fun _ => 0, m72⟩
  · exact ⟨fun _ => 0, m73⟩
  · exact ⟨fun _ => 0, m74⟩
  · exact ⟨fun _ => 0, m75⟩
  · exact ⟨fun _ => 0, m76⟩
theorem CS_0 {F : xH} (h0 : F 0 = some (.inr (9, fX9 0 0 0 0 0 0))) (hl : lyd F 38 [aI 40 (fun _ => 0), aI 4096 (fun _ => 0), aI 12 (fun _ => 0), aI 12 (fun _ => 0), aI 12 (fun _ => 0), .inr (5, fX5 0 0 0), aL 41 (fun _ => 0), aL 20 (fun _ => 0), aI 40 (fun _ => 0), aI 40 (fun _ => 0), aL 40 (fun _ => 0), aL 40 (fun _ => 0), aL 40 (fun _ => 0), aI 40 (fun _ => 0), aI 40 (fun _ => 0), .inr (8, fX8 0 0 0), aR 6 156 (fun _ => none), .inr (3, fX3 0 (-1)), aB 40 (fun _ => 0), .inr (4, fX4 0), aI 8 (fun _ => 0), aI 8 (fun _ => 0), aI 8 (fun _ => 0), aI 8 (fun _ => 0), aI 8 (fun _ => 0), .inr (0, fX0 0 0), aL 3 (fun _ => 0), aL 3 (fun _ => 0), aL 3 (fun _ => 0), aL 3 (fun _ => 0), aL 3 (fun _ => 0), aL 3 (fun _ => 0), aL 3 (fun _ => 0), aL 3 (xui (fun _ => 0) 2 1), .inr (6, fX6 2 0 0 0 0 0), aR 5 100 (fun _ => none), aR 4 8 (fun _ => none)]) (hM : MSs F 0 S0s) (h78 : F 78 = some (aL 1 (fun _ => 0))) (hw : ∀ k, 79 ≤ k → F k = none) : CSs 79 F S0s := by
  have hx := fx78 hM h78
  obtain ⟨m37, m36, m35, m34, m33, m32, m31, m30, m29, m28, m27, m26, m25, m24, m23, m22, m21, m20, m19, m18, m17, m16, m15, m14, m13, m12, m11, m10, m9, m8, m7, m6, m5, m4, m3, m2, m1, _⟩ := hl
  have z40 : ∀ j : Nat, j < 40 → ((fun _ => 0 : Nat → Nat) j) < 2 ^ 40 ∧ ((fun _ => 0 : Nat → Nat) j) < 2 ^ 40 := fun j _ => ⟨Nat.two_pow_pos 40, Nat.two_pow_pos 40⟩
  refine ⟨fun _ => 0, fun _ => 0, 0, 0, h0, ⟨?_, by decide, fun b hb => absurd hb (Nat.not_lt_zero b), fun b c h1 h2 => absurd h2 (Nat.not_lt_zero c)⟩, ⟨?_, by decide, fun b hb => absurd hb (Nat.not_lt_zero b), fun b c h1 h2 => absurd h2 (Nat.not_lt_zero c)⟩, ⟨(0, (0, (0, (0, 0)))), m3, m4, ?_, by unfold inL; decide, d0_bd, d0_z3⟩, ⟨0, _, _, _, _, _, m12, m13, m14, m15, m16, m17, by decide, by decide, fun i x (h : ([] : List xAc)[i]? = some x) => (by rw [List.getElem?_nil] at h; cases h)⟩, ⟨m18, m19, by decide⟩, ⟨0, -1, fun _ => (0, (0, (0, (0, (0, (0, 0)))))), m20, ⟨fun _ => none, m21, fun i j a _ _ h => (by cases h), fun i a _ h => (by cases h), fun j hj => absurd hj (Nat.not_lt_zero j)⟩, by decide, fun j hj => absurd hj (Nat.not_lt_zero j), Or.inl rfl⟩, Or.inl ⟨rfl, rfl, ⟨0, 0, 0, fun _ => 0, fun _ => 0, fun _ => 0, fun _ => 0, fun _ => 0, fun _ => 0, fun _ => 0, fun _ => 0, fun _ => 0, ⟨m22, m23, m24, m25, m26, m27, m28, m29, m30, m31⟩, z40, fun j _ => ⟨Int.le_refl 0, by show (0 : Int) ≤ 40; decide⟩⟩, ⟨0, 0, 0, fun _ => 0, fun _ => 0, fun _ => 0, fun _ => 0, m32, m33, m34, m35, m36⟩⟩, ⟨m37, by decide, fun j hj => absurd hj (Nat.not_lt_zero j)⟩, by decide, Or.inl rfl, hw, ?_⟩
  · rw [m1]
    show some (aR 4 8 (fun _ => none)) = some (aR 4 8 (fun b => if b < 0 then some 0 else none))
    congr
  · rw [m2]
    show some (aR 5 100 (fun _ => none)) = some (aR 5 100 (fun b => if b < 0 then some 0 else none))
    congr
  · intro k k1 k2
    have hk : k = 5 ∨ k = 6 ∨ k = 7 ∨ k = 8 ∨ k = 9 ∨ k = 10 ∨ k = 11 := by omega
    rcases hk with rfl | rfl | rfl | rfl | rfl | rfl | rfl
    · exact ⟨_, m5⟩
    · exact ⟨_, m6⟩
    · exact ⟨_, m7⟩
    · exact ⟨_, m8⟩
    · exact ⟨_, m9⟩
    · exact ⟨_, m10⟩
    · exact ⟨_, m11⟩
  · intro k hk
    by_cases q : 38 ≤ k
    · obtain ⟨e, he, hn⟩ := hx k q (by omega)
      exact ⟨e, he, ne_cr hn⟩
    · have hk : k = 0 ∨ k = 1 ∨ k = 2 ∨ k = 3 ∨ k = 4 ∨ k = 5 ∨ k = 6 ∨ k = 7 ∨ k = 8 ∨ k = 9 ∨ k = 10 ∨ k = 11 ∨ k = 12 ∨ k = 13 ∨ k = 14 ∨ k = 15 ∨ k = 16 ∨ k = 17 ∨ k = 18 ∨ k = 19 ∨ k = 20 ∨ k = 21 ∨ k = 22 ∨ k = 23 ∨ k = 24 ∨ k = 25 ∨ k = 26 ∨ k = 27 ∨ k = 28 ∨ k = 29 ∨ k = 30 ∨ k = 31 ∨ k = 32 ∨ k = 33 ∨ k = 34 ∨ k = 35 ∨ k = 36 ∨ k = 37 := by omega
      rcases hk with rfl | rfl | rfl | rfl | rfl | rfl | rfl | rfl | rfl | rfl | rfl | rfl | rfl | rfl | rfl | rfl | rfl | rfl | rfl | rfl | rfl | rfl | rfl | rfl | rfl | rfl | rfl | rfl | rfl | rfl | rfl | rfl | rfl | rfl | rfl | rfl | rfl | rfl
      · exact ⟨_, h0, ne_cr (by unfold szA; decide)⟩
      · exact ⟨_, m1, ne_cr (by unfold szA; decide)⟩
      · exact ⟨_, m2, ne_cr (by unfold szA; decide)⟩
      · exact ⟨_, m3, ne_cr (by unfold szA; decide)⟩
      · exact ⟨_, m4, ne_cr (by unfold szA; decide)⟩
      · exact ⟨_, m5, ne_cr (by unfold szA; decide)⟩
      · exact ⟨_, m6, ne_cr (by unfold szA; decide)⟩
      · exact ⟨_, m7, ne_cr (by unfold szA; decide)⟩
      · exact ⟨_, m8, ne_cr (by unfold szA; decide)⟩
      · exact ⟨_, m9, ne_cr (by unfold szA; decide)⟩
      · exact ⟨_, m10, ne_cr (by unfold szA; decide)⟩
      · exact ⟨_, m11, ne_cr (by unfold szA; decide)⟩
      · exact ⟨_, m12, ne_cr (by unfold szA; decide)⟩
      · exact ⟨_, m13, ne_cr (by unfold szA; decide)⟩
      · exact ⟨_, m14, ne_cr (by unfold szA; decide)⟩
      · exact ⟨_, m15, ne_cr (by unfold szA; decide)⟩
      · exact ⟨_, m16, ne_cr (by unfold szA; decide)⟩
      · exact ⟨_, m17, ne_cr (by unfold szA; decide)⟩
      · exact ⟨_, m18, ne_cr (by unfold szA; decide)⟩
      · exact ⟨_, m19, ne_cr (by unfold szA; decide)⟩
      · exact ⟨_, m20, ne_cr (by unfold szA; decide)⟩
      · exact ⟨_, m21, ne_cr (by unfold szA; decide)⟩
      · exact ⟨_, m22, ne_cr (by unfold szA; decide)⟩
      · exact ⟨_, m23, ne_cr (by unfold szA; decide)⟩
      · exact ⟨_, m24, ne_cr (by unfold szA; decide)⟩
      · exact ⟨_, m25, ne_cr (by unfold szA; decide)⟩
      · exact ⟨_, m26, ne_cr (by unfold szA; decide)⟩
      · exact ⟨_, m27, ne_cr (by unfold szA; decide)⟩
      · exact ⟨_, m28, ne_cr (by unfold szA; decide)⟩
      · exact ⟨_, m29, ne_cr (by unfold szA; decide)⟩
      · exact ⟨_, m30, ne_cr (by unfold szA; decide)⟩
      · exact ⟨_, m31, ne_cr (by unfold szA; decide)⟩
      · exact ⟨_, m32, ne_cr (by unfold szA; decide)⟩
      · exact ⟨_, m33, ne_cr (by unfold szA; decide)⟩
      · exact ⟨_, m34, ne_cr (by unfold szA; decide)⟩
      · exact ⟨_, m35, ne_cr (by unfold szA; decide)⟩
      · exact ⟨_, m36, ne_cr (by unfold szA; decide)⟩
      · exact ⟨_, m37, ne_cr (by unfold szA; decide)⟩
theorem law_walk {g : xG} {k : scT} (hX : okX g) (hL : k.2.1 ≤ 4096) : xl g k (401 * 512 + 79) (2806 * 512 + 33537) 0 [] [] 0 (fun _ => none) := by
  obtain ⟨RC, hRC⟩ : ∃ RC, RC = 401 * 512 := ⟨_, rfl⟩
  obtain ⟨RS, hRS⟩ : ∃ RS, RS = 2806 * 512 := ⟨_, rfl⟩
  refine xl_room (rc' := RC + 1 + 39 + 1 + 37 + 1) (rs' := RS + 1 + 28534 + 61 + 4926 + 15) (by omega) (by omega) ?_
  refine xl_new (rc := RC + 1 + 39 + 1 + 37) (rs := RS + 1 + 28534 + 61 + 4926) (N := 15) dL_law_0 nw_L_8 ?_
  refine xl_dup dL_law_3 rfl ?_
  refine xl_callI (rc := RC + 1 + 39 + 1) (rs := RS + 1 + 28534 + 61) (mc2 := 37) (ms2 := 4926) (As := []) (st := [vR 0]) dL_law_4 mi_L_81 (by decide) (by decide) (Nat.le_of_ble_eq_true rfl) rfl (ct_iX9 (xup_s _ _ _) (fun F1 k1 b1 l1 => ?_))
  show xl g k (RC + 1 + 39 + 1) (RS + 1 + 28534 + 61) 7 [] [vR 0] 38 F1
  refine xl_astore_n dL_law_7 (by decide) (by decide) ?_
  refine xl_new (rc := RC + 1 + 39) (rs := RS + 1 + 28534) (N := 61) dL_law_8 nw_L_82 ?_
  refine xl_dup dL_law_11 rfl ?_
  refine xl_callI (rc := RC + 1) (rs := RS + 1) (mc2 := 39) (ms2 := 28534) (As := []) (st := [vR 38]) dL_law_12 mi_L_84 (by decide) (by decide) (Nat.le_of_ble_eq_true rfl) rfl (ct_iX10 (xup_s _ _ _) (fun F2 k2 b2 l2 => ?_))
  show xl g k (RC + 1) (RS + 1) 15 [(1, vR 0)] [vR 38] 78 F2
  refine xl_astore_n dL_law_15 (by decide) (by decide) ?_
  refine xl_iconst dL_law_16 ?_
  refine xl_newa (rc := RC) (rs := RS) (N := 1) (t := 1) (c9 := .inr (.inl (fun _ => 0))) dL_law_17 rfl rfl ac_long rfl (by decide) (by decide) (fun B cA => rfl) ?_
  refine xl_astore_n dL_law_19 (by decide) (by decide) ?_
  refine xl_iconst dL_law_20 ?_
  refine xl_istore dL_law_21 (by decide) (by decide) ?_
  rw [hRC, hRS]
  have q0 : xup F2 78 (aL 1 (fun _ => 0)) 0 = some (.inr (9, fX9 0 0 0 0 0 0)) := (xup_n _ _ (by decide)).trans ((k2 0 (by decide)).trans ((xup_n _ _ (by decide)).trans b1))
  have q38 : xup F2 78 (aL 1 (fun _ => 0)) 38 = some (.inr (10, fX10 0 0 0 0 0 0 1 0 0 0 0 0 0 0 0 0 0 0 0 0 0 0)) := (xup_n _ _ (by decide)).trans b2
  have hM := MS_0 q38 (lyd_fr _ _ l2 (fun k9 h1 h2 => xup_n _ _ (by omega)))
  have hC := CS_0 q0 (lyd_fr _ _ l1 (fun k9 h1 h2 => (xup_n _ _ (by omega)).trans ((k2 k9 (by omega)).trans (xup_n _ _ (by omega))))) hM (xup_s _ _ _) (fun k9 h => (xup_n _ _ (by omega)).trans ((k2 k9 (by omega)).trans ((xup_n _ _ (by omega)).trans ((k1 k9 (by omega)).trans (xup_n _ _ (by omega))))))
  exact xl_ls [(1, vR 0), (2, vR 38), (3, vR 78), (4, vI ((0 : Nat) : Int))] ⟨rfl, rfl, rfl, rfl, trivial⟩ (lc_loop hX hL 512 0 79 _ S0s (by omega) (by decide) ⟨hC, ⟨0, hM⟩, _, xup_s _ _ _⟩ (fun s t hs => absurd hs (Nat.not_lt_zero s)))
