/-! methods with a table of their own: start, calls within a try, calls of them -/
def xHc (y : xM) (hp : Nat) (z : Int) : Prop := (∃ i : Fin 4, decode (mB y) hp = .ok (.astore_n i, 1) ∧ (i : Nat) < mL y ∧ decode (mB y) (hp + 1) = .ok (.iconst z, 1) ∧ decode (mB y) (hp + 1 + 1) = .ok (.ireturn, 1)) ∨ ∃ i : Nat, decode (mB y) hp = .ok (.astore i, 2) ∧ i < mL y ∧ decode (mB y) (hp + 2) = .ok (.iconst z, 1) ∧ decode (mB y) (hp + 2 + 1) = .ok (.ireturn, 1)
/-- an exception E out of a call at pc: the table's first fitting clause, and the number that it answers -/
def xHd (g : xG) (y : xM) (pc : Nat) (E : String) (z : Int) : Prop := ∃ (pre : List ExceptionTableEntry) (x : ExceptionTableEntry) (rest : List ExceptionTableEntry), tableOf (mH y) = pre ++ x :: rest ∧ (∀ y' ∈ pre, covers y' pc = true ∧ y'.catchType ≠ 0 ∧ ∃ nm, xin (.classLink (mN y).cls y'.catchType nm) ∧ va_Nc E nm (g0 g)) ∧ covers x pc = true ∧ x.catchType ≠ 0 ∧ (∃ nm, xin (.classLink (mN y).cls x.catchType nm) ∧ Cond.castable E nm ∈ lw_tbl) ∧ xHc y x.handlerPc z
abbrev xKC (g : xG) (y : xM) (Q : xP) (rc rs pc : Nat) (ls : xS) (st : List xV) : xP := fun o n f => match o with
  | .inl v => xw g y Q rc rs (pc + 3) ls (v.toList ++ st) n f
  | .inr E => ∃ z, xHd g y pc E z ∧ Q (.inl (some (vI z))) n f
section Cb1
variable {g : xG} {y : xM} {Q : xP} {rc rs pc : Nat} {ls : xS} {st : List xV} {n : Nat} {f : xH}
theorem xct_ofH {mc ms : Nat} {As : List xV} (hy : plainName (mN y).cls = true) (hh : mcode y = .codeWith (mN y) (mB y) (mL y) (mT y) (mH y)) (hlen : (As.map xcat).sum ≤ mL y) (h : xw g y Q mc ms 0 (xla 0 As) [] n f) : xct g y mc ms As n f Q := by
  intro hG
  refine vx_ofWH (cc := mB y) (maxL := mL y) (ret := mT y) (hh := mH y) (ws' := []) hy (by rw [hh]) ?_
  intro p e s m args below meth c s1 B hml hv
  obtain ⟨hargs, hR, hW⟩ := hv
  have hts := atoms_spec (ws := [mcode y]) B.pre
  have htb : c.exceptionTable.toList = tableOf (mH y) := vx_table (x := mN y) B (by have := hts _ (List.mem_singleton.2 rfl); rw [hh] at this; exact this)
  have hl := lv_entry (As.map (xcv (gB g))) (n := mL y) (by
    have : (lg_sl (As.map (xcv (gB g)))).length = (As.map xcat).sum := by
      rw [← xcats (gB g) As]
      unfold lg_sl
      rw [List.length_flatMap]
      congr 1
      apply List.map_congr_left
      intro v _
      rcases lv_cat v with h1 | h1 <;> simp [h1]
    omega)
  rw [hargs, lg_entry_eq]
  rw [← xla_map] at hl
  have hn := name_of_methodNamed B.named B.method
  exact h hG p e s m _ below meth c s.heap [] mc ms 0 0 _ ⟨B.exec, B.bytes, B.returns, hml, findClass_of_methodNamed B.named, B.notSynchronized, hn.1, htb, hW, by rw [hR.1]; omega, hR.2.1⟩ hR (Nat.le_refl _) (fun z hz => by cases hz) (by omega) (by omega) hl
theorem xw_callVC {idx a ci mc2 ms2 : Nat} {fs : Nat → xV} {As sk : List xV} {y2 : xM} (hd : decode (mB y) pc = .ok (.invokevirtual idx, 3)) (hm : xMV (mN y).cls idx As.length y2) (ha : f a = some (.inr (ci, fs))) (hci : (xcl[ci]?).map (fun q => q.1) = some (mN y2).cls) (ht : mT y = some .int) (hfr : mF y2 + 1 ≤ mF y) (hlo2 : 8 + (mL y2 + 11) + mW y2 ≤ mW y) (hst : (st.map xcat).sum ≤ 8) (hsk : sk = As.reverse ++ vR a :: st)
    (ct : xct g y2 mc2 ms2 (vR a :: As) n f (xKC g y Q rc rs pc ls st)) : xw g y Q (rc + mc2) (rs + ms2) pc ls sk n f := by
  intro hG p e s m args below meth c H locs mc ms cells slots A C hR hZ hlo hc hs hl
  obtain ⟨hx, hb, hr, hml, hown, hlk, hnm, htb, hW, hB, hbot⟩ := id C
  obtain ⟨hmc, hm1, hm2, hm3⟩ := hm
  have hS : CallFix p m c (mB y) (mL y) s args [] (mN y).cls := ⟨hx, hb, hml, hown, fun _ h => by cases h⟩
  have hcd := xMc_code hmc
  have cw : CallW (xroom y mc ms) s args (mN y).cls (mN y2).cls idx (mN y2) (mB y2) (mL y2) (mT y2) [mcode y2] (xroom y2 mc2 ms2) mc2 ms2 As.length :=
    ⟨⟨rfl, rfl, hfr, hlo2, fun w hw a9 U hU => by rw [List.mem_singleton.mp hw, hcd]; exact xgw hG hmc.2.1 (State.WarmedH.trans hW hU), by rw [hcd]; exact List.mem_cons_self, xgw hG hmc.2.1 hW, xgw hG hmc.2.2.1 hW, hmc.2.2.2.1, xMc_len hmc, xgw hG hm1 hW⟩, xgw hG hm2 hW, xgw hG hm3 hW⟩
  obtain ⟨r, hr1, cell, q1, q2, q3, q4⟩ := (hR.2.2 a _ ha).2
  have hrc : r.1 = (mN y2).cls := by rw [hr1] at hci; exact Option.some.inj hci
  have hp : PreV s H (mN y2).cls (gB g + a) (xPc g (vR a :: As) n f) (As.map (xcv (gB g))) :=
    ⟨fun a9 U g9 mk q => q, ⟨cell, q1, by rw [q3]; rfl, by rw [q2, ← hrc]; exact ((xKn hG hW).1 ci r hr1).2.1⟩, fun U hU hWU => ⟨rfl, by rw [hU]; exact hR, State.WarmedH.trans hW hWU⟩⟩
  have hrun := vx_runV (e := e) (below := below) (meth := meth) (locs := locs) (g := F0 m pc A (sk.map (xcv (gB g)))) (rest := st.map (xcv (gB g))) hS (ct hG) cw hp rfl (List.length_map ..) hl.1 (by rw [hsk, List.map_append, List.map_reverse]; rfl) (lv_room (by rw [xcats]; exact hst)) hd ⟨by show cells + mc2 ≤ mc; omega, by show slots + ms2 ≤ ms; omega⟩
  intro T hT X
  rcases hrun T hT X with ⟨v, st0, t, T1, L, h0, X1, hL, e1, e2, hq, hgo⟩ | ⟨q, st0, t, T1, L, E, ce, h0, X1, hL, e1, e2, hq, hce, hcv, hcl, hgo⟩
  · exact xbehind hG C hlo hc hs hl X1 hL e1 (fun _ _ _ h => h) hq _ hgo
  · obtain ⟨n1, f1, hR1, z, ⟨pre, x, rest, hsp, hpre, hxc, hx0, ⟨nm, hlnk, hcas⟩, hcode⟩, hQ1⟩ := hq
    obtain ⟨c0, t0, w1, w2, w3⟩ := Cond.castable_spec (va_Nw.use (A := args) rfl (va_Nw.warmC hW (va_Nw.of rfl (hG.1 _ hcas))))
    have hc0 : c0 = ce.cls := Option.some.inj (w1.symm.trans hcl)
    subst hc0
    obtain ⟨vm', X2, hstep⟩ := xf_catch X1 (g := F0 m pc A (st.map (xcv (gB g)))) (q := q) (cell := ce) (own := (mN y).cls) (E := E) rfl hown (by rw [e1]; exact hce) (by rw [hcv]; rfl) hcl pre x rest (htb.trans hsp) (fun y' hy' => by
      obtain ⟨a1, a2, nm', a3, a4⟩ := hpre y' hy'
      exact ⟨a1, a2, nm', xgw hG a3 hW, a4.moved hW.alike⟩) hxc hx0 (xgw hG hlnk hW) w2 w3
    have fin : ∀ (A' : Array Slot) (pc' : Nat), decode (mB y) pc' = .ok (.iconst z, 1) → decode (mB y) (pc' + 1) = .ok (.ireturn, 1) → W p (gl g) e (xroom y mc ms) s m args below meth c T1.heap (locs ++ L) (cells + mc2) (slots + ms2) (vx_MQ below (xQr g Q) (xXr g Q) args s mc ms (gF g)) (F0 m pc' A' []) := by
      intro A' pc' h1 h2
      refine lv_iconst (v := Int32.ofInt z) hx hb h1 rfl ?_
      refine W.widen (k := mc) (n := ms) (by omega) (by omega) (vx_ret ?_)
      exact W.iret (v := Int32.ofInt z) hx hb (hr.trans ht) (fun t9 hT9 _ => ⟨some (vI z), n1, f1, rfl, by rw [hT9, e1]; exact hR1, hQ1⟩) (fun z hz => (List.mem_append.mp hz).elim (hlo z) (hL z)) h2 hlk
    have K : W p (gl g) e (xroom y mc ms) s m args below meth c T1.heap (locs ++ L) (cells + mc2) (slots + ms2) (vx_MQ below (xQr g Q) (xXr g Q) args s mc ms (gF g)) (F0 m x.handlerPc A [.ref q]) := by
      rcases hcode with ⟨i, d1, d2, d3, d4⟩ | ⟨i, d1, d2, d3, d4⟩
      · exact lv_astore_n hx hb d1 rfl hl d2 rfl (fun A' _ => fin A' _ d3 d4)
      · exact lv_astore hx hb d1 hl d2 rfl (fun A' _ => fin A' _ d3 d4)
    obtain ⟨t2, a1, b1⟩ := K (T1.setVm vm') rfl X2
    exact ⟨t2, hgo.trans (hstep t2 a1), b1⟩
/-- a call of a method that has a table, and lets nothing out -/
def xMSW (own : String) (idx nA : Nat) (y2 : xM) : Prop := mcode y2 = .codeWith (mN y2) (mB y2) (mL y2) (mT y2) (mH y2) ∧ xin (.codeWith (mN y2) (mB y2) (mL y2) (mT y2) (mH y2)) ∧ xin (.initialized (mN y2).cls) ∧ ((mN y2).cls ≠ "java/lang/invoke/MethodHandle" ∧ (mN y2).cls ≠ "java/lang/invoke/VarHandle") ∧ (parseMethodDescriptor (mN y2).desc).map (fun d => d.parameters.length) = some nA ∧ xin (.methodLink own idx (mN y2)) ∧ xin (.static (mN y2))
theorem xw_callSW {idx mc2 ms2 : Nat} {As sk : List xV} {y2 : xM} (hd : decode (mB y) pc = .ok (.invokestatic idx, 3)) (hm : xMSW (mN y).cls idx As.length y2) (hfr : mF y2 + 1 ≤ mF y) (hlo2 : 8 + (mL y2 + 11) + mW y2 ≤ mW y) (hst : (st.map xcat).sum ≤ 8) (hsk : sk = As.reverse ++ st)
    (ct : xct g y2 mc2 ms2 As n f (xKI g y Q rc rs (pc + 3) ls st)) : xw g y Q (rc + mc2) (rs + ms2) pc ls sk n f := by
  intro hG p e s m args below meth c H locs mc ms cells slots A C hR hZ hlo hc hs hl
  obtain ⟨hx, hb, hr, hml, hown, hlk, hnm, htb, hW, hB, hbot⟩ := id C
  obtain ⟨hcd, hm1, hm2, hm3, hm4, hm5, hm6⟩ := hm
  have hS : CallFix p m c (mB y) (mL y) s args [] (mN y).cls := ⟨hx, hb, hml, hown, fun _ h => by cases h⟩
  have cw : vx_CSW (xroom y mc ms) s args (mN y).cls idx (mN y2) (mB y2) (mL y2) (mT y2) (mH y2) [mcode y2] (xroom y2 mc2 ms2) mc2 ms2 As.length :=
    ⟨⟨rfl, rfl, hfr, hlo2, fun w hw a9 U hU => by rw [List.mem_singleton.mp hw, hcd]; exact xgw hG hm1 (State.WarmedH.trans hW hU), by rw [hcd]; exact List.mem_cons_self⟩, xgw hG hm1 hW, xgw hG hm2 hW, hm3, fun sig hs => by
      rw [hs] at hm4
      exact (Option.some.inj hm4).symm, xgw hG hm5 hW, xgw hG hm6 hW⟩
  have hp : PreS s H (xPc g As n f) (As.map (xcv (gB g))) := ⟨fun a9 U g9 mk q => q, fun U hU hWU => ⟨rfl, by rw [hU]; exact hR, State.WarmedH.trans hW hWU⟩⟩
  have hrun := vx_runSX (e := e) (below := below) (meth := meth) (locs := locs) (g := F0 m pc A (sk.map (xcv (gB g)))) (rest := st.map (xcv (gB g))) hS (ct hG) cw hp rfl (List.length_map ..) hl.1 (by rw [hsk, List.map_append, List.map_reverse]) (lv_room (by rw [xcats]; exact hst)) hd ⟨by show cells + mc2 ≤ mc; omega, by show slots + ms2 ≤ ms; omega⟩
  intro T hT X
  rcases hrun T hT X with ⟨v, st0, t, T1, L, h0, X1, hL, e1, e2, hq, hgo⟩ | ⟨q, st0, t, T1, L, E, ce, h0, X1, hL, e1, e2, hq, hce, hcv, hcl, hgo⟩
  · exact xbehind hG C hlo hc hs hl X1 hL e1 (fun _ _ _ h => h) hq _ hgo
  · obtain ⟨n1, f1, hR1, hQ1⟩ := hq
    exact hQ1.elim
end Cb1
