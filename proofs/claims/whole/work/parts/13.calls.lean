/-! ends, calls, and a method's start -/
theorem xcats (B : Nat) (st : List xV) : (st.map (xcv B)).map (fun v => v.category) = st.map xcat := by
  rw [List.map_map]
  exact List.map_congr_left (fun v _ => xcat_eq B v)
theorem xgrow {p : Program} {l : Launch} {e : Env} {R : Room} {s : State} {m : MethodId} {args : Array Value} {below : List Frame} {meth : Method} {c : Code} {T : State} {locs : List Loc} {cells slots : Nat} (X : Stand p l e R s m args below meth c T locs cells slots) : s.heap.size ≤ T.heap.size := (vx_frame X.same).1
section XK
variable {g : xG} {y : xM} {Q : xP} {rc rs pc : Nat} {ls : xS} {st : List xV} {n : Nat} {f : xH}
theorem xw_iret {z : Int} (hd : decode (mB y) pc = .ok (.ireturn, 1)) (ht : mT y = some .int) (hq : Q (.inl (some (vI z))) n f) : xw g y Q rc rs pc ls [vI z] n f := by
  intro hG p e s m args below meth c H locs mc ms cells slots A C hR hZ hlo hc hs hl
  refine W.widen (k := mc) (n := ms) (by omega) (by omega) (vx_ret ?_)
  exact W.iret (v := Int32.ofInt z) C.1 C.2.1 (C.2.2.1.trans ht) (fun t hT _ => ⟨some (vI z), n, f, rfl, by rw [hT]; exact hR, hq⟩) hlo hd C.2.2.2.2.2.1
theorem xw_zret {z : Int} (hd : decode (mB y) pc = .ok (.ireturn, 1)) (ht : mT y = some .boolean) (hn : narrow .boolean (.int (Int32.ofInt z)) = .int (Int32.ofInt z)) (hq : Q (.inl (some (vI z))) n f) : xw g y Q rc rs pc ls [vI z] n f := by
  intro hG p e s m args below meth c H locs mc ms cells slots A C hR hZ hlo hc hs hl
  refine W.widen (k := mc) (n := ms) (by omega) (by omega) (vx_ret ?_)
  exact W.zret (v := Int32.ofInt z) C.1 C.2.1 (C.2.2.1.trans ht) hn (fun t hT _ => ⟨some (vI z), n, f, rfl, by rw [hT]; exact hR, hq⟩) hlo hd C.2.2.2.2.2.1
theorem xw_lret {z : Int} (hd : decode (mB y) pc = .ok (.lreturn, 1)) (ht : mT y = some .long) (hq : Q (.inl (some (vL z))) n f) : xw g y Q rc rs pc ls [vL z] n f := by
  intro hG p e s m args below meth c H locs mc ms cells slots A C hR hZ hlo hc hs hl
  refine W.widen (k := mc) (n := ms) (by omega) (by omega) (vx_ret ?_)
  exact W.lret (v := Int64.ofInt z) C.1 C.2.1 (C.2.2.1.trans ht) (fun t hT _ => ⟨some (vL z), n, f, rfl, by rw [hT]; exact hR, hq⟩) hlo hd C.2.2.2.2.2.1
theorem xw_aret {o : Option Nat} {D : String} (hd : decode (mB y) pc = .ok (.areturn, 1)) (ht : mT y = some (.object D)) (hq : Q (.inl (some (vQ o))) n f) : xw g y Q rc rs pc ls [vQ o] n f := by
  intro hG p e s m args below meth c H locs mc ms cells slots A C hR hZ hlo hc hs hl
  refine W.widen (k := mc) (n := ms) (by omega) (by omega) (vx_ret ?_)
  exact W.aret (v := xcv (gB g) (vQ o)) C.1 C.2.1 (C.2.2.1.trans ht) (Or.inl ⟨D, rfl⟩) (by rw [xcv_q]; exact va_rf_or _) (fun t hT _ => ⟨some (vQ o), n, f, rfl, by rw [hT]; exact hR, hq⟩) hlo hd C.2.2.2.2.2.1
theorem xw_vret (hd : decode (mB y) pc = .ok (.return_, 1)) (ht : mT y = none) (hq : Q (.inl none) n f) : xw g y Q rc rs pc ls [] n f := by
  intro hG p e s m args below meth c H locs mc ms cells slots A C hR hZ hlo hc hs hl
  refine W.widen (k := mc) (n := ms) (by omega) (by omega) (vx_ret ?_)
  exact W.vret C.1 C.2.1 (C.2.2.1.trans ht) (fun t hT _ => ⟨none, n, f, rfl, by rw [hT]; exact hR, hq⟩) hlo hd C.2.2.2.2.2.1
/-- what comes behind a call -/
abbrev xK (g : xG) (y : xM) (Q : xP) (rc rs pc : Nat) (ls : xS) (st : List xV) : xP := fun o n f => match o with
  | .inl v => xw g y Q rc rs pc ls (v.toList ++ st) n f
  | .inr E => Q (.inr E) n f
abbrev xKI (g : xG) (y : xM) (Q : xP) (rc rs pc : Nat) (ls : xS) (st : List xV) : xP := fun o n f => match o with
  | .inl v => xw g y Q rc rs pc ls (v.toList ++ st) n f
  | .inr _ => False
def xMc (nA : Nat) (y2 : xM) : Prop := mH y2 = [] ∧ xin (.code (mN y2) (mB y2) (mL y2) (mT y2)) ∧ xin (.initialized (mN y2).cls) ∧ ((mN y2).cls ≠ "java/lang/invoke/MethodHandle" ∧ (mN y2).cls ≠ "java/lang/invoke/VarHandle") ∧ (parseMethodDescriptor (mN y2).desc).map (fun d => d.parameters.length) = some nA
def xMV (own : String) (idx nA : Nat) (y2 : xM) : Prop := xMc nA y2 ∧ xin (.methodLink own idx (mN y2)) ∧ xin (.instanceMethod (mN y2)) ∧ xin (.selects (mN y2).cls (mN y2) (mN y2))
def xMS (own : String) (idx nA : Nat) (y2 : xM) : Prop := xMc nA y2 ∧ xin (.methodLink own idx (mN y2)) ∧ xin (.static (mN y2))
def xMSN (own : String) (idx nA : Nat) (y2 : xM) : Prop := xMc nA y2 ∧ (∃ host : String, Cond.methodLinkNest own idx (mN y2) host ∈ lw_tbl) ∧ xin (.static (mN y2))
def xMI (own : String) (idx nA : Nat) (y2 : xM) : Prop := xMc nA y2 ∧ (mN y2).name = "<init>" ∧ mT y2 = none ∧ xin (.instanceMethod (mN y2)) ∧ (xin (.methodLink own idx (mN y2)) ∨ ∃ host : String, Cond.methodLinkNest own idx (mN y2) host ∈ lw_tbl)
theorem xMc_code {nA : Nat} {y2 : xM} (h : xMc nA y2) : mcode y2 = Cond.code (mN y2) (mB y2) (mL y2) (mT y2) := by
  unfold mcode
  rw [h.1]
theorem xMc_len {nA : Nat} {y2 : xM} (h : xMc nA y2) : ∀ sig, parseMethodDescriptor (mN y2).desc = some sig → nA = sig.parameters.length := by
  intro sig hs
  have h2 := h.2.2.2.2
  rw [hs] at h2
  exact (Option.some.inj h2).symm
/-- behind a call that returns -/
theorem xbehind {p : Program} {e : Env} {s : State} {m : MethodId} {args : Array Value} {below : List Frame} {meth : Method} {c : Code} {locs L : List Loc} {mc ms cells slots mc2 ms2 : Nat} {A : Array Slot} {t T T1 : State} {v : Option Value}
    (hG : okG g) (C : xC g y p s m meth c) (hlo : ∀ z ∈ locs, gF g z.base) (hc : cells + (rc + mc2) ≤ mc) (hs : slots + (rs + ms2) ≤ ms) (hl : xL g (mL y) ls A) (X : Stand p (gl g) e (xroom y mc ms) s m args below meth c T1 (locs ++ L) (cells + mc2) (slots + ms2)) (hL : ∀ z ∈ L, gF g z.base) (e1 : T1.heap = t.heap)
    {K : xP} (hK : ∀ v n f, K (.inl v) n f → xw g y Q rc rs (pc + 3) ls (v.toList ++ st) n f) {a : Array Value} {st0 : State} (hq : xQr g K a st0 (.returned v) t) (F : JFrame)
    (hgo : ∀ tg, Steps p.tables e below (T1.setTop (F0 m (pc + 3) A (v.toList ++ st.map (xcv (gB g))))) tg → Steps p.tables e below (T.setTop F) tg) : ∃ t2, Steps p.tables e below (T.setTop F) t2 ∧ vx_MQ below (xQr g Q) (xXr g Q) args s mc ms (gF g) t2 := by
  obtain ⟨v1, n1, f1, ev, hR1, hQ1⟩ := hq
  have ev1 : v = v1.map (xcv (gB g)) := Outcome.returned.inj ev
  have hlo1 : ∀ z ∈ locs ++ L, gF g z.base := fun z hz => (List.mem_append.mp hz).elim (hlo z) (hL z)
  obtain ⟨t2, a1, b1⟩ := hK v1 n1 f1 hQ1 hG p e s m args below meth c T1.heap (locs ++ L) mc ms (cells + mc2) (slots + ms2) A C (by rw [e1]; exact hR1) (xgrow X) hlo1 (by omega) (by omega) hl T1 rfl X
  refine ⟨t2, hgo t2 ?_, b1⟩
  subst ev1
  cases v1 with
  | none => exact a1
  | some w => exact a1
theorem xw_callV {idx a ci mc2 ms2 : Nat} {fs : Nat → xV} {As sk : List xV} {y2 : xM} (hd : decode (mB y) pc = .ok (.invokevirtual idx, 3)) (hm : xMV (mN y).cls idx As.length y2) (ha : f a = some (.inr (ci, fs))) (hci : (xcl[ci]?).map (fun q => q.1) = some (mN y2).cls) (hh : mH y = []) (hfr : mF y2 + 1 ≤ mF y) (hlo2 : 8 + (mL y2 + 11) + mW y2 ≤ mW y) (hst : (st.map xcat).sum ≤ 8) (hsk : sk = As.reverse ++ vR a :: st)
    (ct : xct g y2 mc2 ms2 (vR a :: As) n f (xK g y Q rc rs (pc + 3) ls st)) : xw g y Q (rc + mc2) (rs + ms2) pc ls sk n f := by
  intro hG p e s m args below meth c H locs mc ms cells slots A C hR hZ hlo hc hs hl
  obtain ⟨hx, hb, hr, hml, hown, hlk, hnm, htb, hW, hB, hbot⟩ := id C
  obtain ⟨hmc, hm1, hm2, hm3⟩ := hm
  have hS : CallFix p m c (mB y) (mL y) s args [] (mN y).cls := ⟨hx, hb, hml, hown, fun _ h => by cases h⟩
  have hcd := xMc_code hmc
  have cw : CallW (xroom y mc ms) s args (mN y).cls (mN y2).cls idx (mN y2) (mB y2) (mL y2) (mT y2) [mcode y2] (xroom y2 mc2 ms2) mc2 ms2 As.length :=
    ⟨⟨rfl, rfl, hfr, hlo2, fun w hw a9 U hU => by rw [List.mem_singleton.mp hw, hcd]; exact xgw hG hmc.2.1 (State.WarmedH.trans hW hU), by rw [hcd]; exact List.mem_cons_self, xgw hG hmc.2.1 hW, xgw hG hmc.2.2.1 hW, hmc.2.2.2.1, xMc_len hmc, xgw hG hm1 hW⟩, xgw hG hm2 hW, xgw hG hm3 hW⟩
  obtain ⟨r, hr1, cell, q1, q2, q3, q4⟩ := (hR.2.2 a _ ha).2
  have hrc : r.1 = (mN y2).cls := by rw [hr1] at hci; exact Option.some.inj hci
  have hp : PreV s H (mN y2).cls (gB g + a) (xPc g (vR a :: As) n f) (As.map (xcv (gB g))) :=
    ⟨fun a9 U g9 mk q => q, ⟨cell, q1, by rw [q3]; rfl, by rw [q2, ← hrc]; exact ((xKn hG hW).1 ci r hr1).2.1⟩, fun U hU hWU => ⟨rfl, by rw [hU]; exact hR, State.WarmedH.trans hW hWU⟩⟩
  have hrun := vx_runV (e := e) (below := below) (meth := meth) (locs := locs) (g := F0 m pc A (sk.map (xcv (gB g)))) (rest := st.map (xcv (gB g))) hS (ct hG) cw hp rfl (List.length_map ..) hl.1 (by rw [hsk, List.map_append, List.map_reverse]; rfl) (lv_room (by rw [xcats]; exact hst)) hd ⟨by show cells + mc2 ≤ mc; omega, by show slots + ms2 ≤ ms; omega⟩
  intro T hT X
  rcases hrun T hT X with ⟨v, st0, t, T1, L, h0, X1, hL, e1, e2, hq, hgo⟩ | ⟨q, st0, t, T1, L, E, ce, h0, X1, hL, e1, e2, hq, hce, hcv, hcl, hgo⟩
  · exact xbehind hG C hlo hc hs hl X1 hL e1 (fun _ _ _ h => h) hq _ hgo
  · obtain ⟨n1, f1, hR1, hQ1⟩ := hq
    have K : vx_W p (gl g) e (xroom y mc ms) s m args below meth c T1.heap (locs ++ L) (cells + mc2) (slots + ms2) (vx_MQ below (xQr g Q) (xXr g Q) args s mc ms (gF g)) (F0 m pc A (st.map (xcv (gB g)))) q :=
      vx_out (E := E) (ce := ce) (fun z hz => by rw [htb, hh] at hz; cases hz) hlk (by rw [e1]; exact hce) hcv hcl (fun t9 ht9 _ => ⟨n1, f1, by rw [ht9, e1]; exact hR1, hQ1⟩) (fun z hz => (List.mem_append.mp hz).elim (hlo z) (hL z)) (by omega) (by omega)
    obtain ⟨t2, a1, b1⟩ := K T1 rfl X1
    exact ⟨t2, hgo.trans a1, b1⟩
theorem xw_callS {idx mc2 ms2 : Nat} {As sk : List xV} {y2 : xM} (hd : decode (mB y) pc = .ok (.invokestatic idx, 3)) (hm : xMS (mN y).cls idx As.length y2) (hh : mH y = []) (hfr : mF y2 + 1 ≤ mF y) (hlo2 : 8 + (mL y2 + 11) + mW y2 ≤ mW y) (hst : (st.map xcat).sum ≤ 8) (hsk : sk = As.reverse ++ st)
    (ct : xct g y2 mc2 ms2 As n f (xK g y Q rc rs (pc + 3) ls st)) : xw g y Q (rc + mc2) (rs + ms2) pc ls sk n f := by
  intro hG p e s m args below meth c H locs mc ms cells slots A C hR hZ hlo hc hs hl
  obtain ⟨hx, hb, hr, hml, hown, hlk, hnm, htb, hW, hB, hbot⟩ := id C
  obtain ⟨hmc, hm1, hm2⟩ := hm
  have hS : CallFix p m c (mB y) (mL y) s args [] (mN y).cls := ⟨hx, hb, hml, hown, fun _ h => by cases h⟩
  have hcd := xMc_code hmc
  have cw : CallB (xroom y mc ms) s args (mN y).cls idx (mN y2) (mB y2) (mL y2) (mT y2) [mcode y2] (xroom y2 mc2 ms2) mc2 ms2 As.length ∧ (Cond.static (mN y2)).before args s = true :=
    ⟨⟨rfl, rfl, hfr, hlo2, fun w hw a9 U hU => by rw [List.mem_singleton.mp hw, hcd]; exact xgw hG hmc.2.1 (State.WarmedH.trans hW hU), by rw [hcd]; exact List.mem_cons_self, xgw hG hmc.2.1 hW, xgw hG hmc.2.2.1 hW, hmc.2.2.2.1, xMc_len hmc, xgw hG hm1 hW⟩, xgw hG hm2 hW⟩
  have hp : PreS s H (xPc g As n f) (As.map (xcv (gB g))) := ⟨fun a9 U g9 mk q => q, fun U hU hWU => ⟨rfl, by rw [hU]; exact hR, State.WarmedH.trans hW hWU⟩⟩
  have hrun := vx_runS (e := e) (below := below) (meth := meth) (locs := locs) (g := F0 m pc A (sk.map (xcv (gB g)))) (rest := st.map (xcv (gB g))) hS (ct hG) cw hp rfl (List.length_map ..) hl.1 (by rw [hsk, List.map_append, List.map_reverse]) (lv_room (by rw [xcats]; exact hst)) hd ⟨by show cells + mc2 ≤ mc; omega, by show slots + ms2 ≤ ms; omega⟩
  intro T hT X
  rcases hrun T hT X with ⟨v, st0, t, T1, L, h0, X1, hL, e1, e2, hq, hgo⟩ | ⟨q, st0, t, T1, L, E, ce, h0, X1, hL, e1, e2, hq, hce, hcv, hcl, hgo⟩
  · exact xbehind hG C hlo hc hs hl X1 hL e1 (fun _ _ _ h => h) hq _ hgo
  · obtain ⟨n1, f1, hR1, hQ1⟩ := hq
    have K : vx_W p (gl g) e (xroom y mc ms) s m args below meth c T1.heap (locs ++ L) (cells + mc2) (slots + ms2) (vx_MQ below (xQr g Q) (xXr g Q) args s mc ms (gF g)) (F0 m pc A (st.map (xcv (gB g)))) q :=
      vx_out (E := E) (ce := ce) (fun z hz => by rw [htb, hh] at hz; cases hz) hlk (by rw [e1]; exact hce) hcv hcl (fun t9 ht9 _ => ⟨n1, f1, by rw [ht9, e1]; exact hR1, hQ1⟩) (fun z hz => (List.mem_append.mp hz).elim (hlo z) (hL z)) (by omega) (by omega)
    obtain ⟨t2, a1, b1⟩ := K T1 rfl X1
    exact ⟨t2, hgo.trans a1, b1⟩
/-- a contract without throws -/
theorem xct_met {y2 : xM} {mc2 ms2 : Nat} {As : List xV} {K : xP} (h : xct g y2 mc2 ms2 As n f K) (hno : ∀ E n f, ¬ K (.inr E) n f) (hG : okG g) : Met (gl g) (mN y2) [mcode y2] (xroom y2 mc2 ms2) (xPc g As n f) (xQr g K) mc2 ms2 (gF g) := by
  intro p e ha hc hk s m args below hf happ hP hK
  obtain ⟨k, o, h1, h2, h3, hQ⟩ := h hG p e ha hc hk s m args below hf happ hP hK
  refine ⟨k, o, h1, h2, h3, ?_⟩
  rcases hQ with hQ | ⟨q, -, E, ce, L, ⟨n1, f1, -, hQ1⟩, -⟩
  · exact hQ
  · exact absurd hQ1 (hno E n1 f1)
theorem xw_callI {idx a mc2 ms2 : Nat} {As sk : List xV} {y2 : xM} (hd : decode (mB y) pc = .ok (.invokespecial idx, 3)) (hm : xMI (mN y).cls idx As.length y2) (hfr : mF y2 + 1 ≤ mF y) (hlo2 : 8 + (mL y2 + 11) + mW y2 ≤ mW y) (hst : (st.map xcat).sum ≤ 8) (hsk : sk = As.reverse ++ vR a :: st)
    (ct : xct g y2 mc2 ms2 (vR a :: As) n f (xKI g y Q rc rs (pc + 3) ls st)) : xw g y Q (rc + mc2) (rs + ms2) pc ls sk n f := by
  intro hG p e s m args below meth c H locs mc ms cells slots A C hR hZ hlo hc hs hl
  obtain ⟨hx, hb, hr, hml, hown, hlk, hnm, htb, hW, hB, hbot⟩ := id C
  obtain ⟨hmc, hmn, hmt, hm2, hm1⟩ := hm
  have hS : CallFix p m c (mB y) (mL y) s args [] (mN y).cls := ⟨hx, hb, hml, hown, fun _ h => by cases h⟩
  have hcd := xMc_code hmc
  rw [hmt] at hcd
  have hcode : xin (.code (mN y2) (mB y2) (mL y2) none) := by have := hmc.2.1; rwa [hmt] at this
  have hp : PreS s H (xPc g (vR a :: As) n f) (.ref (gB g + a) :: As.map (xcv (gB g))) := ⟨fun a9 U g9 mk q => q, fun U hU hWU => ⟨rfl, by rw [hU]; exact hR, State.WarmedH.trans hW hWU⟩⟩
  have hws : ∀ w ∈ [mcode y2], ∀ (a9 : Array Value) (U : State), s.WarmedH U.vm → w.before a9 U = true := fun w hw a9 U hU => by rw [List.mem_singleton.mp hw, hcd]; exact xgw hG hcode (State.WarmedH.trans hW hU)
  have hin : Cond.code (mN y2) (mB y2) (mL y2) none ∈ [mcode y2] := by rw [hcd]; exact List.mem_cons_self
  have hM := xct_met ct (fun _ _ _ h => h) hG
  have hsk2 : (F0 m pc A (sk.map (xcv (gB g)))).stack = (As.map (xcv (gB g))).reverse ++ .ref (gB g + a) :: st.map (xcv (gB g)) := by
    show sk.map (xcv (gB g)) = _
    rw [hsk, List.map_append, List.map_reverse]; rfl
  have hrun : va_Run p (gl g) e (xroom y mc ms) s m args below meth c H locs cells slots mc2 ms2 (F0 m pc A (sk.map (xcv (gB g)))) (st.map (xcv (gB g))) (xQr g (xKI g y Q rc rs (pc + 3) ls st) (Value.ref (gB g + a) :: As.map (xcv (gB g))).toArray) (gF g) := by
    rcases hm1 with hm1 | ⟨host, hm1⟩
    · exact va_runI (n := As.length) hS hM ⟨⟨rfl, rfl, hfr, hlo2, hws, hin, xgw hG hcode hW, xgw hG hmc.2.2.1 hW, hmc.2.2.2.1, xMc_len hmc, xgw hG hm1 hW⟩, hmn, xgw hG hm2 hW⟩ hp rfl (List.length_map ..) hl.1 hsk2 (lv_room (by rw [xcats]; exact hst)) hd ⟨by show cells + mc2 ≤ mc; omega, by show slots + ms2 ≤ ms; omega⟩
    · exact va_runIN (n := As.length) hS hM ⟨⟨⟨rfl, rfl, hfr, hlo2, hws, hin⟩, xgw hG hcode hW, xgw hG hmc.2.2.1 hW, hmc.2.2.2.1, xMc_len hmc, xNstM hG hm1 hW⟩, hmn, xgw hG hm2 hW⟩ hp rfl (List.length_map ..) hl.1 hsk2 (lv_room (by rw [xcats]; exact hst)) hd ⟨by show cells + mc2 ≤ mc; omega, by show slots + ms2 ≤ ms; omega⟩
  intro T hT X
  obtain ⟨v, st0, t, T1, L, h0, X1, hL, e1, e2, hq, hgo⟩ := hrun T hT X
  exact xbehind hG C hlo hc hs hl X1 hL e1 (fun _ _ _ h => h) hq _ hgo
theorem xw_callSN {idx mc2 ms2 : Nat} {As sk : List xV} {y2 : xM} (hd : decode (mB y) pc = .ok (.invokestatic idx, 3)) (hm : xMSN (mN y).cls idx As.length y2) (hfr : mF y2 + 1 ≤ mF y) (hlo2 : 8 + (mL y2 + 11) + mW y2 ≤ mW y) (hst : (st.map xcat).sum ≤ 8) (hsk : sk = As.reverse ++ st)
    (ct : xct g y2 mc2 ms2 As n f (xKI g y Q rc rs (pc + 3) ls st)) : xw g y Q (rc + mc2) (rs + ms2) pc ls sk n f := by
  intro hG p e s m args below meth c H locs mc ms cells slots A C hR hZ hlo hc hs hl
  obtain ⟨hx, hb, hr, hml, hown, hlk, hnm, htb, hW, hB, hbot⟩ := id C
  obtain ⟨hmc, ⟨host, hm1⟩, hm2⟩ := hm
  have hS : CallFix p m c (mB y) (mL y) s args [] (mN y).cls := ⟨hx, hb, hml, hown, fun _ h => by cases h⟩
  have hcd := xMc_code hmc
  have hp : PreS s H (xPc g As n f) (As.map (xcv (gB g))) := ⟨fun a9 U g9 mk q => q, fun U hU hWU => ⟨rfl, by rw [hU]; exact hR, State.WarmedH.trans hW hWU⟩⟩
  have hws : ∀ w ∈ [mcode y2], ∀ (a9 : Array Value) (U : State), s.WarmedH U.vm → w.before a9 U = true := fun w hw a9 U hU => by rw [List.mem_singleton.mp hw, hcd]; exact xgw hG hmc.2.1 (State.WarmedH.trans hW hU)
  have hin : Cond.code (mN y2) (mB y2) (mL y2) (mT y2) ∈ [mcode y2] := by rw [hcd]; exact List.mem_cons_self
  have hrun := va_runSN (e := e) (below := below) (meth := meth) (locs := locs) (R := xroom y mc ms) (cells := cells) (slots := slots) (H := H) (g := F0 m pc A (sk.map (xcv (gB g)))) (rest := st.map (xcv (gB g))) (n := As.length) hS (xct_met ct (fun _ _ _ h => h) hG) ⟨⟨⟨rfl, rfl, hfr, hlo2, hws, hin⟩, xgw hG hmc.2.1 hW, xgw hG hmc.2.2.1 hW, hmc.2.2.2.1, xMc_len hmc, xNstM hG hm1 hW⟩, xgw hG hm2 hW, trivial⟩ hp rfl (List.length_map ..) hl.1 (by rw [hsk, List.map_append, List.map_reverse]) (lv_room (by rw [xcats]; exact hst)) hd ⟨by show cells + mc2 ≤ mc; omega, by show slots + ms2 ≤ ms; omega⟩
  intro T hT X
  obtain ⟨v, st0, t, T1, L, h0, X1, hL, e1, e2, hq, hgo⟩ := hrun T hT X
  exact xbehind hG C hlo hc hs hl X1 hL e1 (fun _ _ _ h => h) hq _ hgo
theorem xw_objInit {idx a : Nat} (hd : decode (mB y) pc = .ok (.invokespecial idx, 3)) (h1 : xin (.methodLink (mN y).cls idx Lib.objectInit)) (h2 : xin (.instanceMethod Lib.objectInit)) (h3 : xin (.code Lib.objectInit ⟨#[0xb1]⟩ 1 none)) (hfr : 1 ≤ mF y) (hw : 20 ≤ mW y) (hst : (st.map xcat).sum ≤ 8) (kk : xw g y Q rc rs (pc + 3) ls st n f) : xw g y Q rc rs pc ls (vR a :: st) n f := by
  intro hG p e s m args below meth c H locs mc ms cells slots A C hR hZ hlo hc hs hl
  have hW := C.2.2.2.2.2.2.2.2.1
  have h8 : 2 * (F0 m pc A ((vR a :: st).map (xcv (gB g)))).monitorRoom + ((st.map (xcv (gB g))).map fun v => v.category).sum ≤ 8 := lv_room (by rw [xcats]; exact hst)
  exact W.objInit C.1 C.2.1 C.2.2.2.2.1 (xgw hG h1 hW) (xgw hG h2 hW) (xgw hG h3 hW) rfl (by rw [C.2.2.2.1]; exact hl.1) rfl hd hfr (by show _ ≤ mW y; omega) (kk hG p e s m args below meth c H locs mc ms cells slots A C hR hZ hlo hc hs hl)
/-- a method's start -/
theorem xla_map (B : Nat) (As : List xV) : ∀ i : Nat, (xla i As).map (fun q => (q.1, xcv B q.2)) = lv_args i (As.map (xcv B)) := by
  induction As with
  | nil => intro i; rfl
  | cons v l ih =>
    intro i
    show (i, xcv B v) :: (xla (i + xcat v) l).map _ = lv_args i (xcv B v :: l.map (xcv B))
    rw [ih]
    have h1 : lv_args i (xcv B v :: l.map (xcv B)) = (i, xcv B v) :: lv_args (if (xcv B v).category = 2 then i + 2 else i + 1) (l.map (xcv B)) := rfl
    rw [h1, ← xcat_eq B v]
    rcases lv_cat (xcv B v) with h2 | h2
    · rw [h2, if_neg (by decide)]
    · rw [h2, if_pos rfl]
theorem xct_of {mc ms : Nat} {As : List xV} (hy : plainName (mN y).cls = true) (hh : mH y = []) (hlen : (As.map xcat).sum ≤ mL y) (h : xw g y Q mc ms 0 (xla 0 As) [] n f) : xct g y mc ms As n f Q := by
  intro hG
  refine vx_ofW (cc := mB y) (maxL := mL y) (ret := mT y) (ws' := []) hy (by unfold mcode; rw [hh]) ?_
  intro p e s m args below meth c s1 B hml ht hv
  obtain ⟨hargs, hR, hW⟩ := hv
  have hl := lv_entry (As.map (xcv (gB g))) (n := mL y) (by
    have : (lg_sl (As.map (xcv (gB g)))).length = (As.map xcat).sum := by
      rw [← xcats (gB g) As]
      unfold lg_sl
      rw [List.length_flatMap]
      congr 1
      apply List.map_congr_left
      intro v _
      rcases lv_cat v with h1 | h1 <;> simp [h1]
    omega)
  rw [hargs, lg_entry_eq]
  rw [← xla_map] at hl
  have hn := name_of_methodNamed B.named B.method
  exact h hG p e s m _ below meth c s.heap [] mc ms 0 0 _ ⟨B.exec, B.bytes, B.returns, hml, findClass_of_methodNamed B.named, B.notSynchronized, hn.1, by rw [hh]; exact List.eq_nil_iff_forall_not_mem.mpr (fun x hx => ht x hx), hW, by rw [hR.1]; omega, hR.2.1⟩ hR (Nat.le_refl _) (fun z hz => by cases hz) (by omega) (by omega) hl
end XK
