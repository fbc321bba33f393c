theorem nse_1 : xin (.classLink RX9 333 eNSE) := xi4 113 rfl rfl
theorem nse_2 : xin (.initialized eNSE) := xi1 19 rfl rfl
theorem nse_3 : Cond.stringRef RX9 335 "not on the table" ∈ lw_tbl := xj4 122 rfl
section N57b
variable {p : Program} {l : Launch} {e : Env} {R : Room} {s : State} {m : MethodId} {args : Array Value} {below : List Frame} {meth : Method} {c : Code} {H : Heap} {locs : List Loc} {cells slots : Nat}
variable {free : Addr → Prop} {ls : Array Slot} {rest : List Value} {Qc : Array Value → State → Outcome → State → Prop} {XC : String → State → State → Prop}
set_option maxHeartbeats 4000000 in
theorem nse_throwW {cc : ByteArray} {pc : Nat} (hexec : p.tables.exec = Jvm.exec) (hb : c.code = cc) (hl : l.stackTraces = false) {text : String} {is mc ms sa : Nat} {A : Nat → Prop}
    (hown : s.vm.findClass RX9 = some m.cls)
    (hk : (Cond.classLink RX9 333 eNSE).before args s = true) (hini : (Cond.initialized eNSE).before args s = true) (hstr : vk_R RX9 is text sa s) (hat : ∀ w ∈ at13.filter vx_no, w.before args s = true)
    (hU : vx_Zq Bundle.tN "UNASSIGNED_STACK" Bundle.steD A s s.heap) (hN : vx_Zq Bundle.tN "SUPPRESSED_SENTINEL" Bundle.listD A s s.heap) (hS : va_S A s.heap H locs) (hsize : ls.size = c.maxLocals)
    (d0 : decode cc pc = .ok (.new 333, 3)) (d3 : decode cc (pc + 3) = .ok (.dup, 1)) (d4 : decode cc (pc + 4) = .ok (.ldc_w is, 3)) (d7 : decode cc (pc + 7) = .ok (.invokespecial 337, 3)) (d10 : decode cc (pc + 10) = .ok (.athrow, 1))
    (hout : ∀ x ∈ c.exceptionTable.toList, covers x (pc + 10) = false)
    (hRframes : 5 < R.frames) (hRlocals : (rest.map fun v => v.category).sum + 82 ≤ R.locals) (hRcells : cells + 1 ≤ R.cells) (hRslots : slots + 6 ≤ R.slots) (hlocks : meth.locks = false)
    (hx : ∀ t : State, s.vm.Alike t.vm → H.size ≤ t.heap.size → (∀ q : Nat, q < H.size → t.heap[q]? = H[q]?) → XC eNSE s t)
    (hf : ∀ z ∈ locs, free z.base) (hc : cells + 1 ≤ mc) (hs : slots + 6 ≤ ms) :
    W p l e R s m args below meth c H locs cells slots (vx_MQ below Qc XC args s mc ms free) (F0 m pc ls rest) := by
  intro T hT X
  have htr : e.platform.stackTraces = false := (show e.platform.stackTraces = l.stackTraces by rw [X.admits.platform]).trans hl
  have Y := vx_rebase X (R' := { frames := R.frames, locals := R.locals, cells := 1, slots := 6 }) (Nat.le_refl _) (Nat.le_refl _) hRcells hRslots
  obtain ⟨s', hA⟩ : ∃ z, z = (T.setVm s.vm).setFrames (.invoking m args :: below) := ⟨_, rfl⟩
  rw [← hA] at Y
  have hvm : s'.vm = s.vm := by rw [hA]; rfl
  have hhp : s'.heap = H := by rw [hA]; exact hT
  have hW0 : s.WarmedH s'.vm := by rw [hvm]; exact State.WarmedH.refl s
  have hat' : ∀ w ∈ at13.filter vx_no, w.before args s' = true := fun w hw => vx_ot_at hW0 hvm.symm (at13_ot w (List.mem_cons_of_mem _ (List.mem_cons_of_mem _ hw))) (hat w hw)
  have hk' : (Cond.classLink RX9 333 eNSE).before args s' = true := vx_ot_at hW0 hvm.symm (at13_ot _ List.mem_cons_self) hk
  have hini' : (Cond.initialized eNSE).before args s' = true := vx_ot_at hW0 hvm.symm (at13_ot _ (List.mem_cons_of_mem _ List.mem_cons_self)) hini
  have hU' : vx_Zq Bundle.tN "UNASSIGNED_STACK" Bundle.steD A s' s'.heap := by rw [hhp]; exact vx_Zq.moved hW0.alike (hU.kept hS.2.1)
  have hN' : vx_Zq Bundle.tN "SUPPRESSED_SENTINEL" Bundle.listD A s' s'.heap := by rw [hhp]; exact vx_Zq.moved hW0.alike (hN.kept hS.2.1)
  have h : ∀ w ∈ at13, w.before args s' = true := vx_own hat' (vx_isRefq hU'.1) (vx_isRefq hN'.1) hU'.2.word hN'.2.word
  have hown' : s'.vm.findClass RX9 = some m.cls := by rw [hvm]; exact hown
  have hins : (Cond.instantiable eNSE 6).before args s' = true := h _ (at13_o _ (by decide +kernel))
  obtain ⟨vm₁, cX, kX, hfX, hkX, -, -, X₁, st1⟩ := Y.newCold hexec (own := RX9) (C := eNSE) (index := 333) (n := 6) hown' hk' hins hini'
    (g := F0 m pc ls rest) rfl (by rw [hb]; exact d0) (Nat.le_refl _) (Nat.le_refl _)
  generalize hT1 : (T.setVm vm₁).pushCell { cls := cX, slots := kX.instanceTypes.map defaultValue, vm := .none } = T1 at X₁ st1
  have hcat : (Value.ref T.heap.size).category = 1 := rfl
  have hcellA : T1.heap[T.heap.size]? = some (freshCell cX kX) := by rw [← hT1]; exact State.heap_pushCell_size _ _
  have d3' : decode c.code (pc + 3) = .ok (.dup, 1) := by rw [hb]; exact d3
  have d4' : decode c.code (pc + 4) = .ok (.ldc_w is, 3) := by rw [hb]; exact d4
  have hstr' : vk_R RX9 is text sa s' := vk_R.warm hW0 hstr
  obtain ⟨U, hsteps, hrun, hend, hW, hsame, ce, hce, hO1, hO2⟩ := nse_ctor X₁ hexec htr hown' h hfX hkX hcellA (by rw [hhp, hT]; exact Nat.le_refl _) (msg := .ref sa) rfl
    (g := { method := m, pc := pc + 7, locals := ls, stack := .ref sa :: .ref T.heap.size :: .ref T.heap.size :: rest, locked := none }) rfl hsize rfl rfl (rest := rest) rfl
    (by rw [hb]; exact d7) (by rw [hb]; exact d10) hout hRframes (by simp only [List.map_cons, List.sum_cons, hcat]; omega) hlocks
  obtain ⟨f1, f2⟩ := vx_frame hsame
  rw [hhp] at f1 f2
  have hWs : s.WarmedH U.vm := State.WarmedH.trans hW0 hW
  have hcl : s.vm.findClass eNSE = some ce.cls := by
    have h9 := hO2
    rw [hvm] at h9
    exact h9
  have hall : s.sameButNew ({ U with vm := s.vm } : State) locs mc ms := by
    subst hA
    obtain ⟨e1, e2⟩ := hsame
    rw [State.setFrames_setFrames] at e1
    have h2 : (T.setVm s.vm).sameButNew ({ U with vm := s.vm } : State) [] (0 + 1) (0 + 6) := ⟨e1, e2⟩
    have h3 := X.same.trans h2
    rw [List.append_nil] at h3
    exact h3.mono hc hs
  refine ⟨U, ?_, .threw T.heap.size, hrun, hend, Or.inr ⟨T.heap.size, rfl, eNSE, ce, locs, hx U hWs.alike f1 (fun q hq => f2 q hq (fun z hz => nomatch hz)), hce, hO1, hcl, hWs, hall, hf⟩⟩
  refine st1 _ ?_
  show Steps p.tables e below (T1.setTop { method := m, pc := pc + 3, locals := ls, stack := .ref T.heap.size :: rest, locked := none }) _
  jvm_step X₁.here [X₁.here.top, hexec, d3', Value.category]
  exact X₁.ldcStringW hexec (own := RX9) (text := text) (index := is) (a := sa) hown' hstr'.1 hstr'.2
    (g := { method := m, pc := pc + 4, locals := ls, stack := .ref T.heap.size :: .ref T.heap.size :: rest, locked := none }) rfl d4' _ hsteps
end N57b
section N57c
variable {g : xG} {y : xM} {Q : xP} {rc rs pc : Nat} {ls : xS} {st : List xV} {n : Nat} {f : xH}
theorem xw_throwN {is : Nat} {text : String} (hcl : (mN y).cls = RX9) (t1 : xin (.classLink RX9 333 eNSE)) (t2 : xin (.initialized eNSE)) (t3 : Cond.stringRef RX9 is text ∈ lw_tbl) (hh : mH y = []) (d0 : decode (mB y) pc = .ok (.new 333, 3)) (d3 : decode (mB y) (pc + 3) = .ok (.dup, 1)) (d4 : decode (mB y) (pc + 4) = .ok (.ldc_w is, 3)) (d7 : decode (mB y) (pc + 7) = .ok (.invokespecial 337, 3)) (d10 : decode (mB y) (pc + 10) = .ok (.athrow, 1)) (hfr : 5 < mF y) (hlo2 : 82 ≤ mW y) (hq : ∀ n', n ≤ n' → Q (.inr eNSE) n' f) : xw g y Q (rc + 1) (rs + 6) pc ls [] n f := by
  intro hG p e s m args below meth c H locs mc ms cells slots A C hR hZ hlo hc hs hl
  obtain ⟨hx, hb, hr, hml, hown, hlk, hnm, htb, hW, hB, hbot⟩ := id C
  rw [hcl] at hown
  obtain ⟨sa, hsa⟩ := xstr hG t3 hW hown
  have hk : ∀ a : Nat, a < (g0 g).heap.size → ¬ gF g a → s.heap[a]? = (g0 g).heap[a]? := fun a ha _ => hbot a ha
  exact nse_throwW (A := gF g) (rest := []) hx hb hG.2.1 hown (xgw hG t1 hW) (xgw hG t2 hW) hsa (fun w hw => dcw_at hG (at13_in w hw).2 (at13_in w hw).1 hW) ((vx_Zq.moved hW.alike hG.2.2.2.2.1).kept hk) ((vx_Zq.moved hW.alike hG.2.2.2.2.2).kept hk)
    ⟨hZ, fun q hq9 hn9 => (hR.2.1 q (by have h9 : ¬ gB g ≤ q := hn9; omega)).trans (hbot q (by have h9 : ¬ gB g ≤ q := hn9; omega)).symm, hlo⟩ (by rw [hml]; exact hl.1) d0 d3 d4 d7 d10 (fun x hx9 => by rw [htb, hh] at hx9; cases hx9)
    hfr (by show 0 + 82 ≤ mW y; omega) (by show cells + 1 ≤ mc; omega) (by show slots + 6 ≤ ms; omega) hlk (fun t _ h1 h2 => xthr (H0 := H) hR hq h1 h2) hlo (by omega) (by omega)
end N57c
