/-! the pure machine's values, cells and heap; how they lie in the real one -/
abbrev xV : Type := Int ⊕ (Int ⊕ Option Nat)
abbrev vI (z : Int) : xV := Sum.inl z
abbrev vL (z : Int) : xV := Sum.inr (Sum.inl z)
abbrev vQ (o : Option Nat) : xV := Sum.inr (Sum.inr o)
abbrev vR (k : Nat) : xV := Sum.inr (Sum.inr (some k))
abbrev vN : xV := Sum.inr (Sum.inr none)
def xcv (B : Nat) (v : xV) : Value := match v with
  | .inl z => .int (Int32.ofInt z)
  | .inr (.inl z) => .long (Int64.ofInt z)
  | .inr (.inr none) => .null
  | .inr (.inr (some k)) => .ref (B + k)
def xcat (v : xV) : Nat := match v with
  | .inr (.inl _) => 2
  | _ => 1
theorem xcat_eq (B : Nat) (v : xV) : (xcv B v).category = xcat v := by
  rcases v with z | z | _ | k <;> rfl
theorem xcv_q (B : Nat) (o : Option Nat) : xcv B (vQ o) = va_rf (o.map (B + ·)) := by
  cases o <;> rfl
abbrev xA : Type := (Nat → Int) ⊕ ((Nat → Int) ⊕ (Nat → Option Nat))
abbrev xE : Type := (Nat × (Nat × xA)) ⊕ (Nat × (Nat → xV))
abbrev xH : Type := Nat → Option xE
abbrev xO : Type := Option xV ⊕ String
abbrev xP : Type := xO → Nat → xH → Prop
abbrev xS : Type := List (Nat × xV)
def xcA (B : Nat) (a : xA) : (Nat → Int32) ⊕ ((Nat → Int64) ⊕ ((Nat → UInt32) ⊕ ((Nat → UInt64) ⊕ (Nat → Option Nat)))) := match a with
  | .inl f => .inl (fun i => Int32.ofInt (f i))
  | .inr (.inl f) => .inr (.inl (fun i => Int64.ofInt (f i)))
  | .inr (.inr f) => .inr (.inr (.inr (.inr (fun i => (f i).map (B + ·)))))
def xup (f : xH) (k : Nat) (e : xE) : xH := fun j => if j = k then some e else f j
theorem xup_s (f : xH) (k : Nat) (e : xE) : xup f k e k = some e := if_pos rfl
theorem xup_n (f : xH) {k j : Nat} (e : xE) (h : j ≠ k) : xup f k e j = f j := if_neg h
def xui {α : Type} (f : Nat → α) (k : Nat) (x : α) : Nat → α := fun j => if j = k then x else f j
theorem xui_s {α : Type} (f : Nat → α) (k : Nat) (x : α) : xui f k x k = x := if_pos rfl
theorem xui_n {α : Type} (f : Nat → α) {k j : Nat} (x : α) (h : j ≠ k) : xui f k x j = f j := if_neg h
/-- the classes whose objects the worlds hold, and the kinds of arrays -/
def xcl : List vw_C := [(RX0, TX0, 7), (RX1, TX1, 3), (RX2, TX2, 7), (RX3, TX3, 3), (RX4, TX4, 2), (RX5, TX5, 7), (RX6, TX6, 14), (RX7, TX7, 6), (RX8, TX8, 12), (RX9, TX9, 15), (RX10, TX10, 61)]
def xtys : List FieldType := [.int, .long, .boolean, .byte, .object RX1, .object RX7, .object RX2]
/-- a launch, the law's start, its arguments, where the tables have the classes -/
abbrev xG : Type := Launch × (State × (Array Value × ((Nat → ClassId) × ((Nat → Nat → Nat) × (Nat → ClassId)))))
def gl (g : xG) : Launch := g.1
def g0 (g : xG) : State := g.2.1
def ga (g : xG) : Array Value := g.2.2.1
def gC (g : xG) : Nat → ClassId := g.2.2.2.1
def gI (g : xG) : Nat → Nat → Nat := g.2.2.2.2.1
def gA (g : xG) : Nat → ClassId := g.2.2.2.2.2
def gB (g : xG) : Nat := (g0 g).heap.size
def gF (g : xG) : Nat → Prop := fun q => gB g ≤ q
def okG (g : xG) : Prop := (∀ w ∈ lw_tbl, w.before (ga g) (g0 g) = true) ∧ (gl g).stackTraces = false ∧
  (∀ (c : Nat) (q : vw_C), xcl[c]? = some q → u_Kn (g0 g) q.1 q.2.1 q.2.2 (gC g c) (gI g c)) ∧
  (∀ (k : Nat) (ty : FieldType), xtys[k]? = some ty → ArrOfT (g0 g) (gA g k) ty ∧ va_RA (g0 g) (gA g k) ty) ∧
  vx_Zq Bundle.tN "UNASSIGNED_STACK" Bundle.steD (gF g) (g0 g) (g0 g).heap ∧ vx_Zq Bundle.tN "SUPPRESSED_SENTINEL" Bundle.listD (gF g) (g0 g) (g0 g).heap
def xat (g : xG) (k : Nat) (e : xE) (H : Heap) : Prop := match e with
  | .inl a => H[gB g + k]? = some (vp_cell (gA g a.1) (a.2.1, xcA (gB g) a.2.2))
  | .inr o => ∃ r : vw_C, xcl[o.1]? = some r ∧ t_OB (gB g + k) (gC g o.1) r.2.2 (gI g o.1) H (fun j => xcv (gB g) (o.2 j))
def xR (g : xG) (n : Nat) (f : xH) (H : Heap) : Prop := H.size = gB g + n ∧ (∀ q, q < gB g → H[q]? = (g0 g).heap[q]?) ∧ ∀ (k : Nat) (e : xE), f k = some e → k < n ∧ xat g k e H
/-- a method: name, code, places for locals, what it returns, its room in frames and words, its handlers -/
abbrev xM : Type := MethodName × (ByteArray × (Nat × (Option FieldType × (Nat × (Nat × List (Nat × Nat × Nat × Nat))))))
def mN (y : xM) : MethodName := y.1
def mB (y : xM) : ByteArray := y.2.1
def mL (y : xM) : Nat := y.2.2.1
def mT (y : xM) : Option FieldType := y.2.2.2.1
def mF (y : xM) : Nat := y.2.2.2.2.1
def mW (y : xM) : Nat := y.2.2.2.2.2.1
def mH (y : xM) : List (Nat × Nat × Nat × Nat) := y.2.2.2.2.2.2
def xroom (y : xM) (mc ms : Nat) : Room := { frames := mF y, cells := mc, slots := ms, locals := mW y }
def xC (g : xG) (y : xM) (p : Program) (s : State) (m : MethodId) (meth : Method) (c : Code) : Prop :=
  p.tables.exec = Jvm.exec ∧ c.code = mB y ∧ meth.sig.returnType = mT y ∧ c.maxLocals = mL y ∧ s.vm.findClass (mN y).cls = some m.cls ∧ meth.locks = false ∧ meth.name = (mN y).name ∧ c.exceptionTable.toList = tableOf (mH y) ∧ (g0 g).WarmedH s.vm ∧ gB g ≤ s.heap.size ∧ ∀ q, q < gB g → s.heap[q]? = (g0 g).heap[q]?
def xL (g : xG) (nL : Nat) (ls : xS) (A : Array Slot) : Prop := lv_has A nL (ls.map (fun q => (q.1, xcv (gB g) q.2)))
def xQr (g : xG) (Q : xP) : Array Value → State → Outcome → State → Prop := fun _ _ o t => ∃ (v : Option xV) (n : Nat) (f : xH), o = .returned (v.map (xcv (gB g))) ∧ xR g n f t.heap ∧ Q (.inl v) n f
def xXr (g : xG) (Q : xP) : String → State → State → Prop := fun E _ t => ∃ (n : Nat) (f : xH), xR g n f t.heap ∧ Q (.inr E) n f
/-- from pc on, with these locals, this stack and heap, the method comes to its end, and there Q holds; at most rc cells of rs slots are made on the way -/
def xw (g : xG) (y : xM) (Q : xP) (rc rs pc : Nat) (ls : xS) (st : List xV) (n : Nat) (f : xH) : Prop :=
  okG g → ∀ (p : Program) (e : Env) (s : State) (m : MethodId) (args : Array Value) (below : List Frame) (meth : Method) (c : Code) (H : Heap) (locs : List Loc) (mc ms cells slots : Nat) (A : Array Slot),
    xC g y p s m meth c → xR g n f H → s.heap.size ≤ H.size → (∀ z ∈ locs, gF g z.base) → cells + rc ≤ mc → slots + rs ≤ ms → xL g (mL y) ls A →
    W p (gl g) e (xroom y mc ms) s m args below meth c H locs cells slots (vx_MQ below (xQr g Q) (xXr g Q) args s mc ms (gF g)) (F0 m pc A (st.map (xcv (gB g))))
def mcode (y : xM) : Cond := match mH y with
  | [] => .code (mN y) (mB y) (mL y) (mT y)
  | hh => .codeWith (mN y) (mB y) (mL y) (mT y) hh
def xPc (g : xG) (As : List xV) (n : Nat) (f : xH) : Array Value → State → Prop := va_Pc (As.map (xcv (gB g))) (fun U => xR g n f U.heap ∧ (g0 g).WarmedH U.vm)
/-- a method's contract at these arguments and this heap -/
def xct (g : xG) (y : xM) (mc ms : Nat) (As : List xV) (n : Nat) (f : xH) (Q : xP) : Prop :=
  okG g → vx_Met (gl g) (mN y) [mcode y] (xroom y mc ms) (xPc g As n f) (xQr g Q) (xXr g Q) mc ms (gF g)
def xla (i : Nat) (As : List xV) : xS := match As with
  | [] => []
  | v :: l => (i, v) :: xla (i + xcat v) l
/-- locals by place -/
def xlk (ls : xS) (i : Nat) : Option xV := match ls with
  | [] => none
  | q :: l => bif Nat.beq q.1 i then some q.2 else xlk l i
theorem xlk_mem {ls : xS} {i : Nat} {v : xV} (h : xlk ls i = some v) : (i, v) ∈ ls := by
  induction ls with
  | nil => cases h
  | cons q l ih =>
    unfold xlk at h
    cases hq : Nat.beq q.1 i with
    | true =>
      rw [hq] at h
      have h1 : q.2 = v := Option.some.inj h
      have h2 : q.1 = i := Nat.eq_of_beq_eq_true hq
      rw [← h1, ← h2]
      exact List.mem_cons_self
    | false =>
      rw [hq] at h
      exact List.mem_cons_of_mem _ (ih h)
theorem xL_at {g : xG} {nL i : Nat} {ls : xS} {A : Array Slot} {v : xV} (h : xL g nL ls A) (hv : xlk ls i = some v) : A[i]? = some (.val (xcv (gB g) v)) :=
  h.2.2 (i, xcv (gB g) v) (List.mem_map.mpr ⟨(i, v), xlk_mem hv, rfl⟩)
def xsto (ls : xS) (i : Nat) (v : xV) : xS := (i, v) :: ls.filter (fun q => !(q.1 == i) && !(q.1 + 1 == i && xcat q.2 == 2))
def xstoL (ls : xS) (i : Nat) (v : xV) : xS := (i, v) :: ls.filter (fun q => !(q.1 == i) && (!(q.1 == i + 1) && !(q.1 + 1 == i && xcat q.2 == 2)))
theorem xsto_map (B : Nat) (ls : xS) (i : Nat) (v : xV) : (i, xcv B v) :: (ls.map (fun q => (q.1, xcv B q.2))).filter (fun q => !(q.1 == i) && !(q.1 + 1 == i && q.2.category == 2)) = (xsto ls i v).map (fun q => (q.1, xcv B q.2)) := by
  unfold xsto
  rw [List.map_cons, List.filter_map]
  congr 2
  apply List.filter_congr
  intro q _
  simp only [Function.comp, xcat_eq]
theorem xstoL_map (B : Nat) (ls : xS) (i : Nat) (v : xV) : (i, xcv B v) :: (ls.map (fun q => (q.1, xcv B q.2))).filter (fun q => !(q.1 == i) && (!(q.1 == i + 1) && !(q.1 + 1 == i && q.2.category == 2))) = (xstoL ls i v).map (fun q => (q.1, xcv B q.2)) := by
  unfold xstoL
  rw [List.map_cons, List.filter_map]
  congr 2
  apply List.filter_congr
  intro q _
  simp only [Function.comp, xcat_eq]
/-- fewer locals, in any order -/
def xag (l ls : xS) : Prop := match l with
  | [] => True
  | q :: t => xlk ls q.1 = some q.2 ∧ xag t ls
theorem xag_mem {l ls : xS} (h : xag l ls) : ∀ q ∈ l, q ∈ ls := by
  induction l with
  | nil => intro q hq; cases hq
  | cons a t ih =>
    intro q hq
    rcases List.mem_cons.mp hq with rfl | hq
    · exact xlk_mem h.1
    · exact ih h.2 q hq
theorem xL_sub {g : xG} {nL : Nat} {l ls : xS} {A : Array Slot} (h : xL g nL ls A) (hs : xag l ls) : xL g nL l A := by
  refine ⟨h.1, h.2.1, fun q hq => ?_⟩
  obtain ⟨a, ha, rfl⟩ := List.mem_map.mp hq
  exact h.2.2 _ (List.mem_map.mpr ⟨a, xag_mem hs a ha, rfl⟩)
theorem xw_ls {g : xG} {y : xM} {Q : xP} {rc rs pc : Nat} {ls : xS} {st : List xV} {n : Nat} {f : xH} (l : xS) (hs : xag l ls) (k : xw g y Q rc rs pc l st n f) : xw g y Q rc rs pc ls st n f := by
  intro hG p e s m args below meth c H locs mc ms cells slots A C hR hZ hlo hc hs' hl
  exact k hG p e s m args below meth c H locs mc ms cells slots A C hR hZ hlo hc hs' (xL_sub hl hs)
/-- a smaller room is enough -/
theorem xw_room {g : xG} {y : xM} {Q : xP} {rc rs rc' rs' pc : Nat} {ls : xS} {st : List xV} {n : Nat} {f : xH} (h1 : rc' ≤ rc) (h2 : rs' ≤ rs) (k : xw g y Q rc' rs' pc ls st n f) : xw g y Q rc rs pc ls st n f := by
  intro hG p e s m args below meth c H locs mc ms cells slots A C hR hZ hlo hc hs hl
  exact k hG p e s m args below meth c H locs mc ms cells slots A C hR hZ hlo (by omega) (by omega) hl
/-- fewer known cells -/
theorem xR_sub {g : xG} {n : Nat} {f f' : xH} {H : Heap} (h : xR g n f H) (hs : ∀ k e, f' k = some e → f k = some e) : xR g n f' H := ⟨h.1, h.2.1, fun k e he => h.2.2 k e (hs k e he)⟩
theorem xw_hp {g : xG} {y : xM} {Q : xP} {rc rs pc : Nat} {ls : xS} {st : List xV} {n : Nat} {f : xH} (f' : xH) (h : ∀ k e, f' k = some e → f k = some e) (k : xw g y Q rc rs pc ls st n f') : xw g y Q rc rs pc ls st n f := by
  intro hG p e s m args below meth c H locs mc ms cells slots A C hR hZ hlo hc hs hl
  exact k hG p e s m args below meth c H locs mc ms cells slots A C (xR_sub hR h) hZ hlo hc hs hl
/-- words of the tables at any later state -/
def xin (w : Cond) : Prop := w ∈ lw_tbl ∧ goodWord w = true
theorem xin_of {w : Cond} (i : Nat) (h : lw_tbl[i]? = some w) (hg : goodWord w = true) : xin w := ⟨List.mem_of_getElem? h, hg⟩
theorem xgw {g : xG} (hG : okG g) {w : Cond} (hw : xin w) {s : State} {args : Array Value} (hW : (g0 g).WarmedH s.vm) : w.before args s = true := word_at hW (good_of_word hw.2) (hG.1 w hw.1)
/-- an instruction that leaves the heap alone -/
theorem xw_pure {g : xG} {y : xM} {Q : xP} {rc rs pc pc' : Nat} {ls : xS} {st st' : List xV} {n : Nat} {f : xH}
    (h : okG g → ∀ (p : Program) (e : Env) (R : Room) (s : State) (m : MethodId) (args : Array Value) (below : List Frame) (meth : Method) (c : Code) (H : Heap) (locs : List Loc) (cells slots : Nat) (Q' : State → Prop) (A : Array Slot), xC g y p s m meth c → xL g (mL y) ls A →
      W p (gl g) e R s m args below meth c H locs cells slots Q' (F0 m pc' A (st'.map (xcv (gB g)))) → W p (gl g) e R s m args below meth c H locs cells slots Q' (F0 m pc A (st.map (xcv (gB g)))))
    (k : xw g y Q rc rs pc' ls st' n f) : xw g y Q rc rs pc ls st n f := by
  intro hG p e s m args below meth c H locs mc ms cells slots A C hR hZ hlo hc hs hl
  exact h hG p e _ s m args below meth c H locs cells slots _ A C hl (k hG p e s m args below meth c H locs mc ms cells slots A C hR hZ hlo hc hs hl)
/-- an instruction that leaves the heap alone and writes a local -/
theorem xw_stor {g : xG} {y : xM} {Q : xP} {rc rs pc pc' : Nat} {ls ls' : xS} {st st' : List xV} {n : Nat} {f : xH}
    (h : ∀ (p : Program) (e : Env) (R : Room) (s : State) (m : MethodId) (args : Array Value) (below : List Frame) (meth : Method) (c : Code) (H : Heap) (locs : List Loc) (cells slots : Nat) (Q' : State → Prop) (A : Array Slot), xC g y p s m meth c → xL g (mL y) ls A →
      (∀ A' : Array Slot, xL g (mL y) ls' A' → W p (gl g) e R s m args below meth c H locs cells slots Q' (F0 m pc' A' (st'.map (xcv (gB g))))) → W p (gl g) e R s m args below meth c H locs cells slots Q' (F0 m pc A (st.map (xcv (gB g)))))
    (k : xw g y Q rc rs pc' ls' st' n f) : xw g y Q rc rs pc ls st n f := by
  intro hG p e s m args below meth c H locs mc ms cells slots A C hR hZ hlo hc hs hl
  exact h p e _ s m args below meth c H locs cells slots _ A C hl (fun A' hl' => k hG p e s m args below meth c H locs mc ms cells slots A' C hR hZ hlo hc hs hl')
/-- a branch -/
theorem xw_br {g : xG} {y : xM} {Q : xP} {rc rs pc p1 p2 : Nat} {ls : xS} {st st' : List xV} {n : Nat} {f : xH} {P1 P2 : Prop}
    (h : ∀ (p : Program) (e : Env) (R : Room) (s : State) (m : MethodId) (args : Array Value) (below : List Frame) (meth : Method) (c : Code) (H : Heap) (locs : List Loc) (cells slots : Nat) (Q' : State → Prop) (A : Array Slot), xC g y p s m meth c →
      (P1 → W p (gl g) e R s m args below meth c H locs cells slots Q' (F0 m p1 A (st'.map (xcv (gB g))))) → (P2 → W p (gl g) e R s m args below meth c H locs cells slots Q' (F0 m p2 A (st'.map (xcv (gB g))))) → W p (gl g) e R s m args below meth c H locs cells slots Q' (F0 m pc A (st.map (xcv (gB g)))))
    (k1 : P1 → xw g y Q rc rs p1 ls st' n f) (k2 : P2 → xw g y Q rc rs p2 ls st' n f) : xw g y Q rc rs pc ls st n f := by
  intro hG p e s m args below meth c H locs mc ms cells slots A C hR hZ hlo hc hs hl
  exact h p e _ s m args below meth c H locs cells slots _ A C (fun q => k1 q hG p e s m args below meth c H locs mc ms cells slots A C hR hZ hlo hc hs hl) (fun q => k2 q hG p e s m args below meth c H locs mc ms cells slots A C hR hZ hlo hc hs hl)
