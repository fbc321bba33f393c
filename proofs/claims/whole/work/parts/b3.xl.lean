/-! THE CLAIM OUT OF ONE WALK OF THE LAW'S BODY. Your part is whole_start (and what it stands on); all else here is the same for every law, but numbers. -/
def R_law : String := "SpillikinTableLaw"
def lw_P (b : Addr) (xs : List Int32) (args : Array Value) (s : State) : Prop := args = #[.ref b] ∧ s.IntsAt b xs ∧ xs.length ≤ 4096 ∧ (Jvm.Cond.and given_1 narrow_1).before args s = true
def lw_Q (_ : Array Value) (s : State) (o : Outcome) (t : State) : Prop := o = .returned (some (.int 1)) ∧ Framed s o t [] 601024 7293034
def lw_Z (below : List Frame) (a : Array Value) (s : State) : State → Prop := fun t => ∃ o, t.status = .running ∧ Ended t below o ∧ lw_Q a s o t
/-- the law's own end, with 1 on the stack, nothing written that was there before, its room as the claim has it -/
theorem lw_ret {p : Program} {l : Launch} {e : Env} {s : State} {m : MethodId} {below : List Frame} {meth : Method} {c : Code} {b : Nat} (hx : p.tables.exec = Jvm.exec) (hb : c.code = code) (hr : meth.sig.returnType = ret) (hlocks : meth.locks = false) {pc : Nat} {H : Heap} {ls : Array Slot} (hdg : decode code pc = .ok (.ireturn, 1)) : W p l e room_1 s m #[Value.ref b] below meth c H [] 601024 7293034 (lw_Z below #[Value.ref b] s) (F0 m pc ls [.int 1]) := by
  intro T hT X
  obtain ⟨fs, hret, hrun, hended, hW, hframe⟩ := X.leave (v := some (.int 1)) (hlocks := hlocks) (fun h => by rw [hr] at h; cases h)
  have hmeth' : T.vm.method? m = some meth := X.method'
  refine ⟨T.setFrames fs, ?_, .returned (some (.int 1)), hrun, hended, rfl, ⟨_, rfl⟩, hW, hframe⟩
  jvm_step X.here [X.here.top, hx, hb, hdg, hmeth', hr, ret, narrow_b1]
  (try refine ⟨rfl, ?_⟩); (try refine ⟨rfl, ?_⟩)
  first | (intro acts; rw [hret _ acts rfl rfl rfl]) | rw [hret _ _ rfl rfl rfl]
  exact Steps.refl _
/-- what holds at the law's entry: the machine, the code, the tables' words (any of lw_tbl by 'hts w (by decide +kernel)'), the script of L ints xs at the cell b, what the Statement gives of the start (any of its parts by flat_of_before) -/
def lw_At (p : Program) (s : State) (m : MethodId) (meth : Method) (c : Code) (b L : Nat) (xs : Nat → Int32) : Prop :=
  p.tables.exec = Jvm.exec ∧ c.code = code ∧ meth.sig.returnType = ret ∧ c.maxLocals = 7 ∧ s.vm.findClass R_law = some m.cls ∧ (∀ w ∈ lw_tbl, w.before #[Value.ref b] s = true) ∧ va_X b L xs s s.heap ∧ b < s.heap.size ∧ meth.locks = false ∧ (Jvm.Cond.and given_1 narrow_1).before #[Value.ref b] s = true
/-! the law's own walk: as xw, with the script's row (which lies below) in its first place -/
abbrev scT : Type := Nat × (Nat × (Nat → Int32))
def xLl (g : xG) (b : Nat) (ls : xS) (A : Array Slot) : Prop := lv_has A 7 ((0, Value.ref b) :: ls.map (fun q => (q.1, xcv (gB g) q.2)))
def xCl (p : Program) (s : State) (m : MethodId) (meth : Method) (c : Code) : Prop := p.tables.exec = Jvm.exec ∧ c.code = cL_law ∧ meth.sig.returnType = ret ∧ c.maxLocals = 7 ∧ s.vm.findClass RL = some m.cls ∧ meth.locks = false
def xl (g : xG) (k : scT) (rc rs pc : Nat) (ls : xS) (st : List xV) (n : Nat) (f : xH) : Prop :=
  okG g → va_X k.1 k.2.1 k.2.2 (g0 g) (g0 g).heap → k.1 < gB g → ∀ (p : Program) (e : Env) (m : MethodId) (below : List Frame) (meth : Method) (c : Code) (H : Heap) (locs : List Loc) (cells slots : Nat) (A : Array Slot),
    xCl p (g0 g) m meth c → xR g n f H → (∀ z ∈ locs, gF g z.base) → cells + rc ≤ 601024 → slots + rs ≤ 7293034 → xLl g k.1 ls A →
    W p (gl g) e room_1 (g0 g) m #[Value.ref k.1] below meth c H locs cells slots (lw_Z below #[Value.ref k.1] (g0 g)) (F0 m pc A (st.map (xcv (gB g))))
theorem xLl_at {g : xG} {b i : Nat} {ls : xS} {A : Array Slot} {v : xV} (h : xLl g b ls A) (hv : xlk ls i = some v) : A[i]? = some (.val (xcv (gB g) v)) :=
  h.2.2 (i, xcv (gB g) v) (List.mem_cons_of_mem _ (List.mem_map.mpr ⟨(i, v), xlk_mem hv, rfl⟩))
theorem xLl_0 {g : xG} {b : Nat} {ls : xS} {A : Array Slot} (h : xLl g b ls A) : A[0]? = some (.val (.ref b)) := h.2.2 (0, .ref b) List.mem_cons_self
theorem xLl_st {g : xG} {b i : Nat} {ls : xS} {A : Array Slot} {v : xV} (hi : i ≠ 0) (hc : xcat v = 1) (h : lv_has A 7 ((i, xcv (gB g) v) :: ((0, Value.ref b) :: ls.map (fun q => (q.1, xcv (gB g) q.2))).filter (fun q => !(q.1 == i) && !(q.1 + 1 == i && q.2.category == 2)))) : xLl g b (xsto ls i v) A := by
  refine ⟨h.1, h.2.1, fun q hq => ?_⟩
  rcases List.mem_cons.mp hq with rfl | hq
  · refine h.2.2 _ (List.mem_cons_of_mem _ (List.mem_filter.mpr ⟨List.mem_cons_self, ?_⟩))
    have e1 : ((0 : Nat) == i) = false := by simp; omega
    show (!((0 : Nat) == i) && !((0 + 1 : Nat) == i && (Value.ref b).category == 2)) = true
    rw [e1]
    have e2 : ((Value.ref b).category == 2) = false := rfl
    rw [e2, Bool.and_false]
    rfl
  · rw [← xsto_map] at hq
    rcases List.mem_cons.mp hq with rfl | hq
    · exact h.2.2 _ List.mem_cons_self
    · have := List.mem_filter.mp hq
      exact h.2.2 _ (List.mem_cons_of_mem _ (List.mem_filter.mpr ⟨List.mem_cons_of_mem _ this.1, this.2⟩))
section Cb3
variable {g : xG} {k : scT} {rc rs pc : Nat} {ls : xS} {st : List xV} {n : Nat} {f : xH}
theorem xl_ls (l : xS) (hs : xag l ls) (kk : xl g k rc rs pc l st n f) : xl g k rc rs pc ls st n f := by
  intro hG hX hb p e m below meth c H locs cells slots A C hR hlo hc hs' hl
  refine kk hG hX hb p e m below meth c H locs cells slots A C hR hlo hc hs' ⟨hl.1, hl.2.1, fun q hq => ?_⟩
  rcases List.mem_cons.mp hq with rfl | hq
  · exact hl.2.2 _ List.mem_cons_self
  · obtain ⟨a, ha, rfl⟩ := List.mem_map.mp hq
    exact hl.2.2 _ (List.mem_cons_of_mem _ (List.mem_map.mpr ⟨a, xag_mem hs a ha, rfl⟩))
theorem xl_room {rc' rs' : Nat} (h1 : rc' ≤ rc) (h2 : rs' ≤ rs) (kk : xl g k rc' rs' pc ls st n f) : xl g k rc rs pc ls st n f := by
  intro hG hX hb p e m below meth c H locs cells slots A C hR hlo hc hs hl
  exact kk hG hX hb p e m below meth c H locs cells slots A C hR hlo (by omega) (by omega) hl
theorem xl_pure {pc' : Nat} {st' : List xV} (h : okG g → ∀ (p : Program) (e : Env) (R : Room) (s : State) (m : MethodId) (args : Array Value) (below : List Frame) (meth : Method) (c : Code) (H : Heap) (locs : List Loc) (cells slots : Nat) (Q' : State → Prop) (A : Array Slot), s = g0 g → xCl p s m meth c → xLl g k.1 ls A →
      W p (gl g) e R s m args below meth c H locs cells slots Q' (F0 m pc' A (st'.map (xcv (gB g)))) → W p (gl g) e R s m args below meth c H locs cells slots Q' (F0 m pc A (st.map (xcv (gB g)))))
    (kk : xl g k rc rs pc' ls st' n f) : xl g k rc rs pc ls st n f := by
  intro hG hX hb p e m below meth c H locs cells slots A C hR hlo hc hs hl
  exact h hG p e _ _ m _ below meth c H locs cells slots _ A rfl C hl (kk hG hX hb p e m below meth c H locs cells slots A C hR hlo hc hs hl)
theorem xl_br {p1 p2 : Nat} {st' : List xV} {P1 P2 : Prop} (h : ∀ (p : Program) (e : Env) (R : Room) (s : State) (m : MethodId) (args : Array Value) (below : List Frame) (meth : Method) (c : Code) (H : Heap) (locs : List Loc) (cells slots : Nat) (Q' : State → Prop) (A : Array Slot), xCl p s m meth c →
      (P1 → W p (gl g) e R s m args below meth c H locs cells slots Q' (F0 m p1 A (st'.map (xcv (gB g))))) → (P2 → W p (gl g) e R s m args below meth c H locs cells slots Q' (F0 m p2 A (st'.map (xcv (gB g))))) → W p (gl g) e R s m args below meth c H locs cells slots Q' (F0 m pc A (st.map (xcv (gB g)))))
    (k1 : P1 → xl g k rc rs p1 ls st' n f) (k2 : P2 → xl g k rc rs p2 ls st' n f) : xl g k rc rs pc ls st n f := by
  intro hG hX hb p e m below meth c H locs cells slots A C hR hlo hc hs hl
  exact h p e _ _ m _ below meth c H locs cells slots _ A C (fun q => k1 q hG hX hb p e m below meth c H locs cells slots A C hR hlo hc hs hl) (fun q => k2 q hG hX hb p e m below meth c H locs cells slots A C hR hlo hc hs hl)
theorem xl_topi {z : Int} (z1 : Int) (h : z = z1) (kk : xl g k rc rs pc ls (vI z1 :: st) n f) : xl g k rc rs pc ls (vI z :: st) n f := by rw [h]; exact kk
theorem xl_topl {z : Int} (z1 : Int) (h : z = z1) (kk : xl g k rc rs pc ls (vL z1 :: st) n f) : xl g k rc rs pc ls (vL z :: st) n f := by rw [h]; exact kk
theorem xl_iconst {z : Int} (hd : decode cL_law pc = .ok (.iconst z, 1)) (kk : xl g k rc rs (pc + 1) ls (vI z :: st) n f) : xl g k rc rs pc ls st n f :=
  xl_pure (fun hG p e R s m args below meth c H locs cells slots Q9 A es C hl kk => lv_iconst C.1 C.2.1 hd rfl kk) kk
theorem xl_bipush {b z : Int} (hd : decode cL_law pc = .ok (.bipush b, 2)) (hz : (Int8.ofInt b).toInt32 = Int32.ofInt z) (kk : xl g k rc rs (pc + 2) ls (vI z :: st) n f) : xl g k rc rs pc ls st n f :=
  xl_pure (fun hG p e R s m args below meth c H locs cells slots Q9 A es C hl kk => lv_bipush C.1 C.2.1 hd hz kk) kk
theorem xl_lconst {i : Fin 2} {z : Int} (hd : decode cL_law pc = .ok (.lconst i, 1)) (hz : Int64.ofNat (i : Nat) = Int64.ofInt z) (kk : xl g k rc rs (pc + 1) ls (vL z :: st) n f) : xl g k rc rs pc ls st n f :=
  xl_pure (fun hG p e R s m args below meth c H locs cells slots Q9 A es C hl kk => lv_lconst C.1 C.2.1 hd hz kk) kk
theorem xl_iload {i : Nat} {z : Int} (hd : decode cL_law pc = .ok (.iload i, 2)) (hv : xlk ls i = some (vI z)) (kk : xl g k rc rs (pc + 2) ls (vI z :: st) n f) : xl g k rc rs pc ls st n f :=
  xl_pure (fun hG p e R s m args below meth c H locs cells slots Q9 A es C hl kk => lv_iload C.1 C.2.1 hd (xLl_at hl hv) kk) kk
theorem xl_aload_n {i : Fin 4} {a : Nat} (hd : decode cL_law pc = .ok (.aload_n i, 1)) (hv : xlk ls i = some (vR a)) (kk : xl g k rc rs (pc + 1) ls (vR a :: st) n f) : xl g k rc rs pc ls st n f :=
  xl_pure (fun hG p e R s m args below meth c H locs cells slots Q9 A es C hl kk => lv_aload_n C.1 C.2.1 hd rfl (xLl_at hl hv) kk) kk
theorem xl_istore {i : Nat} {z : Int} (hd : decode cL_law pc = .ok (.istore i, 2)) (hn : i < 7) (h0 : i ≠ 0) (kk : xl g k rc rs (pc + 2) (xsto ls i (vI z)) st n f) : xl g k rc rs pc ls (vI z :: st) n f := by
  intro hG hX hb p e m below meth c H locs cells slots A C hR hlo hc hs hl
  exact lv_istore C.1 C.2.1 hd hl hn rfl (fun A9 hl9 => kk hG hX hb p e m below meth c H locs cells slots A9 C hR hlo hc hs (xLl_st h0 rfl hl9))
theorem xl_astore_n {i : Fin 4} {a : Nat} (hd : decode cL_law pc = .ok (.astore_n i, 1)) (hn : (i : Nat) < 7) (h0 : (i : Nat) ≠ 0) (kk : xl g k rc rs (pc + 1) (xsto ls i (vR a)) st n f) : xl g k rc rs pc ls (vR a :: st) n f := by
  intro hG hX hb p e m below meth c H locs cells slots A C hR hlo hc hs hl
  exact lv_astore_n C.1 C.2.1 hd rfl hl hn rfl (fun A9 hl9 => kk hG hX hb p e m below meth c H locs cells slots A9 C hR hlo hc hs (xLl_st (v := vR a) h0 rfl hl9))
theorem xl_iinc {i : Nat} {z d : Int} (hd : decode cL_law pc = .ok (.iinc i d, 3)) (hv : xlk ls i = some (vI z)) (hn : i < 7) (h0 : i ≠ 0) (kk : xl g k rc rs (pc + 3) (xsto ls i (vI (z + d))) st n f) : xl g k rc rs pc ls st n f := by
  intro hG hX hb p e m below meth c H locs cells slots A C hR hlo hc hs hl
  obtain ⟨j, hj⟩ := List.getElem?_of_mem (List.mem_cons_of_mem _ (List.mem_map.mpr ⟨(i, vI z), xlk_mem hv, rfl⟩) : (i, xcv (gB g) (vI z)) ∈ (0, Value.ref k.1) :: ls.map (fun q => (q.1, xcv (gB g) q.2)))
  exact lv_iinc C.1 C.2.1 hd hl hj (Int32.ofInt_add z d).symm hn rfl (fun A9 hl9 => kk hG hX hb p e m below meth c H locs cells slots A9 C hR hlo hc hs (xLl_st (v := vI (z + d)) h0 rfl hl9))
theorem xl_isub {a b : Int} (hd : decode cL_law pc = .ok (.isub, 1)) (kk : xl g k rc rs (pc + 1) ls (vI (a - b) :: st) n f) : xl g k rc rs pc ls (vI b :: vI a :: st) n f :=
  xl_pure (fun hG p e R s m args below meth c H locs cells slots Q9 A es C hl kk => lv_isub C.1 C.2.1 hd (by rw [← Int32.ofInt_sub]; exact kk)) kk
theorem xl_i2l {a : Int} (hd : decode cL_law pc = .ok (.i2l, 1)) (ha : inI a) (kk : xl g k rc rs (pc + 1) ls (vL a :: st) n f) : xl g k rc rs pc ls (vI a :: st) n f :=
  xl_pure (fun hG p e R s m args below meth c H locs cells slots Q9 A es C hl kk => lv_i2l C.1 C.2.1 hd (i32_i2l ha) kk) kk
theorem xl_iand {a b z : Int} (hd : decode cL_law pc = .ok (.iand, 1)) (hz : Int32.ofInt a &&& Int32.ofInt b = Int32.ofInt z) (kk : xl g k rc rs (pc + 1) ls (vI z :: st) n f) : xl g k rc rs pc ls (vI b :: vI a :: st) n f :=
  xl_pure (fun hG p e R s m args below meth c H locs cells slots Q9 A es C hl kk => lv_iand C.1 C.2.1 hd (by rw [hz]; exact kk)) kk
theorem xl_land {a b z : Int} (hd : decode cL_law pc = .ok (.land, 1)) (hz : Int64.ofInt a &&& Int64.ofInt b = Int64.ofInt z) (kk : xl g k rc rs (pc + 1) ls (vL z :: st) n f) : xl g k rc rs pc ls (vL b :: vL a :: st) n f :=
  xl_pure (fun hG p e R s m args below meth c H locs cells slots Q9 A es C hl kk => lv_land C.1 C.2.1 hd (by rw [hz]; exact kk)) kk
theorem xl_lor {a b z : Int} (hd : decode cL_law pc = .ok (.lor, 1)) (hz : Int64.ofInt a ||| Int64.ofInt b = Int64.ofInt z) (kk : xl g k rc rs (pc + 1) ls (vL z :: st) n f) : xl g k rc rs pc ls (vL b :: vL a :: st) n f :=
  xl_pure (fun hG p e R s m args below meth c H locs cells slots Q9 A es C hl kk => lv_lor C.1 C.2.1 hd (by rw [hz]; exact kk)) kk
theorem xl_lshl {a b z : Int} (hd : decode cL_law pc = .ok (.lshl, 1)) (hz : Int64.ofInt a <<< ((Int32.ofInt b).toInt64 &&& 63) = Int64.ofInt z) (kk : xl g k rc rs (pc + 1) ls (vL z :: st) n f) : xl g k rc rs pc ls (vI b :: vL a :: st) n f :=
  xl_pure (fun hG p e R s m args below meth c H locs cells slots Q9 A es C hl kk => lv_lshl C.1 C.2.1 hd hz kk) kk
theorem xl_ldc2 {i : Nat} {v : Int64} {z : Int} (hd : decode cL_law pc = .ok (.ldc2_w i, 3)) (hw : xin (.constantLong RL i v)) (hz : v = Int64.ofInt z) (kk : xl g k rc rs (pc + 3) ls (vL z :: st) n f) : xl g k rc rs pc ls st n f :=
  xl_pure (fun hG p e R s m args below meth c H locs cells slots Q9 A es C hl kk => lv_ldc2 C.1 C.2.1 C.2.2.2.2.1 (by subst es; exact xgw hG hw (State.WarmedH.refl _)) hd (by rw [hz]; exact kk)) kk
theorem xl_dup {v : xV} (hd : decode cL_law pc = .ok (.dup, 1)) (hv : xcat v = 1) (kk : xl g k rc rs (pc + 1) ls (v :: v :: st) n f) : xl g k rc rs pc ls (v :: st) n f :=
  xl_pure (fun hG p e R s m args below meth c H locs cells slots Q9 A es C hl kk => lv_dup C.1 C.2.1 hd (by rw [xcat_eq]; exact hv) kk) kk
theorem xl_goto {off : Int} {tgt : Nat} (hd : decode cL_law pc = .ok (.goto off, 3)) (ht : (pc : Int) + off = (tgt : Int)) (kk : xl g k rc rs tgt ls st n f) : xl g k rc rs pc ls st n f :=
  xl_pure (fun hG p e R s m args below meth c H locs cells slots Q9 A es C hl kk => lv_goto C.1 C.2.1 hd ht kk) kk
theorem xl_ifeq {z off : Int} {tgt : Nat} (hd : decode cL_law pc = .ok (.ifCond .eq off, 3)) (ht : (pc : Int) + off = (tgt : Int)) (hr : inI z) (k1 : z = 0 → xl g k rc rs tgt ls st n f) (k2 : ¬ z = 0 → xl g k rc rs (pc + 3) ls st n f) : xl g k rc rs pc ls (vI z :: st) n f :=
  xl_br (fun p e R s m args below meth c H locs cells slots Q9 A C w1 w2 => lv_if_eq C.1 C.2.1 hd ht (fun q => w1 ((i32_eq hr inI0).mp q)) (fun q => w2 (fun r => q ((i32_eq hr inI0).mpr r)))) k1 k2
theorem xl_ifne {z off : Int} {tgt : Nat} (hd : decode cL_law pc = .ok (.ifCond .ne off, 3)) (ht : (pc : Int) + off = (tgt : Int)) (hr : inI z) (k1 : ¬ z = 0 → xl g k rc rs tgt ls st n f) (k2 : z = 0 → xl g k rc rs (pc + 3) ls st n f) : xl g k rc rs pc ls (vI z :: st) n f :=
  xl_br (fun p e R s m args below meth c H locs cells slots Q9 A C w1 w2 => lv_if_ne C.1 C.2.1 hd ht (fun q => w1 (fun r => q ((i32_eq hr inI0).mpr r))) (fun q => w2 ((i32_eq hr inI0).mp q))) k1 k2
theorem xl_icmpeq {a b off : Int} {tgt : Nat} (hd : decode cL_law pc = .ok (.if_icmp .eq off, 3)) (ht : (pc : Int) + off = (tgt : Int)) (ha : inI a) (hb : inI b) (k1 : a = b → xl g k rc rs tgt ls st n f) (k2 : ¬ a = b → xl g k rc rs (pc + 3) ls st n f) : xl g k rc rs pc ls (vI b :: vI a :: st) n f :=
  xl_br (fun p e R s m args below meth c H locs cells slots Q9 A C w1 w2 => lv_icmp_eq C.1 C.2.1 hd ht (fun q => w1 ((i32_eq ha hb).mp q)) (fun q => w2 (fun r => q ((i32_eq ha hb).mpr r)))) k1 k2
theorem xl_icmpgt {a b off : Int} {tgt : Nat} (hd : decode cL_law pc = .ok (.if_icmp .gt off, 3)) (ht : (pc : Int) + off = (tgt : Int)) (ha : inI a) (hb : inI b) (k1 : b < a → xl g k rc rs tgt ls st n f) (k2 : ¬ b < a → xl g k rc rs (pc + 3) ls st n f) : xl g k rc rs pc ls (vI b :: vI a :: st) n f :=
  xl_br (fun p e R s m args below meth c H locs cells slots Q9 A C w1 w2 => lv_icmp_gt C.1 C.2.1 hd ht (fun q => w1 ((i32_lt hb ha).mp q)) (fun q => w2 (fun r => q ((i32_lt hb ha).mpr r)))) k1 k2
theorem xl_lcmp {a b : Int} (hd : decode cL_law pc = .ok (.lcmp, 1)) (ha : inL a) (hb : inL b) (kk : xl g k rc rs (pc + 1) ls (vI (xcmp a b) :: st) n f) : xl g k rc rs pc ls (vL b :: vL a :: st) n f :=
  xl_pure (fun hG p e R s m args below meth c H locs cells slots Q9 A es C hl kk => W.lcmp C.1 C.2.1 hd (by rw [i64_cmp ha hb]; exact kk)) kk
theorem xl_tabIn {dflt lo hi off z : Int} {offs : Array Int} {len tgt : Nat} (hd : decode cL_law pc = .ok (.tableswitch dflt lo hi offs, len)) (hr : inI z) (h1 : lo ≤ z) (h2 : z ≤ hi) (ho : offs[(z - lo).toNat]? = some off) (ht : (pc : Int) + off = (tgt : Int)) (kk : xl g k rc rs tgt ls st n f) : xl g k rc rs pc ls (vI z :: st) n f :=
  xl_pure (fun hG p e R s m args below meth c H locs cells slots Q9 A es C hl kk => lv_tableIn C.1 C.2.1 hd (by rw [i32_to hr]; omega) (by rw [i32_to hr]; omega) (by rw [i32_to hr]; exact ho) ht kk) kk
theorem xl_tabOut {dflt lo hi z : Int} {offs : Array Int} {len tgt : Nat} (hd : decode cL_law pc = .ok (.tableswitch dflt lo hi offs, len)) (hr : inI z) (h : z < lo ∨ hi < z) (ht : (pc : Int) + dflt = (tgt : Int)) (kk : xl g k rc rs tgt ls st n f) : xl g k rc rs pc ls (vI z :: st) n f :=
  xl_pure (fun hG p e R s m args below meth c H locs cells slots Q9 A es C hl kk => lv_tableOut C.1 C.2.1 hd (by rw [i32_to hr]; exact h) ht kk) kk
/-- an int of the script -/
theorem xl_scr0 {i : Nat} (hd1 : decode cL_law pc = .ok (.aload_n 0, 1)) (hd2 : decode cL_law (pc + 1) = .ok (.iload 4, 2)) (hd3 : decode cL_law (pc + 1 + 2) = .ok (.iaload, 1)) (hv : xlk ls 4 = some (vI (i : Int))) (hi : i < k.2.1) (hL : k.2.1 ≤ 4096) (kk : xl g k rc rs (pc + 1 + 2 + 1) ls (vI (k.2.2 i).toInt :: st) n f) : xl g k rc rs pc ls st n f := by
  intro hG hX hb p e m below meth c H locs cells slots A C hR hlo hc hs hl
  obtain ⟨scr, h1, h2, h3, h4, h5⟩ := hX
  obtain ⟨hin, hcl⟩ := xix (z := (i : Int)) rfl hi (show k.2.1 ≤ 2147483647 by omega)
  refine lv_aload_n C.1 C.2.1 hd1 rfl (xLl_0 hl) ?_
  refine lv_iload C.1 C.2.1 hd2 (xLl_at hl hv) ?_
  refine W.iald (v := .int (k.2.2 i)) C.1 C.2.1 (by rw [hR.2.1 k.1 hb]; exact h1) h2 h3 (by rw [h4]; exact hin) (by rw [hcl]; exact h5 i hi) rfl rfl hd3 ?_
  have e1 : (Value.int (k.2.2 i)) = xcv (gB g) (vI (k.2.2 i).toInt) := by show _ = Value.int (Int32.ofInt _); rw [Int32.ofInt_toInt]
  rw [e1]
  exact kk hG ⟨scr, h1, h2, h3, h4, h5⟩ hb p e m below meth c H locs cells slots A C hR hlo hc hs hl
theorem xl_scr {i j z : Nat} {op : Instr} {ln : Nat} (hd1 : decode cL_law pc = .ok (.aload_n 0, 1)) (hd2 : decode cL_law (pc + 1) = .ok (.iload 4, 2)) (hd3 : decode cL_law (pc + 1 + 2) = .ok (op, ln)) (hop : (op = .iconst (j : Int) ∧ ln = 1) ∨ (op = .bipush (j : Int) ∧ ln = 2 ∧ (Int8.ofInt (j : Int)).toInt32 = Int32.ofInt (j : Int))) (hd4 : decode cL_law (pc + 1 + 2 + ln) = .ok (.iadd, 1)) (hd5 : decode cL_law (pc + 1 + 2 + ln + 1) = .ok (.iaload, 1)) (hv : xlk ls 4 = some (vI (i : Int))) (hz : z = i + j) (hi : z < k.2.1) (hL : k.2.1 ≤ 4096) (kk : xl g k rc rs (pc + 1 + 2 + ln + 1 + 1) ls (vI (k.2.2 z).toInt :: st) n f) : xl g k rc rs pc ls st n f := by
  intro hG hX hb p e m below meth c H locs cells slots A C hR hlo hc hs hl
  obtain ⟨scr, h1, h2, h3, h4, h5⟩ := hX
  obtain ⟨hin, hcl⟩ := xix (z := (z : Int)) rfl hi (show k.2.1 ≤ 2147483647 by omega)
  have K : W p (gl g) e room_1 (g0 g) m #[Value.ref k.1] below meth c H locs cells slots (lw_Z below #[Value.ref k.1] (g0 g)) (F0 m (pc + 1 + 2 + ln) A (.int (Int32.ofInt (j : Int)) :: .int (Int32.ofInt (i : Int)) :: .ref k.1 :: st.map (xcv (gB g)))) := by
    refine lv_iadd C.1 C.2.1 hd4 ?_
    rw [← Int32.ofInt_add, show (i : Int) + (j : Int) = (z : Int) by omega]
    refine W.iald (v := .int (k.2.2 z)) C.1 C.2.1 (by rw [hR.2.1 k.1 hb]; exact h1) h2 h3 (by rw [h4]; exact hin) (by rw [hcl]; exact h5 z hi) rfl rfl hd5 ?_
    have e1 : (Value.int (k.2.2 z)) = xcv (gB g) (vI (k.2.2 z).toInt) := by show _ = Value.int (Int32.ofInt _); rw [Int32.ofInt_toInt]
    rw [e1]
    exact kk hG ⟨scr, h1, h2, h3, h4, h5⟩ hb p e m below meth c H locs cells slots A C hR hlo hc hs hl
  refine lv_aload_n C.1 C.2.1 hd1 rfl (xLl_0 hl) ?_
  refine lv_iload C.1 C.2.1 hd2 (xLl_at hl hv) ?_
  rcases hop with ⟨rfl, rfl⟩ | ⟨rfl, rfl, hj⟩
  · exact lv_iconst C.1 C.2.1 hd3 rfl K
  · exact lv_bipush C.1 C.2.1 hd3 hj K
theorem xl_slen (hd1 : decode cL_law pc = .ok (.aload_n 0, 1)) (hd2 : decode cL_law (pc + 1) = .ok (.arraylength, 1)) (kk : xl g k rc rs (pc + 1 + 1) ls (vI (k.2.1 : Int) :: st) n f) : xl g k rc rs pc ls st n f := by
  intro hG hX hb p e m below meth c H locs cells slots A C hR hlo hc hs hl
  obtain ⟨scr, h1, h2, h3, h4, h5⟩ := hX
  refine lv_aload_n C.1 C.2.1 hd1 rfl (xLl_0 hl) ?_
  refine W.alen (n := Int32.ofNat k.2.1) C.1 C.2.1 (by rw [hR.2.1 k.1 hb]; exact h1) h2 (by rw [h4] <;> rfl) rfl rfl hd2 ?_
  exact kk hG ⟨scr, h1, h2, h3, h4, h5⟩ hb p e m below meth c H locs cells slots A C hR hlo hc hs hl
theorem xl_lald {a N j : Nat} {z : Int} {c9 : Nat → Int} (hd : decode cL_law pc = .ok (.laload, 1)) (ha : f a = some (.inl (1, N, .inr (.inl c9)))) (hz : z = (j : Int)) (hj : j < N) (hN : N ≤ 2147483647) (kk : xl g k rc rs (pc + 1) ls (vL (c9 j) :: st) n f) : xl g k rc rs pc ls (vI z :: vR a :: st) n f := by
  intro hG hX hb p e m below meth c H locs cells slots A C hR hlo hc hs hl
  have hcell := (hR.2.2 a _ ha).2
  obtain ⟨hin, hcl⟩ := xix hz hj hN
  exact W.lald (v := xcv (gB g) (vL (c9 j))) C.1 C.2.1 hcell ((hG.2.2.2.1 1 _ rfl).1 N (fun j => .long (Int64.ofInt (c9 j)))) (fun q => by cases q) (by show ¬ (_ < 0 ∨ (arrV _ _ _).slots.size ≤ _); rw [arrV_size]; exact hin) (by show (arrV _ _ _).slots[_]? = _; rw [hcl, arrV_read _ _ hj]; rfl) rfl rfl hd (kk hG hX hb p e m below meth c H locs cells slots A C hR hlo hc hs hl)
/-- the end: true -/
theorem xl_end (hd : decode cL_law pc = .ok (.ireturn, 1)) : xl g k rc rs pc ls [vI 1] n f := by
  intro hG hX hb p e m below meth c H locs cells slots A C hR hlo hc hs hl
  refine va_forget (fun q hq => hlo q hq) ?_
  refine W.widen (k := 601024) (n := 7293034) (by omega) (by omega) ?_
  exact lw_ret C.1 C.2.1 C.2.2.1 C.2.2.2.2.2 hd
abbrev xKl (g : xG) (k : scT) (rc rs pc : Nat) (ls : xS) (st : List xV) : xP := fun o n f => match o with
  | .inl v => xl g k rc rs pc ls (v.toList ++ st) n f
  | .inr _ => False
theorem xl_behind {p : Program} {e : Env} {m : MethodId} {below : List Frame} {meth : Method} {c : Code} {locs L : List Loc} {cells slots mc2 ms2 : Nat} {A : Array Slot} {t T T1 : State} {v : Option Value}
    (hG : okG g) (hX : va_X k.1 k.2.1 k.2.2 (g0 g) (g0 g).heap) (hb : k.1 < gB g) (C : xCl p (g0 g) m meth c) (hlo : ∀ z ∈ locs, gF g z.base) (hc : cells + (rc + mc2) ≤ 601024) (hs : slots + (rs + ms2) ≤ 7293034) (hl : xLl g k.1 ls A) (X : Stand p (gl g) e room_1 (g0 g) m #[Value.ref k.1] below meth c T1 (locs ++ L) (cells + mc2) (slots + ms2)) (hL : ∀ z ∈ L, gF g z.base) (e1 : T1.heap = t.heap)
    {a : Array Value} {st0 : State} (hq : xQr g (xKl g k rc rs (pc + 3) ls st) a st0 (.returned v) t) (F : JFrame)
    (hgo : ∀ tg, Steps p.tables e below (T1.setTop (F0 m (pc + 3) A (v.toList ++ st.map (xcv (gB g))))) tg → Steps p.tables e below (T.setTop F) tg) : ∃ t2, Steps p.tables e below (T.setTop F) t2 ∧ lw_Z below #[Value.ref k.1] (g0 g) t2 := by
  obtain ⟨v1, n1, f1, ev, hR1, hQ1⟩ := hq
  have ev1 : v = v1.map (xcv (gB g)) := Outcome.returned.inj ev
  have hlo1 : ∀ z ∈ locs ++ L, gF g z.base := fun z hz => (List.mem_append.mp hz).elim (hlo z) (hL z)
  obtain ⟨t2, a1, b1⟩ := hQ1 hG hX hb p e m below meth c T1.heap (locs ++ L) (cells + mc2) (slots + ms2) A C (by rw [e1]; exact hR1) hlo1 (by omega) (by omega) hl T1 rfl X
  refine ⟨t2, hgo t2 ?_, b1⟩
  subst ev1
  cases v1 with
  | none => exact a1
  | some w => exact a1
theorem xl_callV {idx a ci mc2 ms2 : Nat} {fs : Nat → xV} {As sk : List xV} {y2 : xM} (hd : decode cL_law pc = .ok (.invokevirtual idx, 3)) (hm : xMV RL idx As.length y2) (ha : f a = some (.inr (ci, fs))) (hci : (xcl[ci]?).map (fun q => q.1) = some (mN y2).cls) (hfr : mF y2 + 1 ≤ 12) (hlo2 : 8 + (mL y2 + 11) + mW y2 ≤ 518) (hst : (st.map xcat).sum ≤ 8) (hsk : sk = As.reverse ++ vR a :: st)
    (ct : xct g y2 mc2 ms2 (vR a :: As) n f (xKl g k rc rs (pc + 3) ls st)) : xl g k (rc + mc2) (rs + ms2) pc ls sk n f := by
  intro hG hX hb p e m below meth c H locs cells slots A C hR hlo hc hs hl
  obtain ⟨hmc, hm1, hm2, hm3⟩ := hm
  have hW : (g0 g).WarmedH (g0 g).vm := State.WarmedH.refl _
  have hS : CallFix p m c cL_law 7 (g0 g) #[Value.ref k.1] [] RL := ⟨C.1, C.2.1, C.2.2.2.1, C.2.2.2.2.1, fun _ h => by cases h⟩
  have hcd := xMc_code hmc
  have cw : CallW room_1 (g0 g) #[Value.ref k.1] RL (mN y2).cls idx (mN y2) (mB y2) (mL y2) (mT y2) [mcode y2] (xroom y2 mc2 ms2) mc2 ms2 As.length :=
    ⟨⟨rfl, rfl, hfr, hlo2, fun w hw a9 U hU => by rw [List.mem_singleton.mp hw, hcd]; exact xgw hG hmc.2.1 hU, by rw [hcd]; exact List.mem_cons_self, xgw hG hmc.2.1 hW, xgw hG hmc.2.2.1 hW, hmc.2.2.2.1, xMc_len hmc, xgw hG hm1 hW⟩, xgw hG hm2 hW, xgw hG hm3 hW⟩
  obtain ⟨r, hr1, cell, q1, q2, q3, q4⟩ := (hR.2.2 a _ ha).2
  have hrc : r.1 = (mN y2).cls := by rw [hr1] at hci; exact Option.some.inj hci
  have hp : PreV (g0 g) H (mN y2).cls (gB g + a) (xPc g (vR a :: As) n f) (As.map (xcv (gB g))) :=
    ⟨fun a9 U g9 mk q => q, ⟨cell, q1, by rw [q3]; rfl, by rw [q2, ← hrc]; exact ((xKn hG hW).1 ci r hr1).2.1⟩, fun U hU hWU => ⟨rfl, by rw [hU]; exact hR, hWU⟩⟩
  have hrun := vx_runV (e := e) (below := below) (meth := meth) (locs := locs) (g := F0 m pc A (sk.map (xcv (gB g)))) (rest := st.map (xcv (gB g))) hS (ct hG) cw hp rfl (List.length_map ..) hl.1 (by rw [hsk, List.map_append, List.map_reverse]; rfl) (lv_room (by rw [xcats]; exact hst)) hd ⟨by show cells + mc2 ≤ 601024; omega, by show slots + ms2 ≤ 7293034; omega⟩
  intro T hT X
  rcases hrun T hT X with ⟨v, st0, t, T1, L, h0, X1, hL, e1, e2, hq, hgo⟩ | ⟨q, st0, t, T1, L, E, ce, h0, X1, hL, e1, e2, hq, hce, hcv, hcl, hgo⟩
  · exact xl_behind hG hX hb C hlo hc hs hl X1 hL e1 hq _ hgo
  · obtain ⟨n1, f1, hR1, hQ1⟩ := hq
    exact hQ1.elim
theorem xl_callSW {idx mc2 ms2 : Nat} {As sk : List xV} {y2 : xM} (hd : decode cL_law pc = .ok (.invokestatic idx, 3)) (hm : xMSW RL idx As.length y2) (hfr : mF y2 + 1 ≤ 12) (hlo2 : 8 + (mL y2 + 11) + mW y2 ≤ 518) (hst : (st.map xcat).sum ≤ 8) (hsk : sk = As.reverse ++ st)
    (ct : xct g y2 mc2 ms2 As n f (xKl g k rc rs (pc + 3) ls st)) : xl g k (rc + mc2) (rs + ms2) pc ls sk n f := by
  intro hG hX hb p e m below meth c H locs cells slots A C hR hlo hc hs hl
  obtain ⟨hcd, hm1, hm2, hm3, hm4, hm5, hm6⟩ := hm
  have hW : (g0 g).WarmedH (g0 g).vm := State.WarmedH.refl _
  have hS : CallFix p m c cL_law 7 (g0 g) #[Value.ref k.1] [] RL := ⟨C.1, C.2.1, C.2.2.2.1, C.2.2.2.2.1, fun _ h => by cases h⟩
  have cw : vx_CSW room_1 (g0 g) #[Value.ref k.1] RL idx (mN y2) (mB y2) (mL y2) (mT y2) (mH y2) [mcode y2] (xroom y2 mc2 ms2) mc2 ms2 As.length :=
    ⟨⟨rfl, rfl, hfr, hlo2, fun w hw a9 U hU => by rw [List.mem_singleton.mp hw, hcd]; exact xgw hG hm1 hU, by rw [hcd]; exact List.mem_cons_self⟩, xgw hG hm1 hW, xgw hG hm2 hW, hm3, fun sig hs => by
      rw [hs] at hm4
      exact (Option.some.inj hm4).symm, xgw hG hm5 hW, xgw hG hm6 hW⟩
  have hp : PreS (g0 g) H (xPc g As n f) (As.map (xcv (gB g))) := ⟨fun a9 U g9 mk q => q, fun U hU hWU => ⟨rfl, by rw [hU]; exact hR, hWU⟩⟩
  have hrun := vx_runSX (e := e) (below := below) (meth := meth) (locs := locs) (g := F0 m pc A (sk.map (xcv (gB g)))) (rest := st.map (xcv (gB g))) hS (ct hG) cw hp rfl (List.length_map ..) hl.1 (by rw [hsk, List.map_append, List.map_reverse]) (lv_room (by rw [xcats]; exact hst)) hd ⟨by show cells + mc2 ≤ 601024; omega, by show slots + ms2 ≤ 7293034; omega⟩
  intro T hT X
  rcases hrun T hT X with ⟨v, st0, t, T1, L, h0, X1, hL, e1, e2, hq, hgo⟩ | ⟨q, st0, t, T1, L, E, ce, h0, X1, hL, e1, e2, hq, hce, hcv, hcl, hgo⟩
  · exact xl_behind hG hX hb C hlo hc hs hl X1 hL e1 hq _ hgo
  · obtain ⟨n1, f1, hR1, hQ1⟩ := hq
    exact hQ1.elim
end Cb3
