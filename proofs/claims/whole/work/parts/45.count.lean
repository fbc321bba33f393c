/-! how many are in a set: the JDK's bitCount -/
theorem vx_ofWF {l : Launch} {y : MethodName} {ws ws' : List Cond} {rm : Room} {Pc : Array Value → State → Prop} {Qc : Array Value → State → Outcome → State → Prop} {XC : String → State → State → Prop} {mc ms : Nat} {free : Addr → Prop} {cc : ByteArray} {maxL : Nat} {ret : Option FieldType}
    (hy : plainFor y = true) (hw : ws = Cond.code y cc maxL ret :: ws')
    (body : ∀ p e s m args below meth c s₁, BodyLoose p l y (headSpec ws rm) cc maxL ret e s m args below meth c s₁ → c.maxLocals = maxL → (∀ x ∈ c.exceptionTable.toList, False) → Pc args s →
      W p l e (headSpec ws rm).room s m args below meth c s.heap [] 0 0 (vx_MQ below Qc XC args s mc ms free) (entryFrame m args maxL)) : vx_Met l y ws rm Pc Qc XC mc ms free := by
  refine MetFree.of_bodySF (code := cc) (maxLocals := maxL) (ret := ret) hy ?_ ?_
  · intro args s m h hn
    obtain ⟨meth, c, h1, h2, h3, h4, h5, h6, -, -⟩ := Cond.code_spec hn (atoms_spec (ws := ws) h _ (by rw [hw]; exact List.mem_cons_self))
    exact ⟨meth, c, h1, h2, h3, h4, h5, h6⟩
  · intro p e s m args below meth c s₁ B hml hP _
    have hh0 : s₁.heap = s.heap := by rw [B.state]; rfl
    have ht : ∀ x ∈ c.exceptionTable.toList, False := by
      obtain ⟨meth9, c9, h1, h2, -, -, -, -, h7, -⟩ := Cond.code_spec B.named (atoms_spec (ws := ws) B.pre _ (by rw [hw]; exact List.mem_cons_self))
      cases Option.some.inj (h1.symm.trans B.method)
      cases Option.some.inj (h2.symm.trans (Stand.of_body B).code)
      intro x hx
      rw [Array.isEmpty_iff.mp h7] at hx
      cases hx
    obtain ⟨t, a1, o, b1, b2, b3⟩ := body p e s m args below meth c s₁ B hml ht hP s₁ hh0 (Stand.of_body B)
    exact ⟨t, o, a1, b1, b2, b3⟩
theorem xct_ofF {g : xG} {y : xM} {Q : xP} {n : Nat} {f : xH} {mc ms : Nat} {As : List xV} (hy : plainFor (mN y) = true) (hh : mH y = []) (hlen : (As.map xcat).sum ≤ mL y) (h : xw g y Q mc ms 0 (xla 0 As) [] n f) : xct g y mc ms As n f Q := by
  intro hG
  refine vx_ofWF (cc := mB y) (maxL := mL y) (ret := mT y) (ws' := []) hy (by unfold mcode; rw [hh]) ?_
  intro p e s m args below meth c s1 B hml ht hv
  obtain ⟨hargs, hR, hW⟩ := hv
  have hl := lv_entry (As.map (xcv (gB g))) (n := mL y) (by
    have : (lg_sl (As.map (xcv (gB g)))).length = (As.map xcat).sum := by
      rw [← xcats (gB g) As]
      unfold lg_sl
      rw [List.length_flatMap]
      congr 1
      apply List.map_congr_left
      intro v _
      rcases lv_cat v with h1 | h1 <;> simp [h1]
    omega)
  rw [hargs, lg_entry_eq]
  rw [← xla_map] at hl
  have hn := name_of_methodNamed B.named B.method
  exact h hG p e s m _ below meth c s.heap [] mc ms 0 0 _ ⟨B.exec, B.bytes, B.returns, hml, findClass_of_methodNamed B.named, B.notSynchronized, hn.1, by rw [hh]; exact List.eq_nil_iff_forall_not_mem.mpr (fun x hx => ht x hx), hW, by rw [hR.1]; omega, hR.2.1⟩ hR (Nat.le_refl _) (fun z hz => by cases hz) (by omega) (by omega) hl
/-- how many of the first k places are in x -/
def cnt (x : Nat) : Nat → Nat
  | 0 => 0
  | k + 1 => cnt x k + (if x.testBit k = true then 1 else 0)
theorem cnt_add (x a : Nat) : ∀ b, cnt x (a + b) = cnt x a + cnt (x / 2 ^ a) b := by
  intro b
  induction b with
  | zero => rfl
  | succ b ih =>
    have e1 : cnt x (a + (b + 1)) = cnt x (a + b) + (if x.testBit (a + b) = true then 1 else 0) := rfl
    have e2 : cnt (x / 2 ^ a) (b + 1) = cnt (x / 2 ^ a) b + (if (x / 2 ^ a).testBit b = true then 1 else 0) := rfl
    rw [e1, e2, ih, Nat.testBit_div_two_pow, Nat.add_comm b a]
    omega
theorem cnt_mod (x a : Nat) : ∀ b, b ≤ a → cnt (x % 2 ^ a) b = cnt x b := by
  intro b
  induction b with
  | zero => intro _; rfl
  | succ b ih =>
    intro hb
    show cnt (x % 2 ^ a) b + _ = cnt x b + _
    rw [ih (by omega), Nat.testBit_mod_two_pow, decide_eq_true (show b < a by omega), Bool.true_and]
def g1 (M x : Nat) : Nat := x - ((x / 2) &&& M)
def g2 (M x : Nat) : Nat := (x &&& M) + ((x / 4) &&& M)
def g3 (M x : Nat) : Nat := (x + x / 16) &&& M
theorem and_split {a c : Nat} (b d : Nat) (ha : a < 256) (hc : c < 256) : (a + 256 * b) &&& (c + 256 * d) = (a &&& c) + 256 * (b &&& d) := by
  have h1 : ((a + 256 * b) &&& (c + 256 * d)) % 2 ^ 8 = a &&& c := by
    rw [Nat.and_mod_two_pow]; congr 1 <;> omega
  have h2 : ((a + 256 * b) &&& (c + 256 * d)) / 2 ^ 8 = b &&& d := by
    rw [Nat.and_div_two_pow]; congr 1 <;> omega
  omega
theorem k1 : ∀ b, b < 256 → ∀ t, t < 2 → (b / 2 + 128 * t) &&& 85 = (b / 2) &&& 85 := by decide +kernel
theorem k2 : ∀ b, b < 256 → ∀ t, t < 4 → (b / 4 + 64 * t) &&& 51 = (b / 4) &&& 51 := by decide +kernel
theorem k3 : ∀ b, b < 256 → g1 85 b < 256 ∧ g2 51 (g1 85 b) ≤ 68 ∧ g2 51 (g1 85 b) % 16 ≤ 4 ∧ g3 15 (g2 51 (g1 85 b)) = cnt b 8 ∧ cnt b 8 ≤ 8 := by decide +kernel
theorem g1_s {b : Nat} (y M : Nat) (hb : b < 256) : g1 (85 + 256 * M) (b + 256 * y) = g1 85 b + 256 * g1 M y := by
  unfold g1
  have e : (b + 256 * y) / 2 = (b / 2 + 128 * (y % 2)) + 256 * (y / 2) := by omega
  rw [e, and_split _ _ (by omega) (by decide), k1 b hb _ (by omega)]
  have h1 : b / 2 &&& 85 ≤ b / 2 := Nat.and_le_left
  have h2 : y / 2 &&& M ≤ y / 2 := Nat.and_le_left
  omega
theorem g2_s {b : Nat} (y M : Nat) (hb : b < 256) : g2 (51 + 256 * M) (b + 256 * y) = g2 51 b + 256 * g2 M y := by
  unfold g2
  have e : (b + 256 * y) / 4 = (b / 4 + 64 * (y % 4)) + 256 * (y / 4) := by omega
  rw [e, and_split _ _ hb (by decide), and_split _ _ (show b / 4 + 64 * (y % 4) < 256 by omega) (by decide), k2 b hb _ (by omega)]
  omega
theorem g3_s {b : Nat} (y M : Nat) (hb : b ≤ 68) (hy : y % 16 ≤ 4) : g3 (15 + 256 * M) (b + 256 * y) = g3 15 b + 256 * g3 M y := by
  unfold g3
  have e : b + 256 * y + (b + 256 * y) / 16 = (b + b / 16 + 16 * (y % 16)) + 256 * (y + y / 16) := by omega
  have m15 : ∀ x : Nat, x &&& 15 = x % 16 := fun x => Nat.and_two_pow_sub_one_eq_mod x 4
  rw [e, and_split _ _ (by omega) (by decide), m15, m15]
  omega
theorem g_0 (M : Nat) : g1 M 0 = 0 ∧ g2 M 0 = 0 ∧ g3 M 0 = 0 := by unfold g1 g2 g3; simp
/-- three steps on k bytes -/
def rp (c : Nat) : Nat → Nat
  | 0 => 0
  | k + 1 => c + 256 * rp c k
def gg (k x : Nat) : Nat := g3 (rp 15 k) (g2 (rp 51 k) (g1 (rp 85 k) x))
theorem gg_mod (k : Nat) : ∀ y : Nat, g2 (rp 51 k) (g1 (rp 85 k) y) % 16 ≤ 4 := by
  intro y
  cases k with
  | zero => show ((g1 0 y &&& 0) + ((g1 0 y / 4) &&& 0)) % 16 ≤ 4; simp
  | succ k =>
    have hb : y % 256 < 256 := Nat.mod_lt _ (by decide)
    have e : y = y % 256 + 256 * (y / 256) := by omega
    have h3 := k3 (y % 256) hb
    show g2 (51 + 256 * rp 51 k) (g1 (85 + 256 * rp 85 k) y) % 16 ≤ 4
    rw [e, g1_s _ _ hb, g2_s _ _ h3.1]
    omega
theorem gg_s (k b y : Nat) (hb : b < 256) : gg (k + 1) (b + 256 * y) = cnt b 8 + 256 * gg k y := by
  have h3 := k3 b hb
  show g3 (15 + 256 * rp 15 k) (g2 (51 + 256 * rp 51 k) (g1 (85 + 256 * rp 85 k) (b + 256 * y))) = _
  rw [g1_s _ _ hb, g2_s _ _ h3.1, g3_s _ _ h3.2.1 (gg_mod k y), h3.2.2.2.1]
  rfl
theorem gg_0 (k : Nat) : gg k 0 = 0 := by unfold gg; rw [(g_0 _).1, (g_0 _).2.1, (g_0 _).2.2]
theorem cnt8 (x : Nat) : cnt x 8 ≤ 8 := by
  have h := k3 (x % 256) (Nat.mod_lt _ (by decide))
  rw [show (256 : Nat) = 2 ^ 8 from rfl, cnt_mod x 8 8 (by omega)] at h
  exact h.2.2.2.2
theorem gg_x (k x : Nat) : gg (k + 1) x = cnt x 8 + 256 * gg k (x / 256) := by
  have e : x = x % 256 + 256 * (x / 256) := by omega
  have h := gg_s k (x % 256) (x / 256) (Nat.mod_lt _ (by decide))
  rw [← e] at h
  rw [h]
  have h2 := cnt_mod x 8 8 (by omega)
  rw [show (2 : Nat) ^ 8 = 256 from rfl] at h2
  rw [h2]
theorem cnt_5 (x : Nat) : cnt x 40 = cnt x 8 + (cnt (x / 256) 8 + (cnt (x / 65536) 8 + (cnt (x / 16777216) 8 + cnt (x / 4294967296) 8))) := by
  rw [show (40 : Nat) = 8 + 32 from rfl, cnt_add, show (32 : Nat) = 8 + 24 from rfl, cnt_add, show (24 : Nat) = 8 + 16 from rfl, cnt_add, show (16 : Nat) = 8 + 8 from rfl, cnt_add]
  simp only [Nat.div_div_eq_div_mul]
theorem gg_5 {x : Nat} (hx : x < 2 ^ 40) : gg 8 x = cnt x 8 + 256 * (cnt (x / 256) 8 + 256 * (cnt (x / 65536) 8 + 256 * (cnt (x / 16777216) 8 + 256 * cnt (x / 4294967296) 8))) := by
  rw [gg_x, gg_x, gg_x, gg_x, gg_x]
  simp only [Nat.div_div_eq_div_mul, Nat.reduceMul]
  rw [show x / 1099511627776 = 0 from by rw [p40] at hx; omega, gg_0]
  simp only [Nat.mul_zero, Nat.add_zero]
def h4 (z : Nat) : Nat := z + z / 256
def h5 (z : Nat) : Nat := z + z / 65536
def h6 (z : Nat) : Nat := z + z / 4294967296
theorem bc_L {x : Nat} (hx : x < 2 ^ 40) : h6 (h5 (h4 (gg 8 x))) % 128 = cnt x 40 := by
  rw [gg_5 hx, cnt_5]
  have a0 := cnt8 x
  have a1 := cnt8 (x / 256)
  have a2 := cnt8 (x / 65536)
  have a3 := cnt8 (x / 16777216)
  have a4 := cnt8 (x / 4294967296)
  generalize cnt x 8 = c0 at *
  generalize cnt (x / 256) 8 = c1 at *
  generalize cnt (x / 65536) 8 = c2 at *
  generalize cnt (x / 16777216) 8 = c3 at *
  generalize cnt (x / 4294967296) 8 = c4 at *
  have e4 : h4 (c0 + 256 * (c1 + 256 * (c2 + 256 * (c3 + 256 * c4)))) = (c0 + c1) + 256 * ((c1 + c2) + 256 * ((c2 + c3) + 256 * ((c3 + c4) + 256 * c4))) := by unfold h4; omega
  rw [e4]
  have e5 : h5 ((c0 + c1) + 256 * ((c1 + c2) + 256 * ((c2 + c3) + 256 * ((c3 + c4) + 256 * c4)))) = (c0 + c1 + c2 + c3) + 256 * ((c1 + c2 + c3 + c4) + 256 * ((c2 + c3 + c4) + 256 * ((c3 + c4) + 256 * c4))) := by unfold h5; omega
  rw [e5]
  have e6 : h6 ((c0 + c1 + c2 + c3) + 256 * ((c1 + c2 + c3 + c4) + 256 * ((c2 + c3 + c4) + 256 * ((c3 + c4) + 256 * c4)))) = (c0 + c1 + c2 + c3 + c4) + 256 * ((c1 + c2 + c3 + c4) + 256 * ((c2 + c3 + c4) + 256 * ((c3 + c4) + 256 * c4))) := by unfold h6; omega
  rw [e6]
  omega
theorem gg_lt {x : Nat} (hx : x < 2 ^ 40) : gg 8 x ≤ 8 * 4311810305 := by
  rw [gg_5 hx]
  have a0 := cnt8 x
  have a1 := cnt8 (x / 256)
  have a2 := cnt8 (x / 65536)
  have a3 := cnt8 (x / 16777216)
  have a4 := cnt8 (x / 4294967296)
  omega


theorem ushr_n {a : Nat} {k : UInt64} {b : Nat} (hk : (k.toBitVec % 64).toNat = b) (ha : a < 2 ^ 64) : ((lN a).toUInt64 >>> k).toInt64 = lN (a / 2 ^ b) := by
  apply wb_inj
  show ((lN a).toUInt64 >>> k).toBitVec = _
  rw [UInt64.toBitVec_shiftRight, wb_tb]
  show (BitVec.ofNat 64 a) >>> (k.toBitVec % 64) = _
  apply BitVec.eq_of_toNat_eq
  have h2 : a / 2 ^ b ≤ a := Nat.div_le_self _ _
  rw [BitVec.ushiftRight_eq', hk, BitVec.toNat_ushiftRight, BitVec.toNat_ofNat, BitVec.toNat_ofNat, Nat.mod_eq_of_lt ha, Nat.shiftRight_eq_div_pow, Nat.mod_eq_of_lt (by omega)]
theorem ushr_i {a : Nat} {k : UInt32} {b : Nat} (hk : (k.toBitVec % 32).toNat = b) (ha : a < 2 ^ 32) : ((nI a).toUInt32 >>> k).toInt32 = nI (a / 2 ^ b) := by
  apply Int32.toBitVec_inj.mp
  show ((nI a).toUInt32 >>> k).toBitVec = _
  rw [UInt32.toBitVec_shiftRight]
  show (BitVec.ofNat 32 a) >>> (k.toBitVec % 32) = BitVec.ofNat 32 (a / 2 ^ b)
  apply BitVec.eq_of_toNat_eq
  have h2 : a / 2 ^ b ≤ a := Nat.div_le_self _ _
  rw [BitVec.ushiftRight_eq', hk, BitVec.toNat_ushiftRight, BitVec.toNat_ofNat, BitVec.toNat_ofNat, Nat.mod_eq_of_lt ha, Nat.shiftRight_eq_div_pow, Nat.mod_eq_of_lt (by omega)]
theorem and_i {a b : Nat} (ha : a < 2 ^ 32) (hb : b < 2 ^ 32) : nI a &&& nI b = nI (a &&& b) := by
  apply Int32.toBitVec_inj.mp
  rw [Int32.toBitVec_and]
  show BitVec.ofNat 32 a &&& BitVec.ofNat 32 b = BitVec.ofNat 32 (a &&& b)
  apply BitVec.eq_of_toNat_eq
  rw [BitVec.toNat_and, BitVec.toNat_ofNat, BitVec.toNat_ofNat, BitVec.toNat_ofNat, Nat.mod_eq_of_lt ha, Nat.mod_eq_of_lt hb, Nat.mod_eq_of_lt (Nat.and_lt_two_pow _ hb)]
section XU
variable {g : xG} {y : xM} {Q : xP} {rc rs pc : Nat} {ls : xS} {st : List xV} {n : Nat} {f : xH}
theorem xw_lushr {a b : Nat} (hd : decode (mB y) pc = .ok (.lushr, 1)) (hk : (((Int32.ofInt (b : Int)).toInt64.toUInt64 &&& Int64.toUInt64 63).toBitVec % 64).toNat = b) (ha : a < 2 ^ 64) (k : xw g y Q rc rs (pc + 1) ls (vL ((a / 2 ^ b : Nat) : Int) :: st) n f) : xw g y Q rc rs pc ls (vI (b : Int) :: vL (a : Int) :: st) n f :=
  xw_pure (fun hG p e R s m args below meth c H locs cells slots Q9 A C hl kk => lv_lushr (v := Int64.ofInt ((a / 2 ^ b : Nat) : Int)) C.1 C.2.1 hd (by rw [xl_n a, xl_n (a / 2 ^ b)]; exact ushr_n hk ha) kk) k
theorem xw_iushr {a b : Nat} (hd : decode (mB y) pc = .ok (.iushr, 1)) (hk : (((Int32.ofInt (b : Int)).toUInt32 &&& Int32.toUInt32 31).toBitVec % 32).toNat = b) (ha : a < 2 ^ 32) (k : xw g y Q rc rs (pc + 1) ls (vI ((a / 2 ^ b : Nat) : Int) :: st) n f) : xw g y Q rc rs pc ls (vI (b : Int) :: vI (a : Int) :: st) n f :=
  xw_pure (fun hG p e R s m args below meth c H locs cells slots Q9 A C hl kk => lv_iushr (v := Int32.ofInt ((a / 2 ^ b : Nat) : Int)) C.1 C.2.1 hd (by rw [xi_n a, xi_n (a / 2 ^ b)]; exact ushr_i hk ha) kk) k
end XU
