/-! switches, and a stretch that is copied -/
section C66
variable {g : xG} {y : xM} {Q : xP} {rc rs pc : Nat} {ls : xS} {st : List xV} {n : Nat} {f : xH}
theorem xw_tin {dflt lo hi off z : Int} {offs : Array Int} {len tgt : Nat} (hd : decode (mB y) pc = .ok (.tableswitch dflt lo hi offs, len)) (hz : inI z) (h1 : lo ≤ z) (h2 : z ≤ hi) (ho : offs[(z - lo).toNat]? = some off) (ht : (pc : Int) + off = (tgt : Int)) (k : xw g y Q rc rs tgt ls st n f) : xw g y Q rc rs pc ls (vI z :: st) n f :=
  xw_pure (fun hG p e R s m args below meth c H locs cells slots Q9 A C hl kk => lv_tableIn (x := Int32.ofInt z) C.1 C.2.1 hd (by rw [i32_to hz]; omega) (by rw [i32_to hz]; omega) (by rw [i32_to hz]; exact ho) ht kk) k
theorem xw_tout {dflt lo hi z : Int} {offs : Array Int} {len tgt : Nat} (hd : decode (mB y) pc = .ok (.tableswitch dflt lo hi offs, len)) (hz : inI z) (h1 : z < lo ∨ hi < z) (ht : (pc : Int) + dflt = (tgt : Int)) (k : xw g y Q rc rs tgt ls st n f) : xw g y Q rc rs pc ls (vI z :: st) n f :=
  xw_pure (fun hG p e R s m args below meth c H locs cells slots Q9 A C hl kk => lv_tableOut (x := Int32.ofInt z) C.1 C.2.1 hd (by rw [i32_to hz]; exact h1) ht kk) k
theorem xw_lsw {dflt off z : Int} {ps : Array (Int × Int)} {len tgt : Nat} (hd : decode (mB y) pc = .ok (.lookupswitch dflt ps, len)) (hz : inI z) (hp : (ps.toList.zip (ps.toList.drop 1)).all (fun (a, next) => a.1 < next.1) = true) (ho : Op.lookupswitch.offset ps.toList dflt z = off) (ht : (pc : Int) + off = (tgt : Int)) (k : xw g y Q rc rs tgt ls st n f) : xw g y Q rc rs pc ls (vI z :: st) n f :=
  xw_pure (fun hG p e R s m args below meth c H locs cells slots Q9 A C hl kk => lv_lookup (x := Int32.ofInt z) C.1 C.2.1 hd hp (by rw [i32_to hz]; exact ho) ht kk) k
end C66
section C66b
variable {p : Program} {l : Launch} {e : Env} {R : Room} {s : State} {m : MethodId} {args : Array Value} {below : List Frame} {meth : Method} {c : Code} {H : Heap} {locs : List Loc} {cells slots : Nat} {Q : State → Prop}
variable {cc : ByteArray} {pc : Nat} {ls : Array Slot} {rest : List Value} {a : Nat}
theorem cp_l (hexec : p.tables.exec = Jvm.exec) (hb : c.code = cc) (hml : c.maxLocals = ls.size) {own : String} {index : Nat} (hown : s.vm.findClass own = some m.cls) (hlink : (Cond.methodLink own index arraycopyName).before args s = true) (hnat : (Cond.native arraycopyName).before args s = true) (hstat : (Cond.static arraycopyName).before args s = true) (hini : (Cond.initialized "java/lang/System").before args s = true)
    {a0 : Nat} {c0 : ClassId} {n0 n1 : Nat} {f g : Nat → Int64} (hA : ArrOfT s c0 .long) (hc0 : H[a0]? = some (vp_cell c0 (n0, .inr (.inl f)))) (hc1 : H[a]? = some (vp_cell c0 (n1, .inr (.inl g))))
    {sp dp n : Int32} (h1 : ¬ sp < 0) (h2 : ¬ dp < 0) (h3 : ¬ n < 0) (h4 : sp.toNatClampNeg + n.toNatClampNeg ≤ n0) (h5 : dp.toNatClampNeg + n.toNatClampNeg ≤ n1)
    (hframes : 1 ≤ R.frames) (hlocals : (rest.map fun v => v.category).sum + (nativeFrameWords "java/lang/System" "arraycopy" 5 + 11) ≤ R.locals) (hdg : decode cc pc = .ok (.invokestatic index, 3))
    (kk : ∀ (H1 : Heap) (locs1 : List Loc), H1[a]? = some (vp_cell c0 (n1, .inr (.inl (va_cpy f g sp.toNatClampNeg dp.toNatClampNeg n.toNatClampNeg)))) → H1.size = H.size → (∀ q : Nat, q ≠ a → H1[q]? = H[q]?) → (∀ z ∈ locs1, z ∈ locs ∨ z.base = a) → W p l e R s m args below meth c H1 locs1 cells slots Q (F0 m (pc + 3) ls rest)) : W p l e R s m args below meth c H locs cells slots Q (F0 m pc ls (.int n :: .int dp :: .ref a :: .int sp :: .ref a0 :: rest)) := by
  have nn : ∀ z : Int32, ¬ z < 0 → z.toInt = (z.toNatClampNeg : Int) := by
    intro z hz
    have hz0 : (0 : Int) ≤ z.toInt := by
      have := Int32.not_lt.mp hz
      simpa using Int32.le_iff_toInt_le.mp this
    show z.toInt = ((z.toInt.toNat : Nat) : Int)
    omega
  intro T hT X
  obtain ⟨-, k0, hk0, cm0, hkk0⟩ := hA n0 (fun j => .long (f j))
  obtain ⟨-, k1, hk1, cm1, hkk1⟩ := hA n1 (fun j => .long (g j))
  obtain ⟨vm', X', step⟩ := X.arraycopy hexec hown hlink hnat hstat hini (src := a0) (dst := a) (cs := vp_cell c0 (n0, .inr (.inl f))) (cd := vp_cell c0 (n1, .inr (.inl g))) (srcPos := sp) (destPos := dp) (n := n) (by rw [hT]; exact hc0) (by rw [hT]; exact hc1)
    (fun _ h => by cases h) (fun _ h => by cases h) (fun h => by cases h) (fun h => by cases h) hk0 hk1 hkk0 hkk1 (by decide) h1 h2 h3
    (by rw [nn sp h1, nn n h3]; show ¬ _ > ((arrV c0 n0 (fun j => .long (f j))).slots.size : Int); rw [arrV_size]; omega)
    (by rw [nn dp h2, nn n h3]; show ¬ _ > ((arrV c0 n1 (fun j => .long (g j))).slots.size : Int); rw [arrV_size]; omega)
    (fun vm₁ _ i hi => by
      have e : (vp_cell c0 (n0, .inr (.inl f))).slots.getD (sp.toNatClampNeg + i) .null = .long (f (sp.toNatClampNeg + i)) := by
        show (arrV c0 n0 (fun j => .long (f j))).slots.getD _ _ = _
        rw [Array.getD_eq_getD_getElem?, arrV_read _ _ (by omega)]
        rfl
      refine ⟨?_, ?_⟩
      · rw [e]; rfl
      · rw [e]; exact trivial)
    (g := F0 m pc ls (.int n :: .int dp :: .ref a :: .int sp :: .ref a0 :: rest)) rfl (by rw [hml]) (rest := rest) rfl (by rw [hb]; exact hdg) hframes (by show 2 * 0 + _ + _ ≤ _; omega)
  have e1 : copied (vp_cell c0 (n0, .inr (.inl f))) (vp_cell c0 (n1, .inr (.inl g))) sp dp n = vp_cell c0 (n1, .inr (.inl (va_cpy f g sp.toNatClampNeg dp.toNatClampNeg n.toNatClampNeg))) := va_copied (fun z => .long z) c0 c0 f g h4
  rw [e1] at X' step
  have hl : a < H.size := (Array.getElem?_eq_some_iff.mp hc1).1
  have hheap : ((T.setVm vm').setCell a (vp_cell c0 (n1, .inr (.inl (va_cpy f g sp.toNatClampNeg dp.toNatClampNeg n.toNatClampNeg))))).heap = H.setIfInBounds a (vp_cell c0 (n1, .inr (.inl (va_cpy f g sp.toNatClampNeg dp.toNatClampNeg n.toNatClampNeg)))) := by rw [← hT]; rfl
  have oq : ∀ q : Nat, q ≠ a → (H.setIfInBounds a (vp_cell c0 (n1, .inr (.inl (va_cpy f g sp.toNatClampNeg dp.toNatClampNeg n.toNatClampNeg)))))[q]? = H[q]? := fun q hq => by simp [Array.getElem?_setIfInBounds, Ne.symm hq]
  obtain ⟨t, a1, b1⟩ := kk _ _ (by simp [Array.getElem?_setIfInBounds, hl]) (by simp) oq (fun q hq => by
      rcases List.mem_append.mp hq with h | h
      · exact Or.inl h
      · obtain ⟨z, -, hz⟩ := List.mem_map.mp h
        rw [← hz]
        exact Or.inr rfl) _ hheap X'
  exact ⟨t, step t a1, b1⟩
end C66b
section C66c
variable {g : xG} {y : xM} {Q : xP} {rc rs pc : Nat} {ls : xS} {st : List xV} {n : Nat} {f : xH}
theorem xw_copyL {index a0 a n0 n1 sp dp k : Nat} {c0 c1 : Nat → Int} (hd : decode (mB y) pc = .ok (.invokestatic index, 3)) (t1 : xin (.methodLink (mN y).cls index arraycopyName)) (t2 : xin (.native arraycopyName)) (t3 : xin (.static arraycopyName)) (t4 : xin (.initialized "java/lang/System")) (ha0 : f a0 = some (aL n0 c0)) (ha : f a = some (aL n1 c1)) (hs : sp + k ≤ n0) (hdp : dp + k ≤ n1) (h0 : n0 ≤ 1000) (h1 : n1 ≤ 1000) (hF : 1 ≤ mF y) (hW9 : (st.map xcat).sum + (nativeFrameWords "java/lang/System" "arraycopy" 5 + 11) ≤ mW y)
    (kk : xw g y Q rc rs (pc + 3) ls st n (xup f a (aL n1 (fun j => if dp ≤ j ∧ j < dp + k then c0 (sp + (j - dp)) else c1 j)))) : xw g y Q rc rs pc ls (vI (k : Int) :: vI (dp : Int) :: vR a :: vI (sp : Int) :: vR a0 :: st) n f := by
  intro hG p e s m args below meth c H locs mc ms cells slots A C hR hZ hlo hc hs9 hl
  obtain ⟨hx, hb, hr, hml, hown, hlk, hnm, htb, hW, hB, hbot⟩ := id C
  have q0 : ∀ z : Nat, z ≤ 1000 → ¬ Int32.ofInt (z : Int) < 0 ∧ (Int32.ofInt (z : Int)).toNatClampNeg = z := fun z hz => by
    obtain ⟨h2, h3⟩ := xix (z := (z : Int)) (j := z) (N := z + 1) rfl (by omega) (by omega)
    exact ⟨fun q => h2 (Or.inl q), h3⟩
  have hc0 := (hR.2.2 a0 _ ha0).2
  have hc1 := (hR.2.2 a _ ha).2
  refine cp_l (sp := Int32.ofInt (sp : Int)) (dp := Int32.ofInt (dp : Int)) (n := Int32.ofInt (k : Int)) hx hb (by rw [hml]; exact hl.1.symm) hown (xgw hG t1 hW) (xgw hG t2 hW) (xgw hG t3 hW) (xgw hG t4 hW) (xAr hG hW (t := 1) rfl).1 hc0 hc1 (q0 sp (by omega)).1 (q0 dp (by omega)).1 (q0 k (by omega)).1 (by rw [(q0 sp (by omega)).2, (q0 k (by omega)).2]; exact hs) (by rw [(q0 dp (by omega)).2, (q0 k (by omega)).2]; exact hdp) hF (by rw [xcats]; exact hW9) hd (fun H1 locs1 e1 e2 e3 e4 => ?_)
  refine kk hG p e s m args below meth c H1 locs1 mc ms cells slots A C (xR_set hR ha e2 e3 ?_) (by rw [e2]; exact hZ) (fun z hz => ?_) hc hs9 hl
  · show H1[gB g + a]? = some (vp_cell _ _)
    rw [e1, (q0 sp (by omega)).2, (q0 dp (by omega)).2, (q0 k (by omega)).2]
    have hfun : va_cpy (fun i => Int64.ofInt (c0 i)) (fun i => Int64.ofInt (c1 i)) sp dp k = fun j => Int64.ofInt (if dp ≤ j ∧ j < dp + k then c0 (sp + (j - dp)) else c1 j) := by
      funext j
      unfold va_cpy
      split <;> rfl
    rw [hfun]
    rfl
  · rcases e4 z hz with h | h
    · exact hlo z h
    · show gB g ≤ z.base
      rw [h]; exact Nat.le_add_right _ _
theorem cp_1 : xin (.methodLink RX9 109 arraycopyName) := xi3 224 rfl rfl
theorem cp_2 : xin (.native arraycopyName) := xi3 226 rfl rfl
theorem cp_3 : xin (.static arraycopyName) := xi3 225 rfl rfl
theorem cp_4 : xin (.initialized "java/lang/System") := xi1 16 rfl rfl
end C66c
