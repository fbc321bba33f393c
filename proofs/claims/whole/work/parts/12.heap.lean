/-! cells: reading, writing, making -/
theorem xat_kept {g : xG} {k : Nat} {e : xE} {H H1 : Heap} (h : xat g k e H) (hq : H1[gB g + k]? = H[gB g + k]?) : xat g k e H1 := by
  cases e with
  | inl a => exact hq.trans h
  | inr o =>
    obtain ⟨r, h1, h2⟩ := h
    exact ⟨r, h1, h2.kept hq⟩
theorem xR_set {g : xG} {n a : Nat} {f : xH} {e0 e : xE} {H H1 : Heap} (h : xR g n f H) (ha : f a = some e0) (hz : H1.size = H.size) (ho : ∀ q : Nat, q ≠ gB g + a → H1[q]? = H[q]?) (he : xat g a e H1) : xR g n (xup f a e) H1 := by
  refine ⟨hz.trans h.1, fun q hq => (ho q (by omega)).trans (h.2.1 q hq), fun k e1 hk => ?_⟩
  by_cases hka : k = a
  · subst hka
    rw [xup_s] at hk
    cases hk
    exact ⟨(h.2.2 k e0 ha).1, he⟩
  · rw [xup_n f e hka] at hk
    exact ⟨(h.2.2 k e1 hk).1, xat_kept (h.2.2 k e1 hk).2 (ho _ (by omega))⟩
theorem xR_push {g : xG} {n : Nat} {f : xH} {e : xE} {H H1 : Heap} (h : xR g n f H) (hz : H1.size = H.size + 1) (ho : ∀ q : Nat, q < H.size → H1[q]? = H[q]?) (he : xat g n e H1) : xR g (n + 1) (xup f n e) H1 := by
  have h1 := h.1
  refine ⟨by omega, fun q hq => (ho q (by omega)).trans (h.2.1 q hq), fun k e1 hk => ?_⟩
  by_cases hka : k = n
  · subst hka
    rw [xup_s] at hk
    cases hk
    exact ⟨by omega, he⟩
  · rw [xup_n f e hka] at hk
    have h2 := h.2.2 k e1 hk
    exact ⟨by omega, xat_kept h2.2 (ho _ (by omega))⟩
theorem xKn {g : xG} (hG : okG g) {s : State} (hW : (g0 g).WarmedH s.vm) : va_K (gC g, gI g) xcl [] s := ⟨fun c q hq => u_Kn_moved hW.alike (hG.2.2.1 c q hq), fun k q h => by simp at h⟩
theorem xAr {g : xG} (hG : okG g) {s : State} (hW : (g0 g).WarmedH s.vm) {t : Nat} {ty : FieldType} (ht : xtys[t]? = some ty) : ArrOfT s (gA g t) ty ∧ va_RA s (gA g t) ty := ⟨arrOfT_moved hW.alike (hG.2.2.2.1 t ty ht).1, (hG.2.2.2.1 t ty ht).2.moved hW.alike⟩
theorem xNst {g : xG} (hG : okG g) {own ref nm d host : String} {i : Nat} (h : Cond.fieldLinkNest own i ref nm d host ∈ lw_tbl) {s : State} {args : Array Value} (hW : (g0 g).WarmedH s.vm) : (Cond.fieldLinkNest own i ref nm d host).before args s = true := va_Nw.use rfl (va_Nw.warmF hW (va_Nw.of rfl (hG.1 _ h)))
theorem xNstM {g : xG} (hG : okG g) {own host : String} {i : Nat} {x9 : MethodName} (h : Cond.methodLinkNest own i x9 host ∈ lw_tbl) {s : State} {args : Array Value} (hW : (g0 g).WarmedH s.vm) : (Cond.methodLinkNest own i x9 host).before args s = true := va_Nw.use rfl (va_Nw.warmM hW (va_Nw.of rfl (hG.1 _ h)))
/-- entry idx of own's pool is field k of class ci -/
def xFL (own : String) (idx ci k : Nat) : Prop := ∃ (C : String) (T : u_T) (N : Nat), xcl[ci]? = some (C, T, N) ∧ k < N ∧ (∀ w ∈ u_ws C T N, xin w) ∧ (xin (.fieldLink own idx (T k).1 (T k).2.1 (T k).2.2.1) ∨ ∃ host : String, Cond.fieldLinkNest own idx (T k).1 (T k).2.1 (T k).2.2.1 host ∈ lw_tbl)
def xFP (own mname : String) (idx ci k : Nat) (ty : FieldType) : Prop := ∃ (C : String) (T : u_T) (N : Nat) (ty0 : Nat → FieldType), xcl[ci]? = some (C, T, N) ∧ k < N ∧ (∀ w ∈ u_ws C T N, xin w) ∧ (xin (.fieldLink own idx (T k).1 (T k).2.1 (T k).2.2.1) ∨ ∃ host : String, Cond.fieldLinkNest own idx (T k).1 (T k).2.1 (T k).2.2.1 host ∈ lw_tbl) ∧
  (∀ j, j < N → parseFieldDescriptor (T j).2.2.1 = some (ty0 j)) ∧ (∀ a, a < N → ∀ b, b < N → a ≠ b → (T a).2.1 ≠ (T b).2.1) ∧ parseFieldDescriptor (T k).2.2.1 = some ty ∧ ((T k).2.2.2 = false ∨ ((T k).2.2.2 = true ∧ mname = "<init>" ∧ (T k).1 = own ∧ xin (.fieldLink own idx (T k).1 (T k).2.1 (T k).2.2.1)))
def xdef (t : FieldType) : xV := match t with
  | .long => vL 0
  | .object _ => vN
  | .array _ => vN
  | _ => vI 0
theorem vpc_i (cA : ClassId) (N B : Nat) (c : Nat → Int) : vp_cell cA (N, xcA B (.inl c)) = arrV cA N (fun j => .int (Int32.ofInt (c j))) := rfl
theorem vpc_l (cA : ClassId) (N B : Nat) (c : Nat → Int) : vp_cell cA (N, xcA B (.inr (.inl c))) = arrV cA N (fun j => .long (Int64.ofInt (c j))) := rfl
theorem vpc_q (cA : ClassId) (N B : Nat) (c : Nat → Option Nat) : vp_cell cA (N, xcA B (.inr (.inr c))) = arrV cA N (fun j => va_rf ((c j).map (B + ·))) := rfl
section XH
variable {g : xG} {y : xM} {Q : xP} {rc rs pc : Nat} {ls : xS} {st : List xV} {n : Nat} {f : xH}
theorem xw_getfield {idx ci k a : Nat} {fs : Nat → xV} {v : xV} (hd : decode (mB y) pc = .ok (.getfield idx, 3)) (hf : xFL (mN y).cls idx ci k) (ha : f a = some (.inr (ci, fs))) (hv : fs k = v) (kk : xw g y Q rc rs (pc + 3) ls (v :: st) n f) : xw g y Q rc rs pc ls (vR a :: st) n f := by
  intro hG p e s m args below meth c H locs mc ms cells slots A C hR hZ hlo hc hs hl
  obtain ⟨hx, hb, hr, hml, hown, hlk, hnm, htb, hW, hB, hbot⟩ := id C
  obtain ⟨CC, T, N, hcl, hk, hin, hlink⟩ := hf
  obtain ⟨r, h1, cell, q1, q2, q3, q4⟩ := (hR.2.2 a _ ha).2
  have hr9 : r = (CC, T, N) := Option.some.inj (h1.symm.trans hcl)
  subst hr9
  have hts : ∀ w ∈ u_ws CC T N, w.before args s = true := fun w h => xgw hG (hin w h) hW
  obtain ⟨hS, hfc, kC, hkC, hkind⟩ := (xKn hG hW).1 ci _ hcl
  obtain ⟨cf, kf, fi, fd, hi, hsl⟩ := hS k hk
  have hK := kk hG p e s m args below meth c H locs mc ms cells slots A C hR hZ hlo hc hs hl
  have hst := (u_facts hfc hkC (u_lays hts (fun _ h => h) hk) hi).1
  have hval : cell.slots[fd.slot]? = some (xcv (gB g) v) := by rw [hsl, q4 k hk, ← hv]
  rcases hlink with hl1 | ⟨host, hl1⟩
  · exact W.getf hx hb hown (xgw hG hl1 hW) hi hst q1 (by rw [q3]; exact fun h => by cases h) hval rfl rfl hd hK
  · exact va_Wgetf hx hb hown (xNst hG hl1 hW) hi hst q1 (by rw [q3]; exact fun h => by cases h) hval rfl rfl hd hK
theorem xw_putfield {idx ci k a : Nat} {fs : Nat → xV} {v : xV} {ty : FieldType} (hd : decode (mB y) pc = .ok (.putfield idx, 3)) (hf : xFP (mN y).cls (mN y).name idx ci k ty) (ha : f a = some (.inr (ci, fs))) (hn : narrow ty (xcv (gB g) v) = xcv (gB g) v) (hfit : fits ty (xcv (gB g) v) = true)
    (kk : xw g y Q rc rs (pc + 3) ls st n (xup f a (.inr (ci, xui fs k v)))) : xw g y Q rc rs pc ls (v :: vR a :: st) n f := by
  intro hG p e s m args below meth c H locs mc ms cells slots A C hR hZ hlo hc hs hl
  obtain ⟨hx, hb, hr, hml, hown, hlk, hnm, htb, hW, hB, hbot⟩ := id C
  obtain ⟨CC, T, N, ty0, hcl, hk, hin, hlink, hty, hnm2, hdt, hfin⟩ := hf
  obtain ⟨r, h1, cell, q1, q2, q3, q4⟩ := (hR.2.2 a _ ha).2
  have hr9 : r = (CC, T, N) := Option.some.inj (h1.symm.trans hcl)
  subst hr9
  have hts : ∀ w ∈ u_ws CC T N, w.before args s = true := fun w h => xgw hG (hin w h) hW
  have hap := va_apart (own := (mN y).cls) hts (fun _ h => h) ty0 hty hnm2 (xKn hG hW) hcl
  obtain ⟨hS, hfc, kC, hkC, hkind⟩ := (xKn hG hW).1 ci _ hcl
  obtain ⟨cf, kf, fi, fd, hi, hsl⟩ := hS k hk
  have hst := (u_facts hfc hkC (u_lays hts (fun _ h => h) hk) hi).1
  have hlay := hts _ (u_in_lay hk)
  unfold u_lay at hlay
  have hend : ∀ H1 : Heap, H1[gB g + a]? = some (cell.setSlot fd.slot (xcv (gB g) v)) → H1.size = H.size → (∀ q, q ≠ gB g + a → H1[q]? = H[q]?) → W p (gl g) e (xroom y mc ms) s m args below meth c H1 (locs ++ [⟨gB g + a, fd.slot⟩]) cells slots (vx_MQ below (xQr g Q) (xXr g Q) args s mc ms (gF g)) (F0 m (pc + 3) A (st.map (xcv (gB g)))) := by
    intro H1 e1 e2 e3
    refine kk hG p e s m args below meth c H1 _ mc ms cells slots A C (xR_set hR ha e2 e3 ?_) (by omega) (fun z hz => ?_) hc hs hl
    · refine ⟨_, hcl, ?_⟩
      rw [hsl] at e1
      refine t_OB.to (V := updV (fun j => xcv (gB g) (fs j)) k (xcv (gB g) v)) ⟨_, e1, q2, q3, t_set q4 hap hk _⟩ (fun j _ => ?_)
      by_cases hj : j = k
      · subst hj
        simp [updV, xui_s]
      · simp [updV, xui_n _ _ hj, hj]
    · rcases List.mem_append.mp hz with hz | hz
      · exact hlo z hz
      · rw [List.mem_singleton.mp hz]
        exact Nat.le_add_right _ _
  rcases hfin with hfin | ⟨hfin, hinit, hdecl, hl0⟩
  · rw [if_neg (by rw [hfin]; decide)] at hlay
    have h6 := u_store hfc hkC hkind hlay hi hdt hn hfit
    rcases hlink with hl1 | ⟨host, hl1⟩
    · exact W.putK hx hb (f := fd) ⟨hown, xgw hG hl1 hW, ⟨_, _, _, hi⟩, hst⟩ (by rw [q2]; exact h6) q1 q3 (by rw [hsl]; exact k2_hasslot (q4 k hk)) rfl rfl hd hend
    · exact va_WputK hx hb hown (xNst hG hl1 hW) hi hst (by rw [q2]; exact h6) q1 q3 (by rw [hsl]; exact k2_hasslot (q4 k hk)) rfl rfl hd hend
  · rw [if_pos hfin] at hlay
    have hcf : m.cls = cf := by
      obtain ⟨_, _, c9, _, _, _, -, -, hf9, -, -, -, hown2, -⟩ := Cond.laysFinal_spec hlay
      have e1 : c9 = cf := by have := hi.symm.trans hf9; simp at this; exact this.1.symm
      rw [hdecl] at hown2
      rw [← e1]; exact Option.some.inj (hown.symm.trans hown2)
    have h6 := u_fits hfc hkC hkind (Or.inr hlay) hi hdt hn hfit
    exact W.putFinK hx hb hown (xgw hG hl0 hW) hi hst hcf (by rw [hnm]; exact hinit) (by rw [q2]; exact h6) q1 q3 (by rw [hsl]; exact k2_hasslot (q4 k hk)) rfl rfl hd hend
/-- an object is made -/
def xNW (own : String) (idx ci : Nat) (N : Nat) (fs : Nat → xV) : Prop := ∃ (C : String) (T : u_T) (ty0 : Nat → FieldType), xcl[ci]? = some (C, T, N) ∧ (∀ w ∈ u_ws C T N, xin w) ∧ xin (.classLink own idx C) ∧ xin (.instantiable C N) ∧ xin (.initialized C) ∧ (∀ j, j < N → parseFieldDescriptor (T j).2.2.1 = some (ty0 j)) ∧ (∀ j, j < N → ty0 j ≠ .float ∧ ty0 j ≠ .double) ∧ ∀ j, fs j = xdef (ty0 j)
theorem xdef_cv (B : Nat) (t : FieldType) (h : t ≠ .float ∧ t ≠ .double) : defaultValue t = xcv B (xdef t) := by
  cases t <;> first | rfl | (exfalso; simp at h)
theorem xw_new {idx ci N : Nat} {fs : Nat → xV} (hd : decode (mB y) pc = .ok (.new idx, 3)) (hf : xNW (mN y).cls idx ci N fs) (kk : xw g y Q rc rs (pc + 3) ls (vR n :: st) (n + 1) (xup f n (.inr (ci, fs)))) : xw g y Q (rc + 1) (rs + N) pc ls st n f := by
  intro hG p e s m args below meth c H locs mc ms cells slots A C hR hZ hlo hc hs hl
  obtain ⟨hx, hb, hr, hml, hown, hlk, hnm, htb, hW, hB, hbot⟩ := id C
  obtain ⟨CC, T, ty0, hcl, hin, hw1, hw2, hw3, hty, hnf, hfs⟩ := hf
  have hts : ∀ w ∈ u_ws CC T N, w.before args s = true := fun w h => xgw hG (hin w h) hW
  have hKn := (xKn hG hW).1 ci _ hcl
  refine W.newcK hx hb hown (xgw hG hw1 hW) (xgw hG hw2 hW) (xgw hG hw3 hW) rfl hd (by show cells + 1 ≤ mc; omega) (by show slots + N ≤ ms; omega) hKn.2.1 hR.1 fun H1 kC hkC e1 z1 o1 => ?_
  have ho : ∀ q : Nat, q < H.size → H1[q]? = H[q]? := fun q hq => o1 q (by rw [← hR.1]; exact hq)
  refine kk hG p e s m args below meth c H1 locs mc ms (cells + 1) (slots + N) A C (xR_push hR (by rw [z1, hR.1]) ho ⟨_, hcl, (u_born ty0 hts (fun _ h => h) hKn hkC e1 hty).to (fun j hj => ?_)⟩) (by rw [z1, ← hR.1]; omega) hlo (by omega) (by omega) hl
  show defaultValue (ty0 j) = xcv (gB g) (fs j)
  rw [hfs]
  exact xdef_cv _ _ (hnf j hj)
theorem xw_alen {a t N : Nat} {c9 : xA} (hd : decode (mB y) pc = .ok (.arraylength, 1)) (ha : f a = some (.inl (t, N, c9))) {ty : FieldType} (ht : xtys[t]? = some ty) (kk : xw g y Q rc rs (pc + 1) ls (vI (N : Int) :: st) n f) : xw g y Q rc rs pc ls (vR a :: st) n f := by
  intro hG p e s m args below meth c H locs mc ms cells slots A C hR hZ hlo hc hs hl
  have hW := C.2.2.2.2.2.2.2.2.1
  have hK := kk hG p e s m args below meth c H locs mc ms cells slots A C hR hZ hlo hc hs hl
  have hcell := (hR.2.2 a _ ha).2
  have hn : (Int32.ofInt (N : Int)) = Int32.ofNat N := Int32.ofInt_eq_ofNat
  obtain f9 | f9 | f9 := c9
  · exact W.alen (n := Int32.ofInt N) C.1 C.2.1 hcell ((xAr hG hW ht).1 N (fun j => .int (Int32.ofInt (f9 j)))) (by rw [hn]; show (arrV _ _ _).slots.size.toInt32 = _; rw [arrV_size]) rfl rfl hd hK
  · exact W.alen (n := Int32.ofInt N) C.1 C.2.1 hcell ((xAr hG hW ht).1 N (fun j => .long (Int64.ofInt (f9 j)))) (by rw [hn]; show (arrV _ _ _).slots.size.toInt32 = _; rw [arrV_size]) rfl rfl hd hK
  · exact W.alen (n := Int32.ofInt N) C.1 C.2.1 hcell ((xAr hG hW ht).1 N (fun j => va_rf ((f9 j).map (gB g + ·)))) (by rw [hn]; show (arrV _ _ _).slots.size.toInt32 = _; rw [arrV_size]) rfl rfl hd hK
theorem xix {z : Int} {j N : Nat} (hz : z = (j : Int)) (hj : j < N) (hN : N ≤ 2147483647) : ¬ (Int32.ofInt z < 0 ∨ N ≤ (Int32.ofInt z).toNatClampNeg) ∧ (Int32.ofInt z).toNatClampNeg = j := by
  subst hz
  have h1 : (Int32.ofInt (j : Int)).toNatClampNeg = j := by
    rw [Int32.ofInt_eq_ofNat]
    exact Int32.toNatClampNeg_ofNat_of_lt (by omega)
  refine ⟨fun h => ?_, h1⟩
  rcases h with h | h
  · have := (i32_lt (a := (j : Int)) (b := 0) (by unfold inI; omega) inI0).mp h
    omega
  · omega
theorem xw_iald {a N j : Nat} {z : Int} {c9 : Nat → Int} (hd : decode (mB y) pc = .ok (.iaload, 1)) (ha : f a = some (.inl (0, N, .inl c9))) (hz : z = (j : Int)) (hj : j < N) (hN : N ≤ 2147483647) (kk : xw g y Q rc rs (pc + 1) ls (vI (c9 j) :: st) n f) : xw g y Q rc rs pc ls (vI z :: vR a :: st) n f := by
  intro hG p e s m args below meth c H locs mc ms cells slots A C hR hZ hlo hc hs hl
  have hW := C.2.2.2.2.2.2.2.2.1
  have hcell := (hR.2.2 a _ ha).2
  obtain ⟨hin, hcl⟩ := xix hz hj hN
  exact W.iald (v := xcv (gB g) (vI (c9 j))) C.1 C.2.1 hcell ((xAr hG hW (t := 0) rfl).1 N (fun j => .int (Int32.ofInt (c9 j)))) (fun q => by cases q) (by show ¬ (_ < 0 ∨ (arrV _ _ _).slots.size ≤ _); rw [arrV_size]; exact hin) (by show (arrV _ _ _).slots[_]? = _; rw [hcl, arrV_read _ _ hj]; rfl) rfl rfl hd (kk hG p e s m args below meth c H locs mc ms cells slots A C hR hZ hlo hc hs hl)
theorem xw_lald {a N j : Nat} {z : Int} {c9 : Nat → Int} (hd : decode (mB y) pc = .ok (.laload, 1)) (ha : f a = some (.inl (1, N, .inr (.inl c9)))) (hz : z = (j : Int)) (hj : j < N) (hN : N ≤ 2147483647) (kk : xw g y Q rc rs (pc + 1) ls (vL (c9 j) :: st) n f) : xw g y Q rc rs pc ls (vI z :: vR a :: st) n f := by
  intro hG p e s m args below meth c H locs mc ms cells slots A C hR hZ hlo hc hs hl
  have hW := C.2.2.2.2.2.2.2.2.1
  have hcell := (hR.2.2 a _ ha).2
  obtain ⟨hin, hcl⟩ := xix hz hj hN
  exact W.lald (v := xcv (gB g) (vL (c9 j))) C.1 C.2.1 hcell ((xAr hG hW (t := 1) rfl).1 N (fun j => .long (Int64.ofInt (c9 j)))) (fun q => by cases q) (by show ¬ (_ < 0 ∨ (arrV _ _ _).slots.size ≤ _); rw [arrV_size]; exact hin) (by show (arrV _ _ _).slots[_]? = _; rw [hcl, arrV_read _ _ hj]; rfl) rfl rfl hd (kk hG p e s m args below meth c H locs mc ms cells slots A C hR hZ hlo hc hs hl)
theorem xw_zald {a N j : Nat} {z : Int} {c9 : Nat → Int} (hd : decode (mB y) pc = .ok (.baload, 1)) (ha : f a = some (.inl (2, N, .inl c9))) (hz : z = (j : Int)) (hj : j < N) (hN : N ≤ 2147483647) (kk : xw g y Q rc rs (pc + 1) ls (vI (c9 j) :: st) n f) : xw g y Q rc rs pc ls (vI z :: vR a :: st) n f := by
  intro hG p e s m args below meth c H locs mc ms cells slots A C hR hZ hlo hc hs hl
  have hW := C.2.2.2.2.2.2.2.2.1
  have hcell := (hR.2.2 a _ ha).2
  obtain ⟨hin, hcl⟩ := xix hz hj hN
  exact W.zald (v := xcv (gB g) (vI (c9 j))) C.1 C.2.1 hcell ((xAr hG hW (t := 2) rfl).1 N (fun j => .int (Int32.ofInt (c9 j)))) (fun q => by cases q) (by show ¬ (_ < 0 ∨ (arrV _ _ _).slots.size ≤ _); rw [arrV_size]; exact hin) (by show (arrV _ _ _).slots[_]? = _; rw [hcl, arrV_read _ _ hj]; rfl) rfl rfl hd (kk hG p e s m args below meth c H locs mc ms cells slots A C hR hZ hlo hc hs hl)
theorem xw_bald {a N j : Nat} {z : Int} {c9 : Nat → Int} (hd : decode (mB y) pc = .ok (.baload, 1)) (ha : f a = some (.inl (3, N, .inl c9))) (hz : z = (j : Int)) (hj : j < N) (hN : N ≤ 2147483647) (kk : xw g y Q rc rs (pc + 1) ls (vI (c9 j) :: st) n f) : xw g y Q rc rs pc ls (vI z :: vR a :: st) n f := by
  intro hG p e s m args below meth c H locs mc ms cells slots A C hR hZ hlo hc hs hl
  have hW := C.2.2.2.2.2.2.2.2.1
  have hcell := (hR.2.2 a _ ha).2
  obtain ⟨hin, hcl⟩ := xix hz hj hN
  exact W.bald (v := xcv (gB g) (vI (c9 j))) C.1 C.2.1 hcell ((xAr hG hW (t := 3) rfl).1 N (fun j => .int (Int32.ofInt (c9 j)))) (fun q => by cases q) (by show ¬ (_ < 0 ∨ (arrV _ _ _).slots.size ≤ _); rw [arrV_size]; exact hin) (by show (arrV _ _ _).slots[_]? = _; rw [hcl, arrV_read _ _ hj]; rfl) rfl rfl hd (kk hG p e s m args below meth c H locs mc ms cells slots A C hR hZ hlo hc hs hl)
theorem xw_aald {a N j t : Nat} {z : Int} {D : String} {c9 : Nat → Option Nat} (hd : decode (mB y) pc = .ok (.aaload, 1)) (ha : f a = some (.inl (t, N, .inr (.inr c9)))) (ht : xtys[t]? = some (.object D)) (hz : z = (j : Int)) (hj : j < N) (hN : N ≤ 2147483647) (kk : xw g y Q rc rs (pc + 1) ls (vQ (c9 j) :: st) n f) : xw g y Q rc rs pc ls (vI z :: vR a :: st) n f := by
  intro hG p e s m args below meth c H locs mc ms cells slots A C hR hZ hlo hc hs hl
  have hW := C.2.2.2.2.2.2.2.2.1
  have hcell := (hR.2.2 a _ ha).2
  obtain ⟨hin, hcl⟩ := xix hz hj hN
  exact W.aald (v := xcv (gB g) (vQ (c9 j))) (ty := .object D) C.1 C.2.1 hcell ((xAr hG hW ht).1 N (fun j => va_rf ((c9 j).map (gB g + ·)))) rfl (fun q => by cases q) (by show ¬ (_ < 0 ∨ (arrV _ _ _).slots.size ≤ _); rw [arrV_size]; exact hin) (by show (arrV _ _ _).slots[_]? = _; rw [hcl, arrV_read _ _ hj, xcv_q]) rfl rfl hd (kk hG p e s m args below meth c H locs mc ms cells slots A C hR hZ hlo hc hs hl)
theorem xw_iast {a N j : Nat} {z x : Int} {c9 : Nat → Int} (hd : decode (mB y) pc = .ok (.iastore, 1)) (ha : f a = some (.inl (0, N, .inl c9))) (hz : z = (j : Int)) (hj : j < N) (hN : N ≤ 2147483647) (kk : xw g y Q rc rs (pc + 1) ls st n (xup f a (.inl (0, N, .inl (xui c9 j x))))) : xw g y Q rc rs pc ls (vI x :: vI z :: vR a :: st) n f := by
  intro hG p e s m args below meth c H locs mc ms cells slots A C hR hZ hlo hc hs hl
  have hW := C.2.2.2.2.2.2.2.2.1
  have hcell := (hR.2.2 a _ ha).2
  obtain ⟨hin, hcl⟩ := xix hz hj hN
  refine W.iast C.1 C.2.1 hcell ((xAr hG hW (t := 0) rfl).1 N (fun j => .int (Int32.ofInt (c9 j)))) (fun q => by cases q) (by show ¬ (_ < 0 ∨ (arrV _ _ _).slots.size ≤ _); rw [arrV_size]; exact hin) rfl rfl hd fun H1 e1 z1 oq => ?_
  refine kk hG p e s m args below meth c H1 _ mc ms cells slots A C (xR_set hR ha z1 oq ?_) (by omega) (fun z9 hz9 => ?_) hc hs hl
  · show H1[gB g + a]? = some (vp_cell _ _)
    rw [e1]
    dsimp only
    rw [vpc_i, vpc_i, hcl, arrV_store]
    congr 2
    funext q
    by_cases hq : q = j
    · subst hq
      simp [updV, xui_s, xcv]
    · simp [updV, xui_n _ _ hq, hq]
  · rcases List.mem_append.mp hz9 with hz9 | hz9
    · exact hlo z9 hz9
    · rw [List.mem_singleton.mp hz9]
      exact Nat.le_add_right _ _
theorem xw_last {a N j : Nat} {z x : Int} {c9 : Nat → Int} (hd : decode (mB y) pc = .ok (.lastore, 1)) (ha : f a = some (.inl (1, N, .inr (.inl c9)))) (hz : z = (j : Int)) (hj : j < N) (hN : N ≤ 2147483647) (kk : xw g y Q rc rs (pc + 1) ls st n (xup f a (.inl (1, N, .inr (.inl (xui c9 j x)))))) : xw g y Q rc rs pc ls (vL x :: vI z :: vR a :: st) n f := by
  intro hG p e s m args below meth c H locs mc ms cells slots A C hR hZ hlo hc hs hl
  have hW := C.2.2.2.2.2.2.2.2.1
  have hcell := (hR.2.2 a _ ha).2
  obtain ⟨hin, hcl⟩ := xix hz hj hN
  refine W.last C.1 C.2.1 hcell ((xAr hG hW (t := 1) rfl).1 N (fun j => .long (Int64.ofInt (c9 j)))) (fun q => by cases q) (by show ¬ (_ < 0 ∨ (arrV _ _ _).slots.size ≤ _); rw [arrV_size]; exact hin) rfl rfl hd fun H1 e1 z1 oq => ?_
  refine kk hG p e s m args below meth c H1 _ mc ms cells slots A C (xR_set hR ha z1 oq ?_) (by omega) (fun z9 hz9 => ?_) hc hs hl
  · show H1[gB g + a]? = some (vp_cell _ _)
    rw [e1]
    dsimp only
    rw [vpc_l, vpc_l, hcl, arrV_store]
    congr 2
    funext q
    by_cases hq : q = j
    · subst hq
      simp [updV, xui_s, xcv]
    · simp [updV, xui_n _ _ hq, hq]
  · rcases List.mem_append.mp hz9 with hz9 | hz9
    · exact hlo z9 hz9
    · rw [List.mem_singleton.mp hz9]
      exact Nat.le_add_right _ _
theorem xw_zast {a N j : Nat} {z x : Int} {c9 : Nat → Int} (hd : decode (mB y) pc = .ok (.bastore, 1)) (ha : f a = some (.inl (2, N, .inl c9))) (hz : z = (j : Int)) (hj : j < N) (hN : N ≤ 2147483647) (hv : narrow .boolean (.int (Int32.ofInt x)) = .int (Int32.ofInt x)) (kk : xw g y Q rc rs (pc + 1) ls st n (xup f a (.inl (2, N, .inl (xui c9 j x))))) : xw g y Q rc rs pc ls (vI x :: vI z :: vR a :: st) n f := by
  intro hG p e s m args below meth c H locs mc ms cells slots A C hR hZ hlo hc hs hl
  have hW := C.2.2.2.2.2.2.2.2.1
  have hcell := (hR.2.2 a _ ha).2
  obtain ⟨hin, hcl⟩ := xix hz hj hN
  refine W.zast C.1 C.2.1 hcell ((xAr hG hW (t := 2) rfl).1 N (fun j => .int (Int32.ofInt (c9 j)))) (fun q => by cases q) (by show ¬ (_ < 0 ∨ (arrV _ _ _).slots.size ≤ _); rw [arrV_size]; exact hin) rfl rfl hd fun H1 e1 z1 oq => ?_
  refine kk hG p e s m args below meth c H1 _ mc ms cells slots A C (xR_set hR ha z1 oq ?_) (by omega) (fun z9 hz9 => ?_) hc hs hl
  · show H1[gB g + a]? = some (vp_cell _ _)
    rw [e1]
    dsimp only
    rw [vpc_i, vpc_i, hcl, arrV_store]
    congr 2
    funext q
    by_cases hq : q = j
    · subst hq
      simp [updV, xui_s, hv]
    · simp [updV, xui_n _ _ hq, hq]
  · rcases List.mem_append.mp hz9 with hz9 | hz9
    · exact hlo z9 hz9
    · rw [List.mem_singleton.mp hz9]
      exact Nat.le_add_right _ _
theorem xw_bast {a N j : Nat} {z x : Int} {c9 : Nat → Int} (hd : decode (mB y) pc = .ok (.bastore, 1)) (ha : f a = some (.inl (3, N, .inl c9))) (hz : z = (j : Int)) (hj : j < N) (hN : N ≤ 2147483647) (hv : narrow .byte (.int (Int32.ofInt x)) = .int (Int32.ofInt x)) (kk : xw g y Q rc rs (pc + 1) ls st n (xup f a (.inl (3, N, .inl (xui c9 j x))))) : xw g y Q rc rs pc ls (vI x :: vI z :: vR a :: st) n f := by
  intro hG p e s m args below meth c H locs mc ms cells slots A C hR hZ hlo hc hs hl
  have hW := C.2.2.2.2.2.2.2.2.1
  have hcell := (hR.2.2 a _ ha).2
  obtain ⟨hin, hcl⟩ := xix hz hj hN
  refine W.bast C.1 C.2.1 hcell ((xAr hG hW (t := 3) rfl).1 N (fun j => .int (Int32.ofInt (c9 j)))) (fun q => by cases q) (by show ¬ (_ < 0 ∨ (arrV _ _ _).slots.size ≤ _); rw [arrV_size]; exact hin) rfl rfl hd fun H1 e1 z1 oq => ?_
  refine kk hG p e s m args below meth c H1 _ mc ms cells slots A C (xR_set hR ha z1 oq ?_) (by omega) (fun z9 hz9 => ?_) hc hs hl
  · show H1[gB g + a]? = some (vp_cell _ _)
    rw [e1]
    dsimp only
    rw [vpc_i, vpc_i, hcl, arrV_store]
    congr 2
    funext q
    by_cases hq : q = j
    · subst hq
      simp [updV, xui_s, hv]
    · simp [updV, xui_n _ _ hq, hq]
  · rcases List.mem_append.mp hz9 with hz9 | hz9
    · exact hlo z9 hz9
    · rw [List.mem_singleton.mp hz9]
      exact Nat.le_add_right _ _
theorem xw_aast {a v N j t ci : Nat} {z : Int} {fs : Nat → xV} {r : vw_C} {c9 : Nat → Option Nat} (hd : decode (mB y) pc = .ok (.aastore, 1)) (ha : f a = some (.inl (t, N, .inr (.inr c9)))) (hv : f v = some (.inr (ci, fs))) (hr : xcl[ci]? = some r) (ht : xtys[t]? = some (.object r.1)) (hz : z = (j : Int)) (hj : j < N) (hN : N ≤ 2147483647)
    (kk : xw g y Q rc rs (pc + 1) ls st n (xup f a (.inl (t, N, .inr (.inr (xui c9 j (some v))))))) : xw g y Q rc rs pc ls (vR v :: vI z :: vR a :: st) n f := by
  intro hG p e s m args below meth c H locs mc ms cells slots A C hR hZ hlo hc hs hl
  have hW := C.2.2.2.2.2.2.2.2.1
  have hcell := (hR.2.2 a _ ha).2
  obtain ⟨hin, hcl⟩ := xix hz hj hN
  obtain ⟨r9, hr9, cellV, g1, g2, g3, -⟩ := (hR.2.2 v _ hv).2
  have hcls := ((xKn hG hW).1 ci r hr).2
  obtain ⟨kA, comp, k1, k2, k3, -⟩ := (xAr hG hW ht).2
  have hcomp : comp = gC g ci := Option.some.inj (k3.symm.trans hcls.1)
  subst hcomp
  obtain ⟨kC, hkC, -⟩ := hcls.2
  refine W.aast C.1 C.2.1 hcell (fun q h => by cases h) (fun h => by cases h) k1 k2 rfl hkC ⟨fun q => hin (Or.inl q), by show _ < (arrV _ _ _).slots.size; rw [arrV_size, hcl]; exact hj⟩ g1 (fun q h => by rw [g3] at h; cases h) (by rw [g2]; exact hkC) (by rw [g2]; exact va_assign hcls) rfl rfl hd fun H1 e1 z1 oq => ?_
  refine kk hG p e s m args below meth c H1 _ mc ms cells slots A C (xR_set hR ha z1 oq ?_) (by omega) (fun z9 hz9 => ?_) hc hs hl
  · show H1[gB g + a]? = some (vp_cell _ _)
    rw [e1]
    dsimp only
    rw [vpc_q, vpc_q, hcl, arrV_store]
    congr 2
    funext q
    by_cases hq : q = j
    · subst hq
      simp [updV, xui_s, va_rf]
    · simp [updV, xui_n _ _ hq, hq]
  · rcases List.mem_append.mp hz9 with hz9 | hz9
    · exact hlo z9 hz9
    · rw [List.mem_singleton.mp hz9]
      exact Nat.le_add_right _ _
theorem xw_newa {at9 : ArrayType} {t N : Nat} {z : Int} {ty : FieldType} {c9 : xA} (hd : decode (mB y) pc = .ok (.newarray at9, 2)) (hty : newarray.typeOf at9 = ty) (ht : xtys[t]? = some ty) (hp : ∀ D : String, ty ≠ .object D) (hw : xin (.arrayClass ty)) (hz : z = (N : Int)) (hN : N ≤ 60000000) (hby : N * componentBytes ty ≤ 536870912) (hc9 : ∀ (B : Nat) (cA : ClassId), vp_cell cA (N, xcA B c9) = arrV cA N (fun _ => defaultValue ty))
    (kk : xw g y Q rc rs (pc + 2) ls (vR n :: st) (n + 1) (xup f n (.inl (t, N, c9)))) : xw g y Q (rc + 1) (rs + N) pc ls (vI z :: st) n f := by
  intro hG p e s m args below meth c H locs mc ms cells slots A C hR hZ hlo hc hs hl
  have hW := C.2.2.2.2.2.2.2.2.1
  subst hty
  obtain ⟨hin, hcl⟩ := xix hz (Nat.lt_succ_self N) (by omega)
  refine va_newaK C.1 C.2.1 (xgw hG hw hW) rfl hd rfl (fun q => hin (Or.inl q)) hcl hby (by show cells + 1 ≤ mc; omega) (by show slots + N ≤ ms; omega) hR.1 fun H1 cA e1 z1 o1 hAr hNm => ?_
  have hcA : cA = gA g t := by
    have h2 := (xAr hG hW ht).2
    unfold va_RA at h2
    cases at9 <;> exact Option.some.inj (hNm.symm.trans h2)
  subst hcA
  have ho : ∀ q : Nat, q < H.size → H1[q]? = H[q]? := fun q hq => o1 q (by rw [← hR.1]; exact hq)
  refine kk hG p e s m args below meth c H1 locs mc ms (cells + 1) (slots + N) A C (xR_push hR (by rw [z1, hR.1]) ho ?_) (by rw [z1, ← hR.1]; omega) hlo (by omega) (by omega) hl
  show H1[gB g + n]? = some (vp_cell _ _)
  rw [e1, hc9]
theorem xw_anewa {idx t N : Nat} {z : Int} {D : String} (hd : decode (mB y) pc = .ok (.anewarray idx, 3)) (ht : xtys[t]? = some (.object D)) (hw1 : xin (.classLink (mN y).cls idx D)) (hw2 : xin (.arrayOver (.object D))) (hz : z = (N : Int)) (hN : N ≤ 100000000)
    (kk : xw g y Q rc rs (pc + 3) ls (vR n :: st) (n + 1) (xup f n (.inl (t, N, .inr (.inr (fun _ => none)))))) : xw g y Q (rc + 1) (rs + N) pc ls (vI z :: st) n f := by
  intro hG p e s m args below meth c H locs mc ms cells slots A C hR hZ hlo hc hs hl
  have hW := C.2.2.2.2.2.2.2.2.1
  obtain ⟨hin, hcl⟩ := xix hz (Nat.lt_succ_self N) (by omega)
  refine W.anew C.1 C.2.1 C.2.2.2.2.1 (xgw hG hw1 hW) (xgw hG hw2 hW) rfl hd rfl (fun q => hin (Or.inl q)) (by rw [hcl]; omega) (by show cells + 1 ≤ mc; omega) (by rw [hcl]; show slots + N ≤ ms; omega) fun cA kA comp h1 h2 h3 h4 => ?_
  rw [hcl]
  have hcA : cA = gA g t := by
    obtain ⟨kA9, comp9, -, -, -, h5⟩ := (xAr hG hW ht).2
    exact Option.some.inj (h1.symm.trans h5)
  subst hcA
  have ho : ∀ q : Nat, q < H.size → (H.push { cls := gA g t, slots := Array.replicate N .null, vm := .none })[q]? = H[q]? := fun q hq => by rw [Array.getElem?_push, if_neg (Nat.ne_of_lt hq)]
  have hK := kk hG p e s m args below meth c (H.push { cls := gA g t, slots := Array.replicate N .null, vm := .none }) locs mc ms (cells + 1) (slots + N) A C (xR_push hR (by rw [Array.size_push]) ho (by
    show (H.push _)[gB g + n]? = some (vp_cell _ _)
    dsimp only
    rw [vpc_q, ← hR.1, ← arrV_new]
    simp [va_rf])) (by rw [Array.size_push]; omega) hlo (by omega) (by omega) hl
  rw [hR.1]
  exact hK
end XH
