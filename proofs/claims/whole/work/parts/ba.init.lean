/-! constructors -/
/-- the cells below n hold these, the newest first -/
def lyd (F : xH) : Nat → List xE → Prop
  | _, [] => True
  | 0, _ :: _ => False
  | n + 1, e :: L => F n = some e ∧ lyd F n L
theorem lyd_fr {f F : xH} : ∀ (L : List xE) (n : Nat), lyd f n L → (∀ k, k < n → n ≤ k + L.length → F k = f k) → lyd F n L := by
  intro L
  induction L with
  | nil => intro n _ _; cases n <;> trivial
  | cons e L ih =>
    intro n h hf
    cases n with
    | zero => exact h
    | succ n =>
      refine ⟨(hf n (Nat.lt_succ_self n) (by rw [List.length_cons]; omega)).trans h.1, ih n h.2 (fun k h1 h2 => hf k (by omega) (by rw [List.length_cons]; omega))⟩
theorem lyd_app {F : xH} : ∀ (L2 : List xE) (n2 n : Nat) (M : List xE), lyd F n2 L2 → n2 = n + L2.length → lyd F n M → lyd F n2 (L2 ++ M) := by
  intro L2
  induction L2 with
  | nil => intro n2 n M _ e h; rw [e]; exact h
  | cons e L2 ih =>
    intro n2 n M h e9 hM
    cases n2 with
    | zero => exact h.elim
    | succ n2 => exact ⟨h.1, ih n2 n M h.2 (by rw [List.length_cons] at e9; omega) hM⟩
theorem lyd_up {F : xH} {b : Nat} {e : xE} {n : Nat} {L : List xE} (h : lyd F n L) (hb : b + L.length < n) : lyd (xup F b e) n L := lyd_fr L n h (fun k _ q => xup_n _ _ (by omega))
/-- the class of an array of references, at tables that are alike -/
theorem ov_alike {s U : State} {args args1 : Array Value} {C : String} (hal : s.vm.Alike U.vm) (h : (Cond.arrayOver (.object C)).before args s = true) : (Cond.arrayOver (.object C)).before args1 U = true := by
  obtain ⟨comp, c, k, h1, h2, h3, h4, h5⟩ := Cond.arrayOver_spec h
  obtain ⟨k1, e1, e2⟩ := hal.2.2 _ _ h3
  have q1 : U.vm.findClass C = some comp := by rw [hal.findClass]; exact h1
  have q2 := (hal.findIdx?_eq (fun x => match x.kind with | .array component _ => component == comp | _ => false) (fun _ => rfl)).trans h2
  have q3 : k1.kind = .array comp (.object C) := by rw [e2]; exact h4
  have q4 : U.vm.findClass ("[" ++ (FieldType.object C).toString) = some c := by rw [hal.findClass]; exact h5
  simp only [Cond.before, Cond.holds, Cond.value, q1, Option.bind_some, beq_iff_eq, Option.bind_eq_some_iff]
  exact ⟨c, q2, by simp [e1, q3, q4]⟩
section Cba
variable {g : xG} {y : xM} {Q : xP} {rc rs pc : Nat} {ls : xS} {st : List xV} {n : Nat} {f : xH}
theorem xw_anew2 {idx t N : Nat} {z : Int} {D : String} (hd : decode (mB y) pc = .ok (.anewarray idx, 3)) (ht : xtys[t]? = some (.object D)) (hw1 : xin (.classLink (mN y).cls idx D)) (hw2 : Cond.arrayOver (.object D) ∈ lw_tbl) (hz : z = (N : Int)) (hN : N ≤ 100000000)
    (kk : xw g y Q rc rs (pc + 3) ls (vR n :: st) (n + 1) (xup f n (.inl (t, N, .inr (.inr (fun _ => none)))))) : xw g y Q (rc + 1) (rs + N) pc ls (vI z :: st) n f := by
  intro hG p e s m args below meth c H locs mc ms cells slots A C hR hZ hlo hc hs hl
  have hW := C.2.2.2.2.2.2.2.2.1
  obtain ⟨hin, hcl⟩ := xix hz (Nat.lt_succ_self N) (by omega)
  refine W.anew C.1 C.2.1 C.2.2.2.2.1 (xgw hG hw1 hW) (ov_alike hW.alike (hG.1 _ hw2)) rfl hd rfl (fun q => hin (Or.inl q)) (by rw [hcl]; omega) (by show cells + 1 ≤ mc; omega) (by rw [hcl]; show slots + N ≤ ms; omega) fun cA kA comp h1 h2 h3 h4 => ?_
  rw [hcl]
  have hcA : cA = gA g t := by
    obtain ⟨kA9, comp9, -, -, -, h5⟩ := (xAr hG hW ht).2
    exact Option.some.inj (h1.symm.trans h5)
  subst hcA
  have ho : ∀ q : Nat, q < H.size → (H.push { cls := gA g t, slots := Array.replicate N .null, vm := .none })[q]? = H[q]? := fun q hq => by rw [Array.getElem?_push, if_neg (Nat.ne_of_lt hq)]
  have hK := kk hG p e s m args below meth c (H.push { cls := gA g t, slots := Array.replicate N .null, vm := .none }) locs mc ms (cells + 1) (slots + N) A C (xR_push hR (by rw [Array.size_push]) ho (by
    show (H.push _)[gB g + n]? = some (vp_cell _ _)
    dsimp only
    rw [vpc_q, ← hR.1, ← arrV_new]
    simp [va_rf])) (by rw [Array.size_push]; omega) hlo (by omega) (by omega) hl
  rw [hR.1]
  exact hK
theorem xw_nuf {idx ci kf b : Nat} {v : xV} {fs : Nat → xV} {tyf : FieldType} {L : List xE} (hd2 : decode (mB y) pc = .ok (.putfield idx, 3)) (hf : xFP (mN y).cls (mN y).name idx ci kf tyf) (hn : narrow tyf (xcv (gB g) v) = xcv (gB g) v) (hfit : fits tyf (xcv (gB g) v) = true) (hb : f b = some (.inr (ci, fs))) (hl : lyd f n L) (hbn : b + L.length < n)
    (kk : ∀ F, (∀ k, (k < b ∨ n ≤ k) → F k = f k) → F b = some (.inr (ci, xui fs kf v)) → lyd F n L → xw g y Q rc rs (pc + 3) ls st n F) : xw g y Q rc rs pc ls (v :: vR b :: st) n f := by
  refine xw_putfield hd2 hf hb hn hfit ?_
  exact kk _ (fun k hk => xup_n _ _ (by omega)) (xup_s _ _ _) (lyd_up hl hbn)
/-- a field gets a new array -/
theorem xw_af {at9 : ArrayType} {t N idx ci kf b : Nat} {z : Int} {fs : Nat → xV} {ty tyf : FieldType} {c9 : xA} {L : List xE} (hd : decode (mB y) pc = .ok (.newarray at9, 2)) (hty : newarray.typeOf at9 = ty) (ht : xtys[t]? = some ty) (hp : ∀ D : String, ty ≠ .object D) (hw : xin (.arrayClass ty)) (hz : z = (N : Int)) (hN : N ≤ 60000000) (hby : N * componentBytes ty ≤ 536870912) (hc9 : ∀ (B : Nat) (cA : ClassId), vp_cell cA (N, xcA B c9) = arrV cA N (fun _ => defaultValue ty))
    (hd2 : decode (mB y) (pc + 2) = .ok (.putfield idx, 3)) (hf : xFP (mN y).cls (mN y).name idx ci kf tyf) (hn : narrow tyf (xcv (gB g) (vR n)) = xcv (gB g) (vR n)) (hfit : fits tyf (xcv (gB g) (vR n)) = true) (hb : f b = some (.inr (ci, fs))) (hl : lyd f n L) (hbn : b + L.length < n)
    (kk : ∀ F, (∀ k, (k < b ∨ n < k) → F k = f k) → F b = some (.inr (ci, xui fs kf (vR n))) → lyd F (n + 1) (.inl (t, N, c9) :: L) → xw g y Q rc rs (pc + 2 + 3) ls st (n + 1) F) : xw g y Q (rc + 1) (rs + N) pc ls (vI z :: vR b :: st) n f := by
  refine xw_newa hd hty ht hp hw hz hN hby hc9 ?_
  refine xw_putfield hd2 hf ((xup_n _ _ (by omega)).trans hb) hn hfit ?_
  refine kk _ (fun k hk => (xup_n _ _ (by omega)).trans (xup_n _ _ (by omega))) (xup_s _ _ _) ⟨(xup_n _ _ (by omega)).trans (xup_s _ _ _), lyd_fr L n hl (fun k h1 h2 => (xup_n _ _ (by omega)).trans (xup_n _ _ (by omega)))⟩
theorem xw_rf {t N idx0 idx ci kf b : Nat} {z : Int} {D : String} {fs : Nat → xV} {tyf : FieldType} {L : List xE} (hd : decode (mB y) pc = .ok (.anewarray idx0, 3)) (ht : xtys[t]? = some (.object D)) (hw1 : xin (.classLink (mN y).cls idx0 D)) (hw2 : Cond.arrayOver (.object D) ∈ lw_tbl) (hz : z = (N : Int)) (hN : N ≤ 100000000)
    (hd2 : decode (mB y) (pc + 3) = .ok (.putfield idx, 3)) (hf : xFP (mN y).cls (mN y).name idx ci kf tyf) (hn : narrow tyf (xcv (gB g) (vR n)) = xcv (gB g) (vR n)) (hfit : fits tyf (xcv (gB g) (vR n)) = true) (hb : f b = some (.inr (ci, fs))) (hl : lyd f n L) (hbn : b + L.length < n)
    (kk : ∀ F, (∀ k, (k < b ∨ n < k) → F k = f k) → F b = some (.inr (ci, xui fs kf (vR n))) → lyd F (n + 1) (.inl (t, N, .inr (.inr (fun _ => none))) :: L) → xw g y Q rc rs (pc + 3 + 3) ls st (n + 1) F) : xw g y Q (rc + 1) (rs + N) pc ls (vI z :: vR b :: st) n f := by
  refine xw_anew2 hd ht hw1 hw2 hz hN ?_
  refine xw_putfield hd2 hf ((xup_n _ _ (by omega)).trans hb) hn hfit ?_
  refine kk _ (fun k hk => (xup_n _ _ (by omega)).trans (xup_n _ _ (by omega))) (xup_s _ _ _) ⟨(xup_n _ _ (by omega)).trans (xup_s _ _ _), lyd_fr L n hl (fun k h1 h2 => (xup_n _ _ (by omega)).trans (xup_n _ _ (by omega)))⟩
/-- a field gets a new object -/
theorem xw_nf {idx ci N idx2 mc2 ms2 n2 idx3 ci0 kf b : Nat} {fs1 fs : Nat → xV} {y2 : xM} {tyf : FieldType} {obj : xE} {L L2 : List xE} (hd1 : decode (mB y) pc = .ok (.new idx, 3)) (hf1 : xNW (mN y).cls idx ci N fs1) (hd2 : decode (mB y) (pc + 3) = .ok (.dup, 1)) (hd3 : decode (mB y) (pc + 3 + 1) = .ok (.invokespecial idx2, 3)) (hm : xMI (mN y).cls idx2 0 y2) (hfr : mF y2 + 1 ≤ mF y) (hlo2 : 8 + (mL y2 + 11) + mW y2 ≤ mW y)
    (hd4 : decode (mB y) (pc + 3 + 1 + 3) = .ok (.putfield idx3, 3)) (hf : xFP (mN y).cls (mN y).name idx3 ci0 kf tyf) (hn : narrow tyf (xcv (gB g) (vR n)) = xcv (gB g) (vR n)) (hfit : fits tyf (xcv (gB g) (vR n)) = true) (hb : f b = some (.inr (ci0, fs))) (hl : lyd f n L) (hbn : b + L.length < n) (hn2 : n2 = n + 1 + L2.length)
    (ct : ∀ (R : xP) (f1 : xH), f1 n = some (.inr (ci, fs1)) → (∀ F, (∀ k, (k < n ∨ n2 ≤ k) → F k = f1 k) → F n = some obj → lyd F n2 L2 → R (.inl none) n2 F) → xct g y2 mc2 ms2 [vR n] (n + 1) f1 R)
    (kk : ∀ F, (∀ k, (k < b ∨ n2 ≤ k) → F k = f k) → F b = some (.inr (ci0, xui fs kf (vR n))) → lyd F n2 (L2 ++ obj :: L) → xw g y Q rc rs (pc + 3 + 1 + 3 + 3) ls [] n2 F) : xw g y Q (rc + mc2 + 1) (rs + ms2 + N) pc ls [vR b] n f := by
  refine xw_new hd1 hf1 ?_
  refine xw_dup hd2 rfl ?_
  refine xw_callI (rc := rc) (rs := rs) (As := []) (st := [vR n, vR b]) hd3 hm hfr hlo2 (Nat.le_of_ble_eq_true rfl) rfl (ct _ _ (xup_s _ _ _) (fun F k1 b1 l1 => ?_))
  show xw g y Q rc rs (pc + 3 + 1 + 3) ls [vR n, vR b] n2 F
  have hbF : F b = some (.inr (ci0, fs)) := (k1 b (by omega)).trans ((xup_n _ _ (by omega)).trans hb)
  refine xw_putfield hd4 hf hbF hn hfit ?_
  refine kk _ (fun k hk => (xup_n _ _ (by omega)).trans ((k1 k (by omega)).trans (xup_n _ _ (by omega)))) (xup_s _ _ _) ?_
  refine lyd_app L2 n2 (n + 1) _ (lyd_up l1 (by omega)) hn2 ⟨(xup_n _ _ (by omega)).trans b1, lyd_fr L n hl (fun k h1 h2 => (xup_n _ _ (by omega)).trans ((k1 k (by omega)).trans (xup_n _ _ (by omega))))⟩
end Cba
section Cba2
variable {g : xG} {Q : xP} {f : xH}
theorem lt7 {k : Nat} (h : k < 7) : k = 0 ∨ k = 1 ∨ k = 2 ∨ k = 3 ∨ k = 4 ∨ k = 5 ∨ k = 6 := by omega
set_option maxHeartbeats 4000000 in
theorem ct_iX0 (hb : f 12 = some (.inr (0, fun j => xdef (tyX0 j)))) (hq : ∀ F, (∀ k, (k < 12 ∨ 18 ≤ k) → F k = f k) → F 12 = some (.inr (0, fX0 0 0)) → lyd F 18 [aI 8 (fun _ => 0), aI 8 (fun _ => 0), aI 8 (fun _ => 0), aI 8 (fun _ => 0), aI 8 (fun _ => 0)] → Q (.inl none) 18 F) : xct g M_X0_init 5 40 [vR 12] 13 f Q := by
  refine xct_of rfl rfl (Nat.le_of_ble_eq_true rfl) ?_
  refine xw_aload_n dX0_init_0 rfl ?_
  refine xw_objInit dX0_init_1 oi_X0 oi_2 oi_3 (by decide) (by decide) (Nat.le_of_ble_eq_true rfl) ?_
  refine xw_aload_n dX0_init_4 rfl ?_
  refine xw_bipush (z := 8) dX0_init_5 (by decide) ?_
  refine xw_af (rc := 4) (rs := 32) (N := 8) (t := 0) (c9 := .inl (fun _ => 0)) (L := []) dX0_init_7 rfl rfl (fun D h => by cases h) ac_int rfl (by decide) (by decide) (fun B cA => rfl) dX0_init_9 fp_X0_9 rfl rfl hb trivial (by decide) (fun F1 k1 b1 l1 => ?_)
  refine xw_aload_n dX0_init_12 rfl ?_
  refine xw_bipush (z := 8) dX0_init_13 (by decide) ?_
  refine xw_af (rc := 3) (rs := 24) (N := 8) (t := 0) (c9 := .inl (fun _ => 0)) (L := [aI 8 (fun _ => 0)]) dX0_init_15 rfl rfl (fun D h => by cases h) ac_int rfl (by decide) (by decide) (fun B cA => rfl) dX0_init_17 fp_X0_13 rfl rfl b1 l1 (by decide) (fun F2 k2 b2 l2 => ?_)
  refine xw_aload_n dX0_init_20 rfl ?_
  refine xw_bipush (z := 8) dX0_init_21 (by decide) ?_
  refine xw_af (rc := 2) (rs := 16) (N := 8) (t := 0) (c9 := .inl (fun _ => 0)) (L := [aI 8 (fun _ => 0), aI 8 (fun _ => 0)]) dX0_init_23 rfl rfl (fun D h => by cases h) ac_int rfl (by decide) (by decide) (fun B cA => rfl) dX0_init_25 fp_X0_16 rfl rfl b2 l2 (by decide) (fun F3 k3 b3 l3 => ?_)
  refine xw_aload_n dX0_init_28 rfl ?_
  refine xw_bipush (z := 8) dX0_init_29 (by decide) ?_
  refine xw_af (rc := 1) (rs := 8) (N := 8) (t := 0) (c9 := .inl (fun _ => 0)) (L := [aI 8 (fun _ => 0), aI 8 (fun _ => 0), aI 8 (fun _ => 0)]) dX0_init_31 rfl rfl (fun D h => by cases h) ac_int rfl (by decide) (by decide) (fun B cA => rfl) dX0_init_33 fp_X0_19 rfl rfl b3 l3 (by decide) (fun F4 k4 b4 l4 => ?_)
  refine xw_aload_n dX0_init_36 rfl ?_
  refine xw_bipush (z := 8) dX0_init_37 (by decide) ?_
  refine xw_af (rc := 0) (rs := 0) (N := 8) (t := 0) (c9 := .inl (fun _ => 0)) (L := [aI 8 (fun _ => 0), aI 8 (fun _ => 0), aI 8 (fun _ => 0), aI 8 (fun _ => 0)]) dX0_init_39 rfl rfl (fun D h => by cases h) ac_int rfl (by decide) (by decide) (fun B cA => rfl) dX0_init_41 fp_X0_22 rfl rfl b4 l4 (by decide) (fun F5 k5 b5 l5 => ?_)
  rw [← xup_id b5]
  refine xw_cgO rfl (fs1 := fX0 0 0) (fun k hk => by rcases lt7 hk with rfl | rfl | rfl | rfl | rfl | rfl | rfl <;> rfl) ?_
  exact xw_vret dX0_init_44 rfl (hq _ (fun k hk => (xup_n _ _ (by omega)).trans ((k5 k (by omega)).trans ((k4 k (by omega)).trans ((k3 k (by omega)).trans ((k2 k (by omega)).trans (k1 k (by omega))))))) (xup_s _ _ _) (lyd_up l5 (by decide)))
theorem lt2 {k : Nat} (h : k < 2) : k = 0 ∨ k = 1 := by omega
set_option maxHeartbeats 4000000 in
theorem ct_iX4 (hb : f 18 = some (.inr (4, fun j => xdef (tyX4 j)))) (hq : ∀ F, (∀ k, (k < 18 ∨ 20 ≤ k) → F k = f k) → F 18 = some (.inr (4, fX4 0)) → lyd F 20 [aB 40 (fun _ => 0)] → Q (.inl none) 20 F) : xct g M_X4_init 1 40 [vR 18] 19 f Q := by
  refine xct_of rfl rfl (Nat.le_of_ble_eq_true rfl) ?_
  refine xw_aload_n dX4_init_0 rfl ?_
  refine xw_objInit dX4_init_1 oi_X4 oi_2 oi_3 (by decide) (by decide) (Nat.le_of_ble_eq_true rfl) ?_
  refine xw_aload_n dX4_init_4 rfl ?_
  refine xw_bipush (z := 40) dX4_init_5 (by decide) ?_
  refine xw_af (rc := 0) (rs := 0) (N := 40) (t := 3) (c9 := .inl (fun _ => 0)) (L := []) dX4_init_7 rfl rfl (fun D h => by cases h) ac_byte rfl (by decide) (by decide) (fun B cA => rfl) dX4_init_9 fp_X4_9 rfl rfl hb trivial (by decide) (fun F1 k1 b1 l1 => ?_)
  rw [← xup_id b1]
  refine xw_cgO rfl (fs1 := fX4 0) (fun k hk => by rcases lt2 hk with rfl | rfl <;> rfl) ?_
  exact xw_vret dX4_init_12 rfl (hq _ (fun k hk => (xup_n _ _ (by omega)).trans (k1 k (by omega))) (xup_s _ _ _) (lyd_up l1 (by decide)))
theorem lt12 {k : Nat} (h : k < 12) : k = 0 ∨ k = 1 ∨ k = 2 ∨ k = 3 ∨ k = 4 ∨ k = 5 ∨ k = 6 ∨ k = 7 ∨ k = 8 ∨ k = 9 ∨ k = 10 ∨ k = 11 := by omega
set_option maxHeartbeats 4000000 in
theorem ct_iX8 (hb : f 22 = some (.inr (8, fun j => xdef (tyX8 j)))) (hq : ∀ F, (∀ k, (k < 22 ∨ 32 ≤ k) → F k = f k) → F 22 = some (.inr (8, fX8 0 0 0)) → lyd F 32 [aL 41 (fun _ => 0), aL 20 (fun _ => 0), aI 40 (fun _ => 0), aI 40 (fun _ => 0), aL 40 (fun _ => 0), aL 40 (fun _ => 0), aL 40 (fun _ => 0), aI 40 (fun _ => 0), aI 40 (fun _ => 0)] → Q (.inl none) 32 F) : xct g M_X8_init 9 341 [vR 22] 23 f Q := by
  refine xct_of rfl rfl (Nat.le_of_ble_eq_true rfl) ?_
  refine xw_aload_n dX8_init_0 rfl ?_
  refine xw_objInit dX8_init_1 oi_X8 oi_2 oi_3 (by decide) (by decide) (Nat.le_of_ble_eq_true rfl) ?_
  refine xw_aload_n dX8_init_4 rfl ?_
  refine xw_bipush (z := 40) dX8_init_5 (by decide) ?_
  refine xw_af (rc := 8) (rs := 301) (N := 40) (t := 0) (c9 := .inl (fun _ => 0)) (L := []) dX8_init_7 rfl rfl (fun D h => by cases h) ac_int rfl (by decide) (by decide) (fun B cA => rfl) dX8_init_9 fp_X8_9 rfl rfl hb trivial (by decide) (fun F1 k1 b1 l1 => ?_)
  refine xw_aload_n dX8_init_12 rfl ?_
  refine xw_bipush (z := 40) dX8_init_13 (by decide) ?_
  refine xw_af (rc := 7) (rs := 261) (N := 40) (t := 0) (c9 := .inl (fun _ => 0)) (L := [aI 40 (fun _ => 0)]) dX8_init_15 rfl rfl (fun D h => by cases h) ac_int rfl (by decide) (by decide) (fun B cA => rfl) dX8_init_17 fp_X8_15 rfl rfl b1 l1 (by decide) (fun F2 k2 b2 l2 => ?_)
  refine xw_aload_n dX8_init_20 rfl ?_
  refine xw_bipush (z := 40) dX8_init_21 (by decide) ?_
  refine xw_af (rc := 6) (rs := 221) (N := 40) (t := 1) (c9 := .inr (.inl (fun _ => 0))) (L := [aI 40 (fun _ => 0), aI 40 (fun _ => 0)]) dX8_init_23 rfl rfl (fun D h => by cases h) ac_long rfl (by decide) (by decide) (fun B cA => rfl) dX8_init_25 fp_X8_18 rfl rfl b2 l2 (by decide) (fun F3 k3 b3 l3 => ?_)
  refine xw_aload_n dX8_init_28 rfl ?_
  refine xw_bipush (z := 40) dX8_init_29 (by decide) ?_
  refine xw_af (rc := 5) (rs := 181) (N := 40) (t := 1) (c9 := .inr (.inl (fun _ => 0))) (L := [aL 40 (fun _ => 0), aI 40 (fun _ => 0), aI 40 (fun _ => 0)]) dX8_init_31 rfl rfl (fun D h => by cases h) ac_long rfl (by decide) (by decide) (fun B cA => rfl) dX8_init_33 fp_X8_22 rfl rfl b3 l3 (by decide) (fun F4 k4 b4 l4 => ?_)
  refine xw_aload_n dX8_init_36 rfl ?_
  refine xw_bipush (z := 40) dX8_init_37 (by decide) ?_
  refine xw_af (rc := 4) (rs := 141) (N := 40) (t := 1) (c9 := .inr (.inl (fun _ => 0))) (L := [aL 40 (fun _ => 0), aL 40 (fun _ => 0), aI 40 (fun _ => 0), aI 40 (fun _ => 0)]) dX8_init_39 rfl rfl (fun D h => by cases h) ac_long rfl (by decide) (by decide) (fun B cA => rfl) dX8_init_41 fp_X8_25 rfl rfl b4 l4 (by decide) (fun F5 k5 b5 l5 => ?_)
  refine xw_aload_n dX8_init_44 rfl ?_
  refine xw_bipush (z := 40) dX8_init_45 (by decide) ?_
  refine xw_af (rc := 3) (rs := 101) (N := 40) (t := 0) (c9 := .inl (fun _ => 0)) (L := [aL 40 (fun _ => 0), aL 40 (fun _ => 0), aL 40 (fun _ => 0), aI 40 (fun _ => 0), aI 40 (fun _ => 0)]) dX8_init_47 rfl rfl (fun D h => by cases h) ac_int rfl (by decide) (by decide) (fun B cA => rfl) dX8_init_49 fp_X8_28 rfl rfl b5 l5 (by decide) (fun F6 k6 b6 l6 => ?_)
  refine xw_aload_n dX8_init_52 rfl ?_
  refine xw_bipush (z := 40) dX8_init_53 (by decide) ?_
  refine xw_af (rc := 2) (rs := 61) (N := 40) (t := 0) (c9 := .inl (fun _ => 0)) (L := [aI 40 (fun _ => 0), aL 40 (fun _ => 0), aL 40 (fun _ => 0), aL 40 (fun _ => 0), aI 40 (fun _ => 0), aI 40 (fun _ => 0)]) dX8_init_55 rfl rfl (fun D h => by cases h) ac_int rfl (by decide) (by decide) (fun B cA => rfl) dX8_init_57 fp_X8_31 rfl rfl b6 l6 (by decide) (fun F7 k7 b7 l7 => ?_)
  refine xw_aload_n dX8_init_60 rfl ?_
  refine xw_bipush (z := 20) dX8_init_61 (by decide) ?_
  refine xw_af (rc := 1) (rs := 41) (N := 20) (t := 1) (c9 := .inr (.inl (fun _ => 0))) (L := [aI 40 (fun _ => 0), aI 40 (fun _ => 0), aL 40 (fun _ => 0), aL 40 (fun _ => 0), aL 40 (fun _ => 0), aI 40 (fun _ => 0), aI 40 (fun _ => 0)]) dX8_init_63 rfl rfl (fun D h => by cases h) ac_long rfl (by decide) (by decide) (fun B cA => rfl) dX8_init_65 fp_X8_34 rfl rfl b7 l7 (by decide) (fun F8 k8 b8 l8 => ?_)
  refine xw_aload_n dX8_init_68 rfl ?_
  refine xw_bipush (z := 41) dX8_init_69 (by decide) ?_
  refine xw_af (rc := 0) (rs := 0) (N := 41) (t := 1) (c9 := .inr (.inl (fun _ => 0))) (L := [aL 20 (fun _ => 0), aI 40 (fun _ => 0), aI 40 (fun _ => 0), aL 40 (fun _ => 0), aL 40 (fun _ => 0), aL 40 (fun _ => 0), aI 40 (fun _ => 0), aI 40 (fun _ => 0)]) dX8_init_71 rfl rfl (fun D h => by cases h) ac_long rfl (by decide) (by decide) (fun B cA => rfl) dX8_init_73 fp_X8_37 rfl rfl b8 l8 (by decide) (fun F9 k9 b9 l9 => ?_)
  rw [← xup_id b9]
  refine xw_cgO rfl (fs1 := fX8 0 0 0) (fun k hk => by rcases lt12 hk with rfl | rfl | rfl | rfl | rfl | rfl | rfl | rfl | rfl | rfl | rfl | rfl <;> rfl) ?_
  exact xw_vret dX8_init_76 rfl (hq _ (fun k hk => (xup_n _ _ (by omega)).trans ((k9 k (by omega)).trans ((k8 k (by omega)).trans ((k7 k (by omega)).trans ((k6 k (by omega)).trans ((k5 k (by omega)).trans ((k4 k (by omega)).trans ((k3 k (by omega)).trans ((k2 k (by omega)).trans (k1 k (by omega))))))))))) (xup_s _ _ _) (lyd_up l9 (by decide)))
set_option maxHeartbeats 4000000 in
theorem ct_iX5 (hb : f 32 = some (.inr (5, fun j => xdef (tyX5 j)))) (hq : ∀ F, (∀ k, (k < 32 ∨ 37 ≤ k) → F k = f k) → F 32 = some (.inr (5, fX5 0 0 0)) → lyd F 37 [aI 4096 (fun _ => 0), aI 12 (fun _ => 0), aI 12 (fun _ => 0), aI 12 (fun _ => 0)] → Q (.inl none) 37 F) : xct g M_X5_init 4 4132 [vR 32] 33 f Q := by
  refine xct_of rfl rfl (Nat.le_of_ble_eq_true rfl) ?_
  refine xw_aload_n dX5_init_0 rfl ?_
  refine xw_objInit dX5_init_1 oi_X5 oi_2 oi_3 (by decide) (by decide) (Nat.le_of_ble_eq_true rfl) ?_
  refine xw_aload_n dX5_init_4 rfl ?_
  refine xw_bipush (z := 12) dX5_init_5 (by decide) ?_
  refine xw_af (rc := 3) (rs := 4120) (N := 12) (t := 0) (c9 := .inl (fun _ => 0)) (L := []) dX5_init_7 rfl rfl (fun D h => by cases h) ac_int rfl (by decide) (by decide) (fun B cA => rfl) dX5_init_9 fp_X5_11 rfl rfl hb trivial (by decide) (fun F1 k1 b1 l1 => ?_)
  refine xw_aload_n dX5_init_12 rfl ?_
  refine xw_bipush (z := 12) dX5_init_13 (by decide) ?_
  refine xw_af (rc := 2) (rs := 4108) (N := 12) (t := 0) (c9 := .inl (fun _ => 0)) (L := [aI 12 (fun _ => 0)]) dX5_init_15 rfl rfl (fun D h => by cases h) ac_int rfl (by decide) (by decide) (fun B cA => rfl) dX5_init_17 fp_X5_15 rfl rfl b1 l1 (by decide) (fun F2 k2 b2 l2 => ?_)
  refine xw_aload_n dX5_init_20 rfl ?_
  refine xw_bipush (z := 12) dX5_init_21 (by decide) ?_
  refine xw_af (rc := 1) (rs := 4096) (N := 12) (t := 0) (c9 := .inl (fun _ => 0)) (L := [aI 12 (fun _ => 0), aI 12 (fun _ => 0)]) dX5_init_23 rfl rfl (fun D h => by cases h) ac_int rfl (by decide) (by decide) (fun B cA => rfl) dX5_init_25 fp_X5_18 rfl rfl b2 l2 (by decide) (fun F3 k3 b3 l3 => ?_)
  refine xw_aload_n dX5_init_28 rfl ?_
  refine xw_sipush (z := 4096) dX5_init_29 (by decide) ?_
  refine xw_af (rc := 0) (rs := 0) (N := 4096) (t := 0) (c9 := .inl (fun _ => 0)) (L := [aI 12 (fun _ => 0), aI 12 (fun _ => 0), aI 12 (fun _ => 0)]) dX5_init_32 rfl rfl (fun D h => by cases h) ac_int rfl (by decide) (by decide) (fun B cA => rfl) dX5_init_34 fp_X5_21 rfl rfl b3 l3 (by decide) (fun F4 k4 b4 l4 => ?_)
  rw [← xup_id b4]
  refine xw_cgO rfl (fs1 := fX5 0 0 0) (fun k hk => by rcases lt7 hk with rfl | rfl | rfl | rfl | rfl | rfl | rfl <;> rfl) ?_
  exact xw_vret dX5_init_37 rfl (hq _ (fun k hk => (xup_n _ _ (by omega)).trans ((k4 k (by omega)).trans ((k3 k (by omega)).trans ((k2 k (by omega)).trans (k1 k (by omega)))))) (xup_s _ _ _) (lyd_up l4 (by decide)))
set_option maxHeartbeats 4000000 in
theorem ct_iX3 (hb : f 20 = some (.inr (3, fun j => xdef (tyX3 j)))) (hq : ∀ F, (∀ k, (k < 20 ∨ 22 ≤ k) → F k = f k) → F 20 = some (.inr (3, fX3 0 (-1))) → lyd F 22 [aR 6 156 (fun _ => none)] → Q (.inl none) 22 F) : xct g M_X3_init 1 156 [vR 20] 21 f Q := by
  refine xct_of rfl rfl (Nat.le_of_ble_eq_true rfl) ?_
  refine xw_aload_n dX3_init_0 rfl ?_
  refine xw_objInit dX3_init_1 oi_X3 oi_2 oi_3 (by decide) (by decide) (Nat.le_of_ble_eq_true rfl) ?_
  refine xw_aload_n dX3_init_4 rfl ?_
  refine xw_sipush (z := 156) dX3_init_5 (by decide) ?_
  refine xw_rf (rc := 0) (rs := 0) (N := 156) (t := 6) (D := "SpillikinTable$Crossing") (L := []) dX3_init_8 rfl (xi1 147 rfl rfl) (xj1 148 rfl) rfl (by decide) dX3_init_11 fp_X3_11 rfl rfl hb trivial (by decide) (fun F1 k1 b1 l1 => ?_)
  refine xw_aload_n dX3_init_14 rfl ?_
  refine xw_iconst dX3_init_15 ?_
  refine xw_putfield dX3_init_16 (fp_X3_17 _) b1 rfl rfl ?_
  refine xw_cgO rfl (fs1 := fX3 0 (-1)) (fun k hk => by rcases lt3 hk with rfl | rfl | rfl <;> rfl) ?_
  exact xw_vret dX3_init_19 rfl (hq _ (fun k hk => (xup_n _ _ (by omega)).trans (k1 k (by omega))) (xup_s _ _ _) (lyd_up l1 (by decide)))
theorem lt14 {k : Nat} (h : k < 14) : k = 0 ∨ k = 1 ∨ k = 2 ∨ k = 3 ∨ k = 4 ∨ k = 5 ∨ k = 6 ∨ k = 7 ∨ k = 8 ∨ k = 9 ∨ k = 10 ∨ k = 11 ∨ k = 12 ∨ k = 13 := by omega
set_option maxHeartbeats 4000000 in
theorem ct_iX6 (hb : f 3 = some (.inr (6, fun j => xdef (tyX6 j)))) (hq : ∀ F, (∀ k, (k < 3 ∨ 12 ≤ k) → F k = f k) → F 3 = some (.inr (6, fX6 2 0 0 0 0 0)) → lyd F 12 [aL 3 (fun _ => 0), aL 3 (fun _ => 0), aL 3 (fun _ => 0), aL 3 (fun _ => 0), aL 3 (fun _ => 0), aL 3 (fun _ => 0), aL 3 (fun _ => 0), aL 3 (xui (fun _ => 0) 2 1)] → Q (.inl none) 12 F) : xct g M_X6_init 8 24 [vR 3] 4 f Q := by
  refine xct_of rfl rfl (Nat.le_of_ble_eq_true rfl) ?_
  refine xw_aload_n dX6_init_0 rfl ?_
  refine xw_objInit dX6_init_1 oi_X6 oi_2 oi_3 (by decide) (by decide) (Nat.le_of_ble_eq_true rfl) ?_
  refine xw_aload_n dX6_init_4 rfl ?_
  refine xw_iconst dX6_init_5 ?_
  refine xw_af (rc := 7) (rs := 21) (N := 3) (t := 1) (c9 := .inr (.inl (fun _ => 0))) (L := []) dX6_init_6 rfl rfl (fun D h => by cases h) ac_long rfl (by decide) (by decide) (fun B cA => rfl) dX6_init_8 fp_X6_9 rfl rfl hb trivial (by decide) (fun F1 k1 b1 l1 => ?_)
  refine xw_aload_n dX6_init_11 rfl ?_
  refine xw_iconst dX6_init_12 ?_
  refine xw_af (rc := 6) (rs := 18) (N := 3) (t := 1) (c9 := .inr (.inl (fun _ => 0))) (L := [aL 3 (fun _ => 0)]) dX6_init_13 rfl rfl (fun D h => by cases h) ac_long rfl (by decide) (by decide) (fun B cA => rfl) dX6_init_15 fp_X6_15 rfl rfl b1 l1 (by decide) (fun F2 k2 b2 l2 => ?_)
  refine xw_aload_n dX6_init_18 rfl ?_
  refine xw_iconst dX6_init_19 ?_
  refine xw_af (rc := 5) (rs := 15) (N := 3) (t := 1) (c9 := .inr (.inl (fun _ => 0))) (L := [aL 3 (fun _ => 0), aL 3 (fun _ => 0)]) dX6_init_20 rfl rfl (fun D h => by cases h) ac_long rfl (by decide) (by decide) (fun B cA => rfl) dX6_init_22 fp_X6_18 rfl rfl b2 l2 (by decide) (fun F3 k3 b3 l3 => ?_)
  refine xw_aload_n dX6_init_25 rfl ?_
  refine xw_iconst dX6_init_26 ?_
  refine xw_af (rc := 4) (rs := 12) (N := 3) (t := 1) (c9 := .inr (.inl (fun _ => 0))) (L := [aL 3 (fun _ => 0), aL 3 (fun _ => 0), aL 3 (fun _ => 0)]) dX6_init_27 rfl rfl (fun D h => by cases h) ac_long rfl (by decide) (by decide) (fun B cA => rfl) dX6_init_29 fp_X6_21 rfl rfl b3 l3 (by decide) (fun F4 k4 b4 l4 => ?_)
  refine xw_aload_n dX6_init_32 rfl ?_
  refine xw_iconst dX6_init_33 ?_
  refine xw_af (rc := 3) (rs := 9) (N := 3) (t := 1) (c9 := .inr (.inl (fun _ => 0))) (L := [aL 3 (fun _ => 0), aL 3 (fun _ => 0), aL 3 (fun _ => 0), aL 3 (fun _ => 0)]) dX6_init_34 rfl rfl (fun D h => by cases h) ac_long rfl (by decide) (by decide) (fun B cA => rfl) dX6_init_36 fp_X6_24 rfl rfl b4 l4 (by decide) (fun F5 k5 b5 l5 => ?_)
  refine xw_aload_n dX6_init_39 rfl ?_
  refine xw_iconst dX6_init_40 ?_
  refine xw_af (rc := 2) (rs := 6) (N := 3) (t := 1) (c9 := .inr (.inl (fun _ => 0))) (L := [aL 3 (fun _ => 0), aL 3 (fun _ => 0), aL 3 (fun _ => 0), aL 3 (fun _ => 0), aL 3 (fun _ => 0)]) dX6_init_41 rfl rfl (fun D h => by cases h) ac_long rfl (by decide) (by decide) (fun B cA => rfl) dX6_init_43 fp_X6_27 rfl rfl b5 l5 (by decide) (fun F6 k6 b6 l6 => ?_)
  refine xw_aload_n dX6_init_46 rfl ?_
  refine xw_iconst dX6_init_47 ?_
  refine xw_af (rc := 1) (rs := 3) (N := 3) (t := 1) (c9 := .inr (.inl (fun _ => 0))) (L := [aL 3 (fun _ => 0), aL 3 (fun _ => 0), aL 3 (fun _ => 0), aL 3 (fun _ => 0), aL 3 (fun _ => 0), aL 3 (fun _ => 0)]) dX6_init_48 rfl rfl (fun D h => by cases h) ac_long rfl (by decide) (by decide) (fun B cA => rfl) dX6_init_50 fp_X6_30 rfl rfl b6 l6 (by decide) (fun F7 k7 b7 l7 => ?_)
  refine xw_aload_n dX6_init_53 rfl ?_
  refine xw_iconst dX6_init_54 ?_
  refine xw_af (rc := 0) (rs := 0) (N := 3) (t := 1) (c9 := .inr (.inl (fun _ => 0))) (L := [aL 3 (fun _ => 0), aL 3 (fun _ => 0), aL 3 (fun _ => 0), aL 3 (fun _ => 0), aL 3 (fun _ => 0), aL 3 (fun _ => 0), aL 3 (fun _ => 0)]) dX6_init_55 rfl rfl (fun D h => by cases h) ac_long rfl (by decide) (by decide) (fun B cA => rfl) dX6_init_57 fp_X6_33 rfl rfl b7 l7 (by decide) (fun F8 k8 b8 l8 => ?_)
  rw [← xup_id b8]
  refine xw_cgO rfl (fs1 := fX6 0 0 0 0 0 0) (fun k hk => by rcases lt14 hk with rfl | rfl | rfl | rfl | rfl | rfl | rfl | rfl | rfl | rfl | rfl | rfl | rfl | rfl <;> rfl) ?_
  refine xw_aload_n dX6_init_60 rfl ?_
  refine xw_getfield dX6_init_61 fl_X6_9 (xup_s _ _ _) rfl ?_
  refine xw_iconst dX6_init_64 ?_
  refine xw_lconst (z := 1) dX6_init_65 (by decide) ?_
  have l4 : F8 4 = some (aL 3 (fun _ => 0)) := l8.2.2.2.2.2.2.2.1
  refine xw_last (j := 2) dX6_init_66 ((xup_n _ _ (by decide)).trans l4) rfl (by decide) (by decide) ?_
  refine xw_aload_n dX6_init_67 rfl ?_
  refine xw_iconst dX6_init_68 ?_
  refine xw_putfield dX6_init_69 (fp_X6_36 _) ((xup_n _ _ (by decide)).trans (xup_s _ _ _)) rfl rfl ?_
  rw [fX6_1]
  refine xw_vret dX6_init_72 rfl (hq _ (fun k hk => (xup_n _ _ (by omega)).trans ((xup_n _ _ (by omega)).trans ((xup_n _ _ (by omega)).trans ((k8 k (by omega)).trans ((k7 k (by omega)).trans ((k6 k (by omega)).trans ((k5 k (by omega)).trans ((k4 k (by omega)).trans ((k3 k (by omega)).trans ((k2 k (by omega)).trans (k1 k (by omega)))))))))))) (xup_s _ _ _) ?_)
  obtain ⟨m7, m6, m5, m4, m3, m2, m1, m0, _⟩ := l8
  have tr : ∀ {k : Nat} {e e1 e2 e3 : xE}, 4 < k → F8 k = some e → xup (xup (xup F8 3 e1) 4 e2) 3 e3 k = some e := fun h1 h2 => (xup_n _ _ (by omega)).trans ((xup_n _ _ (by omega)).trans ((xup_n _ _ (by omega)).trans h2))
  exact ⟨tr (by decide) m7, tr (by decide) m6, tr (by decide) m5, tr (by decide) m4, tr (by decide) m3, tr (by decide) m2, tr (by decide) m1, (xup_n _ _ (by decide)).trans (xup_s _ _ _), trivial⟩
theorem lt61 {k : Nat} (h : k < 61) : k = 0 ∨ k = 1 ∨ k = 2 ∨ k = 3 ∨ k = 4 ∨ k = 5 ∨ k = 6 ∨ k = 7 ∨ k = 8 ∨ k = 9 ∨ k = 10 ∨ k = 11 ∨ k = 12 ∨ k = 13 ∨ k = 14 ∨ k = 15 ∨ k = 16 ∨ k = 17 ∨ k = 18 ∨ k = 19 ∨ k = 20 ∨ k = 21 ∨ k = 22 ∨ k = 23 ∨ k = 24 ∨ k = 25 ∨ k = 26 ∨ k = 27 ∨ k = 28 ∨ k = 29 ∨ k = 30 ∨ k = 31 ∨ k = 32 ∨ k = 33 ∨ k = 34 ∨ k = 35 ∨ k = 36 ∨ k = 37 ∨ k = 38 ∨ k = 39 ∨ k = 40 ∨ k = 41 ∨ k = 42 ∨ k = 43 ∨ k = 44 ∨ k = 45 ∨ k = 46 ∨ k = 47 ∨ k = 48 ∨ k = 49 ∨ k = 50 ∨ k = 51 ∨ k = 52 ∨ k = 53 ∨ k = 54 ∨ k = 55 ∨ k = 56 ∨ k = 57 ∨ k = 58 ∨ k = 59 ∨ k = 60 := by omega
set_option maxHeartbeats 4000000 in
theorem ct_iX10w {F : xH} (g38 : F 38 = some (.inr (10, fX10 0 0 0 0 0 0 1 0 0 0 0 0 0 0 0 0 0 0 0 0 0 0))) (gl : lyd F 78 [aI 40 (fun _ => 0), aI 40 (fun _ => 0), aI 40 (fun _ => 0), aI 101 (fun _ => 0), aI 41 (fun _ => 0), aI 101 (fun _ => 0), aI 101 (fun _ => 0), aI 40 (fun _ => 0), aZ 101 (fun _ => 0), aZ 10000 (fun _ => 0), aZ 10000 (fun _ => 0), aI 100 (fun _ => 0), aL 200 (fun _ => 0), aL 200 (fun _ => 0), aL 200 (fun _ => 0), aL 200 (fun _ => 0), aI 200 (fun _ => 0), aI 200 (fun _ => 0), aI 200 (fun _ => 0), aL 3 (fun _ => 0), aL 3 (fun _ => 0), aL 3 (fun _ => 0), aI 9 (fun _ => 0), aI 72 (fun _ => 0), aI 8 (fun _ => 0), aI 8 (fun _ => 0), aL 3 (fun _ => 0), aL 3 (fun _ => 0), aL 3 (fun _ => 0), aL 3 (fun _ => 0), aZ 101 (fun _ => 0), aI 909 (fun _ => 0), aI 101 (fun _ => 0), aI 101 (fun _ => 0), aI 101 (fun _ => 0), aL 30 (fun _ => 0), aL 4800 (fun _ => 0), aI 160 (fun _ => 0), aI 8 (fun _ => 0)]) (gk : ∀ k, (k < 38 ∨ 78 ≤ k) → F k = f k) (hq : ∀ F, (∀ k, (k < 38 ∨ 78 ≤ k) → F k = f k) → F 38 = some (.inr (10, fX10 0 0 0 0 0 0 1 0 0 0 0 0 0 0 0 0 0 0 0 0 0 0)) → lyd F 78 [aI 40 (fun _ => 0), aI 40 (fun _ => 0), aI 40 (fun _ => 0), aI 101 (fun _ => 0), aI 41 (fun _ => 0), aI 101 (fun _ => 0), aI 101 (fun _ => 0), aI 40 (fun _ => 0), aZ 101 (fun _ => 0), aZ 10000 (fun _ => 0), aZ 10000 (fun _ => 0), aI 100 (fun _ => 0), aL 200 (fun _ => 0), aL 200 (fun _ => 0), aL 200 (fun _ => 0), aL 200 (fun _ => 0), aI 200 (fun _ => 0), aI 200 (fun _ => 0), aI 200 (fun _ => 0), aL 3 (fun _ => 0), aL 3 (fun _ => 0), aL 3 (fun _ => 0), aI 9 (fun _ => 0), aI 72 (fun _ => 0), aI 8 (fun _ => 0), aI 8 (fun _ => 0), aL 3 (fun _ => 0), aL 3 (fun _ => 0), aL 3 (fun _ => 0), aL 3 (fun _ => 0), aZ 101 (fun _ => 0), aI 909 (fun _ => 0), aI 101 (fun _ => 0), aI 101 (fun _ => 0), aI 101 (fun _ => 0), aL 30 (fun _ => 0), aL 4800 (fun _ => 0), aI 160 (fun _ => -1), aI 8 (fun _ => 0)] → Q (.inl none) 78 F) : xw g M_X10_init Q 0 0 326 [(0, vR 38)] [] 78 F := by
  obtain ⟨m77, m76, m75, m74, m73, m72, m71, m70, m69, m68, m67, m66, m65, m64, m63, m62, m61, m60, m59, m58, m57, m56, m55, m54, m53, m52, m51, m50, m49, m48, m47, m46, m45, m44, m43, m42, m41, m40, m39, _⟩ := gl
  have W : ∀ (t i : Nat) (F1 : xH), i + t = 160 → (∀ k, k ≠ 40 → F1 k = F k) → F1 40 = some (aI 160 (fun j => if j < i then -1 else 0)) → xw g M_X10_init Q 0 0 328 [(0, vR 38), (1, vI (i : Int))] [] 78 F1 := by
    intro t
    induction t with
    | zero =>
      intro i F1 hi hk h40
      have e : i = 160 := by omega
      subst e
      rw [← xup_id h40]
      refine xw_cgI (c1 := fun _ => -1) (fun j hj => if_pos hj) ?_
      refine xw_iload_n dX10_init_328 rfl ?_
      refine xw_sipush (z := 160) dX10_init_329 (by decide) ?_
      refine xw_icmpge (tgt := 348) dX10_init_332 (by decide) (by unfold inI; omega) (by unfold inI; omega) (fun c => ?_) (fun c => by exfalso; omega)
      have tr : ∀ {k : Nat} {e e1 : xE}, k ≠ 40 → F k = some e → xup F1 40 e1 k = some e := fun h1 h2 => (xup_n _ _ h1).trans ((hk _ h1).trans h2)
      exact xw_vret dX10_init_348 rfl (hq _ (fun k q => (xup_n _ _ (by omega)).trans ((hk k (by omega)).trans (gk k q))) (tr (by decide) g38) ⟨tr (by decide) m77, tr (by decide) m76, tr (by decide) m75, tr (by decide) m74, tr (by decide) m73, tr (by decide) m72, tr (by decide) m71, tr (by decide) m70, tr (by decide) m69, tr (by decide) m68, tr (by decide) m67, tr (by decide) m66, tr (by decide) m65, tr (by decide) m64, tr (by decide) m63, tr (by decide) m62, tr (by decide) m61, tr (by decide) m60, tr (by decide) m59, tr (by decide) m58, tr (by decide) m57, tr (by decide) m56, tr (by decide) m55, tr (by decide) m54, tr (by decide) m53, tr (by decide) m52, tr (by decide) m51, tr (by decide) m50, tr (by decide) m49, tr (by decide) m48, tr (by decide) m47, tr (by decide) m46, tr (by decide) m45, tr (by decide) m44, tr (by decide) m43, tr (by decide) m42, tr (by decide) m41, xup_s _ _ _, tr (by decide) m39, trivial⟩)
    | succ t ih =>
      intro i F1 hi hk h40
      refine xw_iload_n dX10_init_328 rfl ?_
      refine xw_sipush (z := 160) dX10_init_329 (by decide) ?_
      refine xw_icmpge (tgt := 348) dX10_init_332 (by decide) (by unfold inI; omega) (by unfold inI; omega) (fun c => by exfalso; omega) (fun c => ?_)
      refine xw_aload_n dX10_init_335 rfl ?_
      refine xw_getfield dX10_init_336 fl_X10_17 ((hk 38 (by decide)).trans g38) rfl ?_
      refine xw_iload_n dX10_init_339 rfl ?_
      refine xw_iconst dX10_init_340 ?_
      refine xw_iast dX10_init_341 h40 (j := i) rfl (by omega) (by decide) ?_
      refine xw_cgI (c1 := fun j => if j < i + 1 then -1 else 0) (fun j hj => ?_) ?_
      · unfold xui; dsimp only; (repeat' split) <;> first | rfl | (exfalso; omega)
      refine xw_iinc dX10_init_342 rfl (by decide) ?_
      refine xw_goto (tgt := 328) dX10_init_345 (by decide) ?_
      exact xw_ls [(0, vR 38), (1, vI ((i + 1 : Nat) : Int))] ⟨rfl, rfl, trivial⟩ (ih (i + 1) _ (by omega) (fun k q => (xup_n _ _ q).trans (hk k q)) (xup_s _ _ _))
  refine xw_iconst dX10_init_326 ?_
  refine xw_istore_n dX10_init_327 (by decide) ?_
  refine xw_ls [(0, vR 38), (1, vI ((0 : Nat) : Int))] ⟨rfl, rfl, trivial⟩ ?_
  rw [← xup_id m40]
  refine xw_cgI (c1 := fun j => if j < 0 then -1 else 0) (fun j hj => by rw [if_neg (by omega)]) ?_
  exact W 160 0 _ rfl (fun k q => xup_n _ _ q) (xup_s _ _ _)
set_option maxHeartbeats 16000000 in
theorem ct_iX10 (hb : f 38 = some (.inr (10, fun j => xdef (tyX10 j)))) (hq : ∀ F, (∀ k, (k < 38 ∨ 78 ≤ k) → F k = f k) → F 38 = some (.inr (10, fX10 0 0 0 0 0 0 1 0 0 0 0 0 0 0 0 0 0 0 0 0 0 0)) → lyd F 78 [aI 40 (fun _ => 0), aI 40 (fun _ => 0), aI 40 (fun _ => 0), aI 101 (fun _ => 0), aI 41 (fun _ => 0), aI 101 (fun _ => 0), aI 101 (fun _ => 0), aI 40 (fun _ => 0), aZ 101 (fun _ => 0), aZ 10000 (fun _ => 0), aZ 10000 (fun _ => 0), aI 100 (fun _ => 0), aL 200 (fun _ => 0), aL 200 (fun _ => 0), aL 200 (fun _ => 0), aL 200 (fun _ => 0), aI 200 (fun _ => 0), aI 200 (fun _ => 0), aI 200 (fun _ => 0), aL 3 (fun _ => 0), aL 3 (fun _ => 0), aL 3 (fun _ => 0), aI 9 (fun _ => 0), aI 72 (fun _ => 0), aI 8 (fun _ => 0), aI 8 (fun _ => 0), aL 3 (fun _ => 0), aL 3 (fun _ => 0), aL 3 (fun _ => 0), aL 3 (fun _ => 0), aZ 101 (fun _ => 0), aI 909 (fun _ => 0), aI 101 (fun _ => 0), aI 101 (fun _ => 0), aI 101 (fun _ => 0), aL 30 (fun _ => 0), aL 4800 (fun _ => 0), aI 160 (fun _ => -1), aI 8 (fun _ => 0)] → Q (.inl none) 78 F) : xct g M_X10_init 39 28534 [vR 38] 39 f Q := by
  refine xct_of rfl rfl (Nat.le_of_ble_eq_true rfl) ?_
  refine xw_aload_n dX10_init_0 rfl ?_
  refine xw_objInit dX10_init_1 oi_X10 oi_2 oi_3 (by decide) (by decide) (Nat.le_of_ble_eq_true rfl) ?_
  refine xw_aload_n dX10_init_4 rfl ?_
  refine xw_bipush (z := 8) dX10_init_5 (by decide) ?_
  refine xw_af (rc := 38) (rs := 28526) (N := 8) (t := 0) (c9 := .inl (fun _ => 0)) (L := []) dX10_init_7 rfl rfl (fun D h => by cases h) ac_int rfl (by decide) (by decide) (fun B cA => rfl) dX10_init_9 fp_X10_13 rfl rfl hb trivial (by decide) (fun F1 k1 b1 l1 => ?_)
  refine xw_aload_n dX10_init_12 rfl ?_
  refine xw_sipush (z := 160) dX10_init_13 (by decide) ?_
  refine xw_af (rc := 37) (rs := 28366) (N := 160) (t := 0) (c9 := .inl (fun _ => 0)) (L := [aI 8 (fun _ => 0)]) dX10_init_16 rfl rfl (fun D h => by cases h) ac_int rfl (by decide) (by decide) (fun B cA => rfl) dX10_init_18 fp_X10_17 rfl rfl b1 l1 (by decide) (fun F2 k2 b2 l2 => ?_)
  refine xw_aload_n dX10_init_21 rfl ?_
  refine xw_sipush (z := 4800) dX10_init_22 (by decide) ?_
  refine xw_af (rc := 36) (rs := 23566) (N := 4800) (t := 1) (c9 := .inr (.inl (fun _ => 0))) (L := [aI 160 (fun _ => 0), aI 8 (fun _ => 0)]) dX10_init_25 rfl rfl (fun D h => by cases h) ac_long rfl (by decide) (by decide) (fun B cA => rfl) dX10_init_27 fp_X10_20 rfl rfl b2 l2 (by decide) (fun F3 k3 b3 l3 => ?_)
  refine xw_aload_n dX10_init_30 rfl ?_
  refine xw_bipush (z := 30) dX10_init_31 (by decide) ?_
  refine xw_af (rc := 35) (rs := 23536) (N := 30) (t := 1) (c9 := .inr (.inl (fun _ => 0))) (L := [aL 4800 (fun _ => 0), aI 160 (fun _ => 0), aI 8 (fun _ => 0)]) dX10_init_33 rfl rfl (fun D h => by cases h) ac_long rfl (by decide) (by decide) (fun B cA => rfl) dX10_init_35 fp_X10_24 rfl rfl b3 l3 (by decide) (fun F4 k4 b4 l4 => ?_)
  refine xw_aload_n dX10_init_38 rfl ?_
  refine xw_bipush (z := 101) dX10_init_39 (by decide) ?_
  refine xw_af (rc := 34) (rs := 23435) (N := 101) (t := 0) (c9 := .inl (fun _ => 0)) (L := [aL 30 (fun _ => 0), aL 4800 (fun _ => 0), aI 160 (fun _ => 0), aI 8 (fun _ => 0)]) dX10_init_41 rfl rfl (fun D h => by cases h) ac_int rfl (by decide) (by decide) (fun B cA => rfl) dX10_init_43 fp_X10_27 rfl rfl b4 l4 (by decide) (fun F5 k5 b5 l5 => ?_)
  refine xw_aload_n dX10_init_46 rfl ?_
  refine xw_bipush (z := 101) dX10_init_47 (by decide) ?_
  refine xw_af (rc := 33) (rs := 23334) (N := 101) (t := 0) (c9 := .inl (fun _ => 0)) (L := [aI 101 (fun _ => 0), aL 30 (fun _ => 0), aL 4800 (fun _ => 0), aI 160 (fun _ => 0), aI 8 (fun _ => 0)]) dX10_init_49 rfl rfl (fun D h => by cases h) ac_int rfl (by decide) (by decide) (fun B cA => rfl) dX10_init_51 fp_X10_30 rfl rfl b5 l5 (by decide) (fun F6 k6 b6 l6 => ?_)
  refine xw_aload_n dX10_init_54 rfl ?_
  refine xw_bipush (z := 101) dX10_init_55 (by decide) ?_
  refine xw_af (rc := 32) (rs := 23233) (N := 101) (t := 0) (c9 := .inl (fun _ => 0)) (L := [aI 101 (fun _ => 0), aI 101 (fun _ => 0), aL 30 (fun _ => 0), aL 4800 (fun _ => 0), aI 160 (fun _ => 0), aI 8 (fun _ => 0)]) dX10_init_57 rfl rfl (fun D h => by cases h) ac_int rfl (by decide) (by decide) (fun B cA => rfl) dX10_init_59 fp_X10_33 rfl rfl b6 l6 (by decide) (fun F7 k7 b7 l7 => ?_)
  refine xw_aload_n dX10_init_62 rfl ?_
  refine xw_sipush (z := 909) dX10_init_63 (by decide) ?_
  refine xw_af (rc := 31) (rs := 22324) (N := 909) (t := 0) (c9 := .inl (fun _ => 0)) (L := [aI 101 (fun _ => 0), aI 101 (fun _ => 0), aI 101 (fun _ => 0), aL 30 (fun _ => 0), aL 4800 (fun _ => 0), aI 160 (fun _ => 0), aI 8 (fun _ => 0)]) dX10_init_66 rfl rfl (fun D h => by cases h) ac_int rfl (by decide) (by decide) (fun B cA => rfl) dX10_init_68 fp_X10_36 rfl rfl b7 l7 (by decide) (fun F8 k8 b8 l8 => ?_)
  refine xw_aload_n dX10_init_71 rfl ?_
  refine xw_bipush (z := 101) dX10_init_72 (by decide) ?_
  refine xw_af (rc := 30) (rs := 22223) (N := 101) (t := 2) (c9 := .inl (fun _ => 0)) (L := [aI 909 (fun _ => 0), aI 101 (fun _ => 0), aI 101 (fun _ => 0), aI 101 (fun _ => 0), aL 30 (fun _ => 0), aL 4800 (fun _ => 0), aI 160 (fun _ => 0), aI 8 (fun _ => 0)]) dX10_init_74 rfl rfl (fun D h => by cases h) ac_boolean rfl (by decide) (by decide) (fun B cA => rfl) dX10_init_76 fp_X10_39 rfl rfl b8 l8 (by decide) (fun F9 k9 b9 l9 => ?_)
  refine xw_aload_n dX10_init_79 rfl ?_
  refine xw_iconst dX10_init_80 ?_
  refine xw_nuf (L := [aZ 101 (fun _ => 0), aI 909 (fun _ => 0), aI 101 (fun _ => 0), aI 101 (fun _ => 0), aI 101 (fun _ => 0), aL 30 (fun _ => 0), aL 4800 (fun _ => 0), aI 160 (fun _ => 0), aI 8 (fun _ => 0)]) dX10_init_81 (fp_X10_43 _) rfl rfl b9 l9 (by decide) (fun F10 k10 b10 l10 => ?_)
  refine xw_aload_n dX10_init_84 rfl ?_
  refine xw_iconst dX10_init_85 ?_
  refine xw_af (rc := 29) (rs := 22220) (N := 3) (t := 1) (c9 := .inr (.inl (fun _ => 0))) (L := [aZ 101 (fun _ => 0), aI 909 (fun _ => 0), aI 101 (fun _ => 0), aI 101 (fun _ => 0), aI 101 (fun _ => 0), aL 30 (fun _ => 0), aL 4800 (fun _ => 0), aI 160 (fun _ => 0), aI 8 (fun _ => 0)]) dX10_init_86 rfl rfl (fun D h => by cases h) ac_long rfl (by decide) (by decide) (fun B cA => rfl) dX10_init_88 fp_X10_46 rfl rfl b10 l10 (by decide) (fun F11 k11 b11 l11 => ?_)
  refine xw_aload_n dX10_init_91 rfl ?_
  refine xw_iconst dX10_init_92 ?_
  refine xw_af (rc := 28) (rs := 22217) (N := 3) (t := 1) (c9 := .inr (.inl (fun _ => 0))) (L := [aL 3 (fun _ => 0), aZ 101 (fun _ => 0), aI 909 (fun _ => 0), aI 101 (fun _ => 0), aI 101 (fun _ => 0), aI 101 (fun _ => 0), aL 30 (fun _ => 0), aL 4800 (fun _ => 0), aI 160 (fun _ => 0), aI 8 (fun _ => 0)]) dX10_init_93 rfl rfl (fun D h => by cases h) ac_long rfl (by decide) (by decide) (fun B cA => rfl) dX10_init_95 fp_X10_49 rfl rfl b11 l11 (by decide) (fun F12 k12 b12 l12 => ?_)
  refine xw_aload_n dX10_init_98 rfl ?_
  refine xw_iconst dX10_init_99 ?_
  refine xw_af (rc := 27) (rs := 22214) (N := 3) (t := 1) (c9 := .inr (.inl (fun _ => 0))) (L := [aL 3 (fun _ => 0), aL 3 (fun _ => 0), aZ 101 (fun _ => 0), aI 909 (fun _ => 0), aI 101 (fun _ => 0), aI 101 (fun _ => 0), aI 101 (fun _ => 0), aL 30 (fun _ => 0), aL 4800 (fun _ => 0), aI 160 (fun _ => 0), aI 8 (fun _ => 0)]) dX10_init_100 rfl rfl (fun D h => by cases h) ac_long rfl (by decide) (by decide) (fun B cA => rfl) dX10_init_102 fp_X10_52 rfl rfl b12 l12 (by decide) (fun F13 k13 b13 l13 => ?_)
  refine xw_aload_n dX10_init_105 rfl ?_
  refine xw_iconst dX10_init_106 ?_
  refine xw_af (rc := 26) (rs := 22211) (N := 3) (t := 1) (c9 := .inr (.inl (fun _ => 0))) (L := [aL 3 (fun _ => 0), aL 3 (fun _ => 0), aL 3 (fun _ => 0), aZ 101 (fun _ => 0), aI 909 (fun _ => 0), aI 101 (fun _ => 0), aI 101 (fun _ => 0), aI 101 (fun _ => 0), aL 30 (fun _ => 0), aL 4800 (fun _ => 0), aI 160 (fun _ => 0), aI 8 (fun _ => 0)]) dX10_init_107 rfl rfl (fun D h => by cases h) ac_long rfl (by decide) (by decide) (fun B cA => rfl) dX10_init_109 fp_X10_55 rfl rfl b13 l13 (by decide) (fun F14 k14 b14 l14 => ?_)
  refine xw_aload_n dX10_init_112 rfl ?_
  refine xw_bipush (z := 8) dX10_init_113 (by decide) ?_
  refine xw_af (rc := 25) (rs := 22203) (N := 8) (t := 0) (c9 := .inl (fun _ => 0)) (L := [aL 3 (fun _ => 0), aL 3 (fun _ => 0), aL 3 (fun _ => 0), aL 3 (fun _ => 0), aZ 101 (fun _ => 0), aI 909 (fun _ => 0), aI 101 (fun _ => 0), aI 101 (fun _ => 0), aI 101 (fun _ => 0), aL 30 (fun _ => 0), aL 4800 (fun _ => 0), aI 160 (fun _ => 0), aI 8 (fun _ => 0)]) dX10_init_115 rfl rfl (fun D h => by cases h) ac_int rfl (by decide) (by decide) (fun B cA => rfl) dX10_init_117 fp_X10_58 rfl rfl b14 l14 (by decide) (fun F15 k15 b15 l15 => ?_)
  refine xw_aload_n dX10_init_120 rfl ?_
  refine xw_bipush (z := 8) dX10_init_121 (by decide) ?_
  refine xw_af (rc := 24) (rs := 22195) (N := 8) (t := 0) (c9 := .inl (fun _ => 0)) (L := [aI 8 (fun _ => 0), aL 3 (fun _ => 0), aL 3 (fun _ => 0), aL 3 (fun _ => 0), aL 3 (fun _ => 0), aZ 101 (fun _ => 0), aI 909 (fun _ => 0), aI 101 (fun _ => 0), aI 101 (fun _ => 0), aI 101 (fun _ => 0), aL 30 (fun _ => 0), aL 4800 (fun _ => 0), aI 160 (fun _ => 0), aI 8 (fun _ => 0)]) dX10_init_123 rfl rfl (fun D h => by cases h) ac_int rfl (by decide) (by decide) (fun B cA => rfl) dX10_init_125 fp_X10_61 rfl rfl b15 l15 (by decide) (fun F16 k16 b16 l16 => ?_)
  refine xw_aload_n dX10_init_128 rfl ?_
  refine xw_bipush (z := 72) dX10_init_129 (by decide) ?_
  refine xw_af (rc := 23) (rs := 22123) (N := 72) (t := 0) (c9 := .inl (fun _ => 0)) (L := [aI 8 (fun _ => 0), aI 8 (fun _ => 0), aL 3 (fun _ => 0), aL 3 (fun _ => 0), aL 3 (fun _ => 0), aL 3 (fun _ => 0), aZ 101 (fun _ => 0), aI 909 (fun _ => 0), aI 101 (fun _ => 0), aI 101 (fun _ => 0), aI 101 (fun _ => 0), aL 30 (fun _ => 0), aL 4800 (fun _ => 0), aI 160 (fun _ => 0), aI 8 (fun _ => 0)]) dX10_init_131 rfl rfl (fun D h => by cases h) ac_int rfl (by decide) (by decide) (fun B cA => rfl) dX10_init_133 fp_X10_64 rfl rfl b16 l16 (by decide) (fun F17 k17 b17 l17 => ?_)
  refine xw_aload_n dX10_init_136 rfl ?_
  refine xw_bipush (z := 9) dX10_init_137 (by decide) ?_
  refine xw_af (rc := 22) (rs := 22114) (N := 9) (t := 0) (c9 := .inl (fun _ => 0)) (L := [aI 72 (fun _ => 0), aI 8 (fun _ => 0), aI 8 (fun _ => 0), aL 3 (fun _ => 0), aL 3 (fun _ => 0), aL 3 (fun _ => 0), aL 3 (fun _ => 0), aZ 101 (fun _ => 0), aI 909 (fun _ => 0), aI 101 (fun _ => 0), aI 101 (fun _ => 0), aI 101 (fun _ => 0), aL 30 (fun _ => 0), aL 4800 (fun _ => 0), aI 160 (fun _ => 0), aI 8 (fun _ => 0)]) dX10_init_139 rfl rfl (fun D h => by cases h) ac_int rfl (by decide) (by decide) (fun B cA => rfl) dX10_init_141 fp_X10_67 rfl rfl b17 l17 (by decide) (fun F18 k18 b18 l18 => ?_)
  refine xw_aload_n dX10_init_144 rfl ?_
  refine xw_iconst dX10_init_145 ?_
  refine xw_af (rc := 21) (rs := 22111) (N := 3) (t := 1) (c9 := .inr (.inl (fun _ => 0))) (L := [aI 9 (fun _ => 0), aI 72 (fun _ => 0), aI 8 (fun _ => 0), aI 8 (fun _ => 0), aL 3 (fun _ => 0), aL 3 (fun _ => 0), aL 3 (fun _ => 0), aL 3 (fun _ => 0), aZ 101 (fun _ => 0), aI 909 (fun _ => 0), aI 101 (fun _ => 0), aI 101 (fun _ => 0), aI 101 (fun _ => 0), aL 30 (fun _ => 0), aL 4800 (fun _ => 0), aI 160 (fun _ => 0), aI 8 (fun _ => 0)]) dX10_init_146 rfl rfl (fun D h => by cases h) ac_long rfl (by decide) (by decide) (fun B cA => rfl) dX10_init_148 fp_X10_70 rfl rfl b18 l18 (by decide) (fun F19 k19 b19 l19 => ?_)
  refine xw_aload_n dX10_init_151 rfl ?_
  refine xw_iconst dX10_init_152 ?_
  refine xw_af (rc := 20) (rs := 22108) (N := 3) (t := 1) (c9 := .inr (.inl (fun _ => 0))) (L := [aL 3 (fun _ => 0), aI 9 (fun _ => 0), aI 72 (fun _ => 0), aI 8 (fun _ => 0), aI 8 (fun _ => 0), aL 3 (fun _ => 0), aL 3 (fun _ => 0), aL 3 (fun _ => 0), aL 3 (fun _ => 0), aZ 101 (fun _ => 0), aI 909 (fun _ => 0), aI 101 (fun _ => 0), aI 101 (fun _ => 0), aI 101 (fun _ => 0), aL 30 (fun _ => 0), aL 4800 (fun _ => 0), aI 160 (fun _ => 0), aI 8 (fun _ => 0)]) dX10_init_153 rfl rfl (fun D h => by cases h) ac_long rfl (by decide) (by decide) (fun B cA => rfl) dX10_init_155 fp_X10_73 rfl rfl b19 l19 (by decide) (fun F20 k20 b20 l20 => ?_)
  refine xw_aload_n dX10_init_158 rfl ?_
  refine xw_iconst dX10_init_159 ?_
  refine xw_af (rc := 19) (rs := 22105) (N := 3) (t := 1) (c9 := .inr (.inl (fun _ => 0))) (L := [aL 3 (fun _ => 0), aL 3 (fun _ => 0), aI 9 (fun _ => 0), aI 72 (fun _ => 0), aI 8 (fun _ => 0), aI 8 (fun _ => 0), aL 3 (fun _ => 0), aL 3 (fun _ => 0), aL 3 (fun _ => 0), aL 3 (fun _ => 0), aZ 101 (fun _ => 0), aI 909 (fun _ => 0), aI 101 (fun _ => 0), aI 101 (fun _ => 0), aI 101 (fun _ => 0), aL 30 (fun _ => 0), aL 4800 (fun _ => 0), aI 160 (fun _ => 0), aI 8 (fun _ => 0)]) dX10_init_160 rfl rfl (fun D h => by cases h) ac_long rfl (by decide) (by decide) (fun B cA => rfl) dX10_init_162 fp_X10_76 rfl rfl b20 l20 (by decide) (fun F21 k21 b21 l21 => ?_)
  refine xw_aload_n dX10_init_165 rfl ?_
  refine xw_sipush (z := 200) dX10_init_166 (by decide) ?_
  refine xw_af (rc := 18) (rs := 21905) (N := 200) (t := 0) (c9 := .inl (fun _ => 0)) (L := [aL 3 (fun _ => 0), aL 3 (fun _ => 0), aL 3 (fun _ => 0), aI 9 (fun _ => 0), aI 72 (fun _ => 0), aI 8 (fun _ => 0), aI 8 (fun _ => 0), aL 3 (fun _ => 0), aL 3 (fun _ => 0), aL 3 (fun _ => 0), aL 3 (fun _ => 0), aZ 101 (fun _ => 0), aI 909 (fun _ => 0), aI 101 (fun _ => 0), aI 101 (fun _ => 0), aI 101 (fun _ => 0), aL 30 (fun _ => 0), aL 4800 (fun _ => 0), aI 160 (fun _ => 0), aI 8 (fun _ => 0)]) dX10_init_169 rfl rfl (fun D h => by cases h) ac_int rfl (by decide) (by decide) (fun B cA => rfl) dX10_init_171 fp_X10_79 rfl rfl b21 l21 (by decide) (fun F22 k22 b22 l22 => ?_)
  refine xw_aload_n dX10_init_174 rfl ?_
  refine xw_sipush (z := 200) dX10_init_175 (by decide) ?_
  refine xw_af (rc := 17) (rs := 21705) (N := 200) (t := 0) (c9 := .inl (fun _ => 0)) (L := [aI 200 (fun _ => 0), aL 3 (fun _ => 0), aL 3 (fun _ => 0), aL 3 (fun _ => 0), aI 9 (fun _ => 0), aI 72 (fun _ => 0), aI 8 (fun _ => 0), aI 8 (fun _ => 0), aL 3 (fun _ => 0), aL 3 (fun _ => 0), aL 3 (fun _ => 0), aL 3 (fun _ => 0), aZ 101 (fun _ => 0), aI 909 (fun _ => 0), aI 101 (fun _ => 0), aI 101 (fun _ => 0), aI 101 (fun _ => 0), aL 30 (fun _ => 0), aL 4800 (fun _ => 0), aI 160 (fun _ => 0), aI 8 (fun _ => 0)]) dX10_init_178 rfl rfl (fun D h => by cases h) ac_int rfl (by decide) (by decide) (fun B cA => rfl) dX10_init_180 fp_X10_82 rfl rfl b22 l22 (by decide) (fun F23 k23 b23 l23 => ?_)
  refine xw_aload_n dX10_init_183 rfl ?_
  refine xw_sipush (z := 200) dX10_init_184 (by decide) ?_
  refine xw_af (rc := 16) (rs := 21505) (N := 200) (t := 0) (c9 := .inl (fun _ => 0)) (L := [aI 200 (fun _ => 0), aI 200 (fun _ => 0), aL 3 (fun _ => 0), aL 3 (fun _ => 0), aL 3 (fun _ => 0), aI 9 (fun _ => 0), aI 72 (fun _ => 0), aI 8 (fun _ => 0), aI 8 (fun _ => 0), aL 3 (fun _ => 0), aL 3 (fun _ => 0), aL 3 (fun _ => 0), aL 3 (fun _ => 0), aZ 101 (fun _ => 0), aI 909 (fun _ => 0), aI 101 (fun _ => 0), aI 101 (fun _ => 0), aI 101 (fun _ => 0), aL 30 (fun _ => 0), aL 4800 (fun _ => 0), aI 160 (fun _ => 0), aI 8 (fun _ => 0)]) dX10_init_187 rfl rfl (fun D h => by cases h) ac_int rfl (by decide) (by decide) (fun B cA => rfl) dX10_init_189 fp_X10_85 rfl rfl b23 l23 (by decide) (fun F24 k24 b24 l24 => ?_)
  refine xw_aload_n dX10_init_192 rfl ?_
  refine xw_sipush (z := 200) dX10_init_193 (by decide) ?_
  refine xw_af (rc := 15) (rs := 21305) (N := 200) (t := 1) (c9 := .inr (.inl (fun _ => 0))) (L := [aI 200 (fun _ => 0), aI 200 (fun _ => 0), aI 200 (fun _ => 0), aL 3 (fun _ => 0), aL 3 (fun _ => 0), aL 3 (fun _ => 0), aI 9 (fun _ => 0), aI 72 (fun _ => 0), aI 8 (fun _ => 0), aI 8 (fun _ => 0), aL 3 (fun _ => 0), aL 3 (fun _ => 0), aL 3 (fun _ => 0), aL 3 (fun _ => 0), aZ 101 (fun _ => 0), aI 909 (fun _ => 0), aI 101 (fun _ => 0), aI 101 (fun _ => 0), aI 101 (fun _ => 0), aL 30 (fun _ => 0), aL 4800 (fun _ => 0), aI 160 (fun _ => 0), aI 8 (fun _ => 0)]) dX10_init_196 rfl rfl (fun D h => by cases h) ac_long rfl (by decide) (by decide) (fun B cA => rfl) dX10_init_198 fp_X10_88 rfl rfl b24 l24 (by decide) (fun F25 k25 b25 l25 => ?_)
  refine xw_aload_n dX10_init_201 rfl ?_
  refine xw_sipush (z := 200) dX10_init_202 (by decide) ?_
  refine xw_af (rc := 14) (rs := 21105) (N := 200) (t := 1) (c9 := .inr (.inl (fun _ => 0))) (L := [aL 200 (fun _ => 0), aI 200 (fun _ => 0), aI 200 (fun _ => 0), aI 200 (fun _ => 0), aL 3 (fun _ => 0), aL 3 (fun _ => 0), aL 3 (fun _ => 0), aI 9 (fun _ => 0), aI 72 (fun _ => 0), aI 8 (fun _ => 0), aI 8 (fun _ => 0), aL 3 (fun _ => 0), aL 3 (fun _ => 0), aL 3 (fun _ => 0), aL 3 (fun _ => 0), aZ 101 (fun _ => 0), aI 909 (fun _ => 0), aI 101 (fun _ => 0), aI 101 (fun _ => 0), aI 101 (fun _ => 0), aL 30 (fun _ => 0), aL 4800 (fun _ => 0), aI 160 (fun _ => 0), aI 8 (fun _ => 0)]) dX10_init_205 rfl rfl (fun D h => by cases h) ac_long rfl (by decide) (by decide) (fun B cA => rfl) dX10_init_207 fp_X10_91 rfl rfl b25 l25 (by decide) (fun F26 k26 b26 l26 => ?_)
  refine xw_aload_n dX10_init_210 rfl ?_
  refine xw_sipush (z := 200) dX10_init_211 (by decide) ?_
  refine xw_af (rc := 13) (rs := 20905) (N := 200) (t := 1) (c9 := .inr (.inl (fun _ => 0))) (L := [aL 200 (fun _ => 0), aL 200 (fun _ => 0), aI 200 (fun _ => 0), aI 200 (fun _ => 0), aI 200 (fun _ => 0), aL 3 (fun _ => 0), aL 3 (fun _ => 0), aL 3 (fun _ => 0), aI 9 (fun _ => 0), aI 72 (fun _ => 0), aI 8 (fun _ => 0), aI 8 (fun _ => 0), aL 3 (fun _ => 0), aL 3 (fun _ => 0), aL 3 (fun _ => 0), aL 3 (fun _ => 0), aZ 101 (fun _ => 0), aI 909 (fun _ => 0), aI 101 (fun _ => 0), aI 101 (fun _ => 0), aI 101 (fun _ => 0), aL 30 (fun _ => 0), aL 4800 (fun _ => 0), aI 160 (fun _ => 0), aI 8 (fun _ => 0)]) dX10_init_214 rfl rfl (fun D h => by cases h) ac_long rfl (by decide) (by decide) (fun B cA => rfl) dX10_init_216 fp_X10_94 rfl rfl b26 l26 (by decide) (fun F27 k27 b27 l27 => ?_)
  refine xw_aload_n dX10_init_219 rfl ?_
  refine xw_sipush (z := 200) dX10_init_220 (by decide) ?_
  refine xw_af (rc := 12) (rs := 20705) (N := 200) (t := 1) (c9 := .inr (.inl (fun _ => 0))) (L := [aL 200 (fun _ => 0), aL 200 (fun _ => 0), aL 200 (fun _ => 0), aI 200 (fun _ => 0), aI 200 (fun _ => 0), aI 200 (fun _ => 0), aL 3 (fun _ => 0), aL 3 (fun _ => 0), aL 3 (fun _ => 0), aI 9 (fun _ => 0), aI 72 (fun _ => 0), aI 8 (fun _ => 0), aI 8 (fun _ => 0), aL 3 (fun _ => 0), aL 3 (fun _ => 0), aL 3 (fun _ => 0), aL 3 (fun _ => 0), aZ 101 (fun _ => 0), aI 909 (fun _ => 0), aI 101 (fun _ => 0), aI 101 (fun _ => 0), aI 101 (fun _ => 0), aL 30 (fun _ => 0), aL 4800 (fun _ => 0), aI 160 (fun _ => 0), aI 8 (fun _ => 0)]) dX10_init_223 rfl rfl (fun D h => by cases h) ac_long rfl (by decide) (by decide) (fun B cA => rfl) dX10_init_225 fp_X10_97 rfl rfl b27 l27 (by decide) (fun F28 k28 b28 l28 => ?_)
  refine xw_aload_n dX10_init_228 rfl ?_
  refine xw_bipush (z := 100) dX10_init_229 (by decide) ?_
  refine xw_af (rc := 11) (rs := 20605) (N := 100) (t := 0) (c9 := .inl (fun _ => 0)) (L := [aL 200 (fun _ => 0), aL 200 (fun _ => 0), aL 200 (fun _ => 0), aL 200 (fun _ => 0), aI 200 (fun _ => 0), aI 200 (fun _ => 0), aI 200 (fun _ => 0), aL 3 (fun _ => 0), aL 3 (fun _ => 0), aL 3 (fun _ => 0), aI 9 (fun _ => 0), aI 72 (fun _ => 0), aI 8 (fun _ => 0), aI 8 (fun _ => 0), aL 3 (fun _ => 0), aL 3 (fun _ => 0), aL 3 (fun _ => 0), aL 3 (fun _ => 0), aZ 101 (fun _ => 0), aI 909 (fun _ => 0), aI 101 (fun _ => 0), aI 101 (fun _ => 0), aI 101 (fun _ => 0), aL 30 (fun _ => 0), aL 4800 (fun _ => 0), aI 160 (fun _ => 0), aI 8 (fun _ => 0)]) dX10_init_231 rfl rfl (fun D h => by cases h) ac_int rfl (by decide) (by decide) (fun B cA => rfl) dX10_init_233 fp_X10_100 rfl rfl b28 l28 (by decide) (fun F29 k29 b29 l29 => ?_)
  refine xw_aload_n dX10_init_236 rfl ?_
  refine xw_sipush (z := 10000) dX10_init_237 (by decide) ?_
  refine xw_af (rc := 10) (rs := 10605) (N := 10000) (t := 2) (c9 := .inl (fun _ => 0)) (L := [aI 100 (fun _ => 0), aL 200 (fun _ => 0), aL 200 (fun _ => 0), aL 200 (fun _ => 0), aL 200 (fun _ => 0), aI 200 (fun _ => 0), aI 200 (fun _ => 0), aI 200 (fun _ => 0), aL 3 (fun _ => 0), aL 3 (fun _ => 0), aL 3 (fun _ => 0), aI 9 (fun _ => 0), aI 72 (fun _ => 0), aI 8 (fun _ => 0), aI 8 (fun _ => 0), aL 3 (fun _ => 0), aL 3 (fun _ => 0), aL 3 (fun _ => 0), aL 3 (fun _ => 0), aZ 101 (fun _ => 0), aI 909 (fun _ => 0), aI 101 (fun _ => 0), aI 101 (fun _ => 0), aI 101 (fun _ => 0), aL 30 (fun _ => 0), aL 4800 (fun _ => 0), aI 160 (fun _ => 0), aI 8 (fun _ => 0)]) dX10_init_240 rfl rfl (fun D h => by cases h) ac_boolean rfl (by decide) (by decide) (fun B cA => rfl) dX10_init_242 fp_X10_103 rfl rfl b29 l29 (by decide) (fun F30 k30 b30 l30 => ?_)
  refine xw_aload_n dX10_init_245 rfl ?_
  refine xw_sipush (z := 10000) dX10_init_246 (by decide) ?_
  refine xw_af (rc := 9) (rs := 605) (N := 10000) (t := 2) (c9 := .inl (fun _ => 0)) (L := [aZ 10000 (fun _ => 0), aI 100 (fun _ => 0), aL 200 (fun _ => 0), aL 200 (fun _ => 0), aL 200 (fun _ => 0), aL 200 (fun _ => 0), aI 200 (fun _ => 0), aI 200 (fun _ => 0), aI 200 (fun _ => 0), aL 3 (fun _ => 0), aL 3 (fun _ => 0), aL 3 (fun _ => 0), aI 9 (fun _ => 0), aI 72 (fun _ => 0), aI 8 (fun _ => 0), aI 8 (fun _ => 0), aL 3 (fun _ => 0), aL 3 (fun _ => 0), aL 3 (fun _ => 0), aL 3 (fun _ => 0), aZ 101 (fun _ => 0), aI 909 (fun _ => 0), aI 101 (fun _ => 0), aI 101 (fun _ => 0), aI 101 (fun _ => 0), aL 30 (fun _ => 0), aL 4800 (fun _ => 0), aI 160 (fun _ => 0), aI 8 (fun _ => 0)]) dX10_init_249 rfl rfl (fun D h => by cases h) ac_boolean rfl (by decide) (by decide) (fun B cA => rfl) dX10_init_251 fp_X10_106 rfl rfl b30 l30 (by decide) (fun F31 k31 b31 l31 => ?_)
  refine xw_aload_n dX10_init_254 rfl ?_
  refine xw_bipush (z := 101) dX10_init_255 (by decide) ?_
  refine xw_af (rc := 8) (rs := 504) (N := 101) (t := 2) (c9 := .inl (fun _ => 0)) (L := [aZ 10000 (fun _ => 0), aZ 10000 (fun _ => 0), aI 100 (fun _ => 0), aL 200 (fun _ => 0), aL 200 (fun _ => 0), aL 200 (fun _ => 0), aL 200 (fun _ => 0), aI 200 (fun _ => 0), aI 200 (fun _ => 0), aI 200 (fun _ => 0), aL 3 (fun _ => 0), aL 3 (fun _ => 0), aL 3 (fun _ => 0), aI 9 (fun _ => 0), aI 72 (fun _ => 0), aI 8 (fun _ => 0), aI 8 (fun _ => 0), aL 3 (fun _ => 0), aL 3 (fun _ => 0), aL 3 (fun _ => 0), aL 3 (fun _ => 0), aZ 101 (fun _ => 0), aI 909 (fun _ => 0), aI 101 (fun _ => 0), aI 101 (fun _ => 0), aI 101 (fun _ => 0), aL 30 (fun _ => 0), aL 4800 (fun _ => 0), aI 160 (fun _ => 0), aI 8 (fun _ => 0)]) dX10_init_257 rfl rfl (fun D h => by cases h) ac_boolean rfl (by decide) (by decide) (fun B cA => rfl) dX10_init_259 fp_X10_109 rfl rfl b31 l31 (by decide) (fun F32 k32 b32 l32 => ?_)
  refine xw_aload_n dX10_init_262 rfl ?_
  refine xw_bipush (z := 40) dX10_init_263 (by decide) ?_
  refine xw_af (rc := 7) (rs := 464) (N := 40) (t := 0) (c9 := .inl (fun _ => 0)) (L := [aZ 101 (fun _ => 0), aZ 10000 (fun _ => 0), aZ 10000 (fun _ => 0), aI 100 (fun _ => 0), aL 200 (fun _ => 0), aL 200 (fun _ => 0), aL 200 (fun _ => 0), aL 200 (fun _ => 0), aI 200 (fun _ => 0), aI 200 (fun _ => 0), aI 200 (fun _ => 0), aL 3 (fun _ => 0), aL 3 (fun _ => 0), aL 3 (fun _ => 0), aI 9 (fun _ => 0), aI 72 (fun _ => 0), aI 8 (fun _ => 0), aI 8 (fun _ => 0), aL 3 (fun _ => 0), aL 3 (fun _ => 0), aL 3 (fun _ => 0), aL 3 (fun _ => 0), aZ 101 (fun _ => 0), aI 909 (fun _ => 0), aI 101 (fun _ => 0), aI 101 (fun _ => 0), aI 101 (fun _ => 0), aL 30 (fun _ => 0), aL 4800 (fun _ => 0), aI 160 (fun _ => 0), aI 8 (fun _ => 0)]) dX10_init_265 rfl rfl (fun D h => by cases h) ac_int rfl (by decide) (by decide) (fun B cA => rfl) dX10_init_267 fp_X10_112 rfl rfl b32 l32 (by decide) (fun F33 k33 b33 l33 => ?_)
  refine xw_aload_n dX10_init_270 rfl ?_
  refine xw_bipush (z := 101) dX10_init_271 (by decide) ?_
  refine xw_af (rc := 6) (rs := 363) (N := 101) (t := 0) (c9 := .inl (fun _ => 0)) (L := [aI 40 (fun _ => 0), aZ 101 (fun _ => 0), aZ 10000 (fun _ => 0), aZ 10000 (fun _ => 0), aI 100 (fun _ => 0), aL 200 (fun _ => 0), aL 200 (fun _ => 0), aL 200 (fun _ => 0), aL 200 (fun _ => 0), aI 200 (fun _ => 0), aI 200 (fun _ => 0), aI 200 (fun _ => 0), aL 3 (fun _ => 0), aL 3 (fun _ => 0), aL 3 (fun _ => 0), aI 9 (fun _ => 0), aI 72 (fun _ => 0), aI 8 (fun _ => 0), aI 8 (fun _ => 0), aL 3 (fun _ => 0), aL 3 (fun _ => 0), aL 3 (fun _ => 0), aL 3 (fun _ => 0), aZ 101 (fun _ => 0), aI 909 (fun _ => 0), aI 101 (fun _ => 0), aI 101 (fun _ => 0), aI 101 (fun _ => 0), aL 30 (fun _ => 0), aL 4800 (fun _ => 0), aI 160 (fun _ => 0), aI 8 (fun _ => 0)]) dX10_init_273 rfl rfl (fun D h => by cases h) ac_int rfl (by decide) (by decide) (fun B cA => rfl) dX10_init_275 fp_X10_115 rfl rfl b33 l33 (by decide) (fun F34 k34 b34 l34 => ?_)
  refine xw_aload_n dX10_init_278 rfl ?_
  refine xw_bipush (z := 101) dX10_init_279 (by decide) ?_
  refine xw_af (rc := 5) (rs := 262) (N := 101) (t := 0) (c9 := .inl (fun _ => 0)) (L := [aI 101 (fun _ => 0), aI 40 (fun _ => 0), aZ 101 (fun _ => 0), aZ 10000 (fun _ => 0), aZ 10000 (fun _ => 0), aI 100 (fun _ => 0), aL 200 (fun _ => 0), aL 200 (fun _ => 0), aL 200 (fun _ => 0), aL 200 (fun _ => 0), aI 200 (fun _ => 0), aI 200 (fun _ => 0), aI 200 (fun _ => 0), aL 3 (fun _ => 0), aL 3 (fun _ => 0), aL 3 (fun _ => 0), aI 9 (fun _ => 0), aI 72 (fun _ => 0), aI 8 (fun _ => 0), aI 8 (fun _ => 0), aL 3 (fun _ => 0), aL 3 (fun _ => 0), aL 3 (fun _ => 0), aL 3 (fun _ => 0), aZ 101 (fun _ => 0), aI 909 (fun _ => 0), aI 101 (fun _ => 0), aI 101 (fun _ => 0), aI 101 (fun _ => 0), aL 30 (fun _ => 0), aL 4800 (fun _ => 0), aI 160 (fun _ => 0), aI 8 (fun _ => 0)]) dX10_init_281 rfl rfl (fun D h => by cases h) ac_int rfl (by decide) (by decide) (fun B cA => rfl) dX10_init_283 fp_X10_118 rfl rfl b34 l34 (by decide) (fun F35 k35 b35 l35 => ?_)
  refine xw_aload_n dX10_init_286 rfl ?_
  refine xw_bipush (z := 41) dX10_init_287 (by decide) ?_
  refine xw_af (rc := 4) (rs := 221) (N := 41) (t := 0) (c9 := .inl (fun _ => 0)) (L := [aI 101 (fun _ => 0), aI 101 (fun _ => 0), aI 40 (fun _ => 0), aZ 101 (fun _ => 0), aZ 10000 (fun _ => 0), aZ 10000 (fun _ => 0), aI 100 (fun _ => 0), aL 200 (fun _ => 0), aL 200 (fun _ => 0), aL 200 (fun _ => 0), aL 200 (fun _ => 0), aI 200 (fun _ => 0), aI 200 (fun _ => 0), aI 200 (fun _ => 0), aL 3 (fun _ => 0), aL 3 (fun _ => 0), aL 3 (fun _ => 0), aI 9 (fun _ => 0), aI 72 (fun _ => 0), aI 8 (fun _ => 0), aI 8 (fun _ => 0), aL 3 (fun _ => 0), aL 3 (fun _ => 0), aL 3 (fun _ => 0), aL 3 (fun _ => 0), aZ 101 (fun _ => 0), aI 909 (fun _ => 0), aI 101 (fun _ => 0), aI 101 (fun _ => 0), aI 101 (fun _ => 0), aL 30 (fun _ => 0), aL 4800 (fun _ => 0), aI 160 (fun _ => 0), aI 8 (fun _ => 0)]) dX10_init_289 rfl rfl (fun D h => by cases h) ac_int rfl (by decide) (by decide) (fun B cA => rfl) dX10_init_291 fp_X10_121 rfl rfl b35 l35 (by decide) (fun F36 k36 b36 l36 => ?_)
  refine xw_aload_n dX10_init_294 rfl ?_
  refine xw_bipush (z := 101) dX10_init_295 (by decide) ?_
  refine xw_af (rc := 3) (rs := 120) (N := 101) (t := 0) (c9 := .inl (fun _ => 0)) (L := [aI 41 (fun _ => 0), aI 101 (fun _ => 0), aI 101 (fun _ => 0), aI 40 (fun _ => 0), aZ 101 (fun _ => 0), aZ 10000 (fun _ => 0), aZ 10000 (fun _ => 0), aI 100 (fun _ => 0), aL 200 (fun _ => 0), aL 200 (fun _ => 0), aL 200 (fun _ => 0), aL 200 (fun _ => 0), aI 200 (fun _ => 0), aI 200 (fun _ => 0), aI 200 (fun _ => 0), aL 3 (fun _ => 0), aL 3 (fun _ => 0), aL 3 (fun _ => 0), aI 9 (fun _ => 0), aI 72 (fun _ => 0), aI 8 (fun _ => 0), aI 8 (fun _ => 0), aL 3 (fun _ => 0), aL 3 (fun _ => 0), aL 3 (fun _ => 0), aL 3 (fun _ => 0), aZ 101 (fun _ => 0), aI 909 (fun _ => 0), aI 101 (fun _ => 0), aI 101 (fun _ => 0), aI 101 (fun _ => 0), aL 30 (fun _ => 0), aL 4800 (fun _ => 0), aI 160 (fun _ => 0), aI 8 (fun _ => 0)]) dX10_init_297 rfl rfl (fun D h => by cases h) ac_int rfl (by decide) (by decide) (fun B cA => rfl) dX10_init_299 fp_X10_124 rfl rfl b36 l36 (by decide) (fun F37 k37 b37 l37 => ?_)
  refine xw_aload_n dX10_init_302 rfl ?_
  refine xw_bipush (z := 40) dX10_init_303 (by decide) ?_
  refine xw_af (rc := 2) (rs := 80) (N := 40) (t := 0) (c9 := .inl (fun _ => 0)) (L := [aI 101 (fun _ => 0), aI 41 (fun _ => 0), aI 101 (fun _ => 0), aI 101 (fun _ => 0), aI 40 (fun _ => 0), aZ 101 (fun _ => 0), aZ 10000 (fun _ => 0), aZ 10000 (fun _ => 0), aI 100 (fun _ => 0), aL 200 (fun _ => 0), aL 200 (fun _ => 0), aL 200 (fun _ => 0), aL 200 (fun _ => 0), aI 200 (fun _ => 0), aI 200 (fun _ => 0), aI 200 (fun _ => 0), aL 3 (fun _ => 0), aL 3 (fun _ => 0), aL 3 (fun _ => 0), aI 9 (fun _ => 0), aI 72 (fun _ => 0), aI 8 (fun _ => 0), aI 8 (fun _ => 0), aL 3 (fun _ => 0), aL 3 (fun _ => 0), aL 3 (fun _ => 0), aL 3 (fun _ => 0), aZ 101 (fun _ => 0), aI 909 (fun _ => 0), aI 101 (fun _ => 0), aI 101 (fun _ => 0), aI 101 (fun _ => 0), aL 30 (fun _ => 0), aL 4800 (fun _ => 0), aI 160 (fun _ => 0), aI 8 (fun _ => 0)]) dX10_init_305 rfl rfl (fun D h => by cases h) ac_int rfl (by decide) (by decide) (fun B cA => rfl) dX10_init_307 fp_X10_127 rfl rfl b37 l37 (by decide) (fun F38 k38 b38 l38 => ?_)
  refine xw_aload_n dX10_init_310 rfl ?_
  refine xw_bipush (z := 40) dX10_init_311 (by decide) ?_
  refine xw_af (rc := 1) (rs := 40) (N := 40) (t := 0) (c9 := .inl (fun _ => 0)) (L := [aI 40 (fun _ => 0), aI 101 (fun _ => 0), aI 41 (fun _ => 0), aI 101 (fun _ => 0), aI 101 (fun _ => 0), aI 40 (fun _ => 0), aZ 101 (fun _ => 0), aZ 10000 (fun _ => 0), aZ 10000 (fun _ => 0), aI 100 (fun _ => 0), aL 200 (fun _ => 0), aL 200 (fun _ => 0), aL 200 (fun _ => 0), aL 200 (fun _ => 0), aI 200 (fun _ => 0), aI 200 (fun _ => 0), aI 200 (fun _ => 0), aL 3 (fun _ => 0), aL 3 (fun _ => 0), aL 3 (fun _ => 0), aI 9 (fun _ => 0), aI 72 (fun _ => 0), aI 8 (fun _ => 0), aI 8 (fun _ => 0), aL 3 (fun _ => 0), aL 3 (fun _ => 0), aL 3 (fun _ => 0), aL 3 (fun _ => 0), aZ 101 (fun _ => 0), aI 909 (fun _ => 0), aI 101 (fun _ => 0), aI 101 (fun _ => 0), aI 101 (fun _ => 0), aL 30 (fun _ => 0), aL 4800 (fun _ => 0), aI 160 (fun _ => 0), aI 8 (fun _ => 0)]) dX10_init_313 rfl rfl (fun D h => by cases h) ac_int rfl (by decide) (by decide) (fun B cA => rfl) dX10_init_315 fp_X10_130 rfl rfl b38 l38 (by decide) (fun F39 k39 b39 l39 => ?_)
  refine xw_aload_n dX10_init_318 rfl ?_
  refine xw_bipush (z := 40) dX10_init_319 (by decide) ?_
  refine xw_af (rc := 0) (rs := 0) (N := 40) (t := 0) (c9 := .inl (fun _ => 0)) (L := [aI 40 (fun _ => 0), aI 40 (fun _ => 0), aI 101 (fun _ => 0), aI 41 (fun _ => 0), aI 101 (fun _ => 0), aI 101 (fun _ => 0), aI 40 (fun _ => 0), aZ 101 (fun _ => 0), aZ 10000 (fun _ => 0), aZ 10000 (fun _ => 0), aI 100 (fun _ => 0), aL 200 (fun _ => 0), aL 200 (fun _ => 0), aL 200 (fun _ => 0), aL 200 (fun _ => 0), aI 200 (fun _ => 0), aI 200 (fun _ => 0), aI 200 (fun _ => 0), aL 3 (fun _ => 0), aL 3 (fun _ => 0), aL 3 (fun _ => 0), aI 9 (fun _ => 0), aI 72 (fun _ => 0), aI 8 (fun _ => 0), aI 8 (fun _ => 0), aL 3 (fun _ => 0), aL 3 (fun _ => 0), aL 3 (fun _ => 0), aL 3 (fun _ => 0), aZ 101 (fun _ => 0), aI 909 (fun _ => 0), aI 101 (fun _ => 0), aI 101 (fun _ => 0), aI 101 (fun _ => 0), aL 30 (fun _ => 0), aL 4800 (fun _ => 0), aI 160 (fun _ => 0), aI 8 (fun _ => 0)]) dX10_init_321 rfl rfl (fun D h => by cases h) ac_int rfl (by decide) (by decide) (fun B cA => rfl) dX10_init_323 fp_X10_133 rfl rfl b39 l39 (by decide) (fun F40 k40 b40 l40 => ?_)
  rw [← xup_id b40]
  refine xw_cgO rfl (fs1 := fX10 0 0 0 0 0 0 1 0 0 0 0 0 0 0 0 0 0 0 0 0 0 0) (fun k hk => by rcases lt61 hk with rfl | rfl | rfl | rfl | rfl | rfl | rfl | rfl | rfl | rfl | rfl | rfl | rfl | rfl | rfl | rfl | rfl | rfl | rfl | rfl | rfl | rfl | rfl | rfl | rfl | rfl | rfl | rfl | rfl | rfl | rfl | rfl | rfl | rfl | rfl | rfl | rfl | rfl | rfl | rfl | rfl | rfl | rfl | rfl | rfl | rfl | rfl | rfl | rfl | rfl | rfl | rfl | rfl | rfl | rfl | rfl | rfl | rfl | rfl | rfl | rfl <;> rfl) ?_
  obtain ⟨F, eF⟩ : ∃ F, F = xup F40 38 (.inr (10, fX10 0 0 0 0 0 0 1 0 0 0 0 0 0 0 0 0 0 0 0 0 0 0)) := ⟨_, rfl⟩
  rw [← eF]
  have g38 : F 38 = some (.inr (10, fX10 0 0 0 0 0 0 1 0 0 0 0 0 0 0 0 0 0 0 0 0 0 0)) := by rw [eF]; exact xup_s _ _ _
  have gl : lyd F 78 [aI 40 (fun _ => 0), aI 40 (fun _ => 0), aI 40 (fun _ => 0), aI 101 (fun _ => 0), aI 41 (fun _ => 0), aI 101 (fun _ => 0), aI 101 (fun _ => 0), aI 40 (fun _ => 0), aZ 101 (fun _ => 0), aZ 10000 (fun _ => 0), aZ 10000 (fun _ => 0), aI 100 (fun _ => 0), aL 200 (fun _ => 0), aL 200 (fun _ => 0), aL 200 (fun _ => 0), aL 200 (fun _ => 0), aI 200 (fun _ => 0), aI 200 (fun _ => 0), aI 200 (fun _ => 0), aL 3 (fun _ => 0), aL 3 (fun _ => 0), aL 3 (fun _ => 0), aI 9 (fun _ => 0), aI 72 (fun _ => 0), aI 8 (fun _ => 0), aI 8 (fun _ => 0), aL 3 (fun _ => 0), aL 3 (fun _ => 0), aL 3 (fun _ => 0), aL 3 (fun _ => 0), aZ 101 (fun _ => 0), aI 909 (fun _ => 0), aI 101 (fun _ => 0), aI 101 (fun _ => 0), aI 101 (fun _ => 0), aL 30 (fun _ => 0), aL 4800 (fun _ => 0), aI 160 (fun _ => 0), aI 8 (fun _ => 0)] := by rw [eF]; exact lyd_up l40 (by decide)
  have gk : ∀ k, (k < 38 ∨ 78 ≤ k) → F k = f k := fun k hk => by rw [eF]; exact (xup_n _ _ (by omega)).trans ((k40 k (by omega)).trans ((k39 k (by omega)).trans ((k38 k (by omega)).trans ((k37 k (by omega)).trans ((k36 k (by omega)).trans ((k35 k (by omega)).trans ((k34 k (by omega)).trans ((k33 k (by omega)).trans ((k32 k (by omega)).trans ((k31 k (by omega)).trans ((k30 k (by omega)).trans ((k29 k (by omega)).trans ((k28 k (by omega)).trans ((k27 k (by omega)).trans ((k26 k (by omega)).trans ((k25 k (by omega)).trans ((k24 k (by omega)).trans ((k23 k (by omega)).trans ((k22 k (by omega)).trans ((k21 k (by omega)).trans ((k20 k (by omega)).trans ((k19 k (by omega)).trans ((k18 k (by omega)).trans ((k17 k (by omega)).trans ((k16 k (by omega)).trans ((k15 k (by omega)).trans ((k14 k (by omega)).trans ((k13 k (by omega)).trans ((k12 k (by omega)).trans ((k11 k (by omega)).trans ((k10 k (by omega)).trans ((k9 k (by omega)).trans ((k8 k (by omega)).trans ((k7 k (by omega)).trans ((k6 k (by omega)).trans ((k5 k (by omega)).trans ((k4 k (by omega)).trans ((k3 k (by omega)).trans ((k2 k (by omega)).trans (k1 k (by omega)))))))))))))))))))))))))))))))))))))))))
  exact ct_iX10w g38 gl gk hq
theorem lt15 {k : Nat} (h : k < 15) : k = 0 ∨ k = 1 ∨ k = 2 ∨ k = 3 ∨ k = 4 ∨ k = 5 ∨ k = 6 ∨ k = 7 ∨ k = 8 ∨ k = 9 ∨ k = 10 ∨ k = 11 ∨ k = 12 ∨ k = 13 ∨ k = 14 := by omega
set_option maxHeartbeats 16000000 in
theorem ct_iX9 (hb : f 0 = some (.inr (9, fun j => xdef (tyX9 j)))) (hq : ∀ F, (∀ k, 38 ≤ k → F k = f k) → F 0 = some (.inr (9, fX9 0 0 0 0 0 0)) → lyd F 38 [aI 40 (fun _ => 0), aI 4096 (fun _ => 0), aI 12 (fun _ => 0), aI 12 (fun _ => 0), aI 12 (fun _ => 0), .inr (5, fX5 0 0 0), aL 41 (fun _ => 0), aL 20 (fun _ => 0), aI 40 (fun _ => 0), aI 40 (fun _ => 0), aL 40 (fun _ => 0), aL 40 (fun _ => 0), aL 40 (fun _ => 0), aI 40 (fun _ => 0), aI 40 (fun _ => 0), .inr (8, fX8 0 0 0), aR 6 156 (fun _ => none), .inr (3, fX3 0 (-1)), aB 40 (fun _ => 0), .inr (4, fX4 0), aI 8 (fun _ => 0), aI 8 (fun _ => 0), aI 8 (fun _ => 0), aI 8 (fun _ => 0), aI 8 (fun _ => 0), .inr (0, fX0 0 0), aL 3 (fun _ => 0), aL 3 (fun _ => 0), aL 3 (fun _ => 0), aL 3 (fun _ => 0), aL 3 (fun _ => 0), aL 3 (fun _ => 0), aL 3 (fun _ => 0), aL 3 (xui (fun _ => 0) 2 1), .inr (6, fX6 2 0 0 0 0 0), aR 5 100 (fun _ => none), aR 4 8 (fun _ => none)] → Q (.inl none) 38 F) : xct g M_X9_init 37 4926 [vR 0] 1 f Q := by
  refine xct_of rfl rfl (Nat.le_of_ble_eq_true rfl) ?_
  refine xw_aload_n dX9_init_0 rfl ?_
  refine xw_objInit dX9_init_1 oi_X9 oi_2 oi_3 (by decide) (by decide) (Nat.le_of_ble_eq_true rfl) ?_
  refine xw_aload_n dX9_init_4 rfl ?_
  refine xw_bipush (z := 8) dX9_init_5 (by decide) ?_
  refine xw_rf (rc := 36) (rs := 4918) (N := 8) (t := 4) (D := "SpillikinTable$Box") (L := []) dX9_init_7 rfl (xi1 31 rfl rfl) (xj1 32 rfl) rfl (by decide) dX9_init_10 fp_X9_11 rfl rfl hb trivial (by decide) (fun F1 k1 b1 l1 => ?_)
  refine xw_aload_n dX9_init_13 rfl ?_
  refine xw_bipush (z := 100) dX9_init_14 (by decide) ?_
  refine xw_rf (rc := 35) (rs := 4818) (N := 100) (t := 5) (D := "SpillikinTable$Stick") (L := [aR 4 8 (fun _ => none)]) dX9_init_16 rfl (xi1 33 rfl rfl) (xj1 34 rfl) rfl (by decide) dX9_init_19 fp_X9_17 rfl rfl b1 l1 (by decide) (fun F2 k2 b2 l2 => ?_)
  refine xw_aload_n dX9_init_22 rfl ?_
  refine xw_nf (y := M_X9_init) (rc := 26) (rs := 4780) (mc2 := 8) (ms2 := 24) (N := 14) (n2 := 12) (L := [aR 5 100 (fun _ => none), aR 4 8 (fun _ => none)]) (L2 := [aL 3 (fun _ => 0), aL 3 (fun _ => 0), aL 3 (fun _ => 0), aL 3 (fun _ => 0), aL 3 (fun _ => 0), aL 3 (fun _ => 0), aL 3 (fun _ => 0), aL 3 (xui (fun _ => 0) 2 1)]) (obj := .inr (6, fX6 2 0 0 0 0 0)) dX9_init_23 nw_X9_21 dX9_init_26 dX9_init_27 mi_X9_23 (by decide) (by decide) dX9_init_30 fp_X9_24 rfl rfl b2 l2 (by decide) (by decide) (fun R f1 h1 h2 => ct_iX6 h1 h2) (fun F3 k3 b3 l3 => ?_)
  have l3 : lyd F3 12 [aL 3 (fun _ => 0), aL 3 (fun _ => 0), aL 3 (fun _ => 0), aL 3 (fun _ => 0), aL 3 (fun _ => 0), aL 3 (fun _ => 0), aL 3 (fun _ => 0), aL 3 (xui (fun _ => 0) 2 1), .inr (6, fX6 2 0 0 0 0 0), aR 5 100 (fun _ => none), aR 4 8 (fun _ => none)] := l3
  refine xw_aload_n dX9_init_33 rfl ?_
  refine xw_nf (y := M_X9_init) (rc := 20) (rs := 4733) (mc2 := 5) (ms2 := 40) (N := 7) (n2 := 18) (L := [aL 3 (fun _ => 0), aL 3 (fun _ => 0), aL 3 (fun _ => 0), aL 3 (fun _ => 0), aL 3 (fun _ => 0), aL 3 (fun _ => 0), aL 3 (fun _ => 0), aL 3 (xui (fun _ => 0) 2 1), .inr (6, fX6 2 0 0 0 0 0), aR 5 100 (fun _ => none), aR 4 8 (fun _ => none)]) (L2 := [aI 8 (fun _ => 0), aI 8 (fun _ => 0), aI 8 (fun _ => 0), aI 8 (fun _ => 0), aI 8 (fun _ => 0)]) (obj := .inr (0, fX0 0 0)) dX9_init_34 nw_X9_28 dX9_init_37 dX9_init_38 mi_X9_30 (by decide) (by decide) dX9_init_41 fp_X9_31 rfl rfl b3 l3 (by decide) (by decide) (fun R f1 h1 h2 => ct_iX0 h1 h2) (fun F4 k4 b4 l4 => ?_)
  have l4 : lyd F4 18 [aI 8 (fun _ => 0), aI 8 (fun _ => 0), aI 8 (fun _ => 0), aI 8 (fun _ => 0), aI 8 (fun _ => 0), .inr (0, fX0 0 0), aL 3 (fun _ => 0), aL 3 (fun _ => 0), aL 3 (fun _ => 0), aL 3 (fun _ => 0), aL 3 (fun _ => 0), aL 3 (fun _ => 0), aL 3 (fun _ => 0), aL 3 (xui (fun _ => 0) 2 1), .inr (6, fX6 2 0 0 0 0 0), aR 5 100 (fun _ => none), aR 4 8 (fun _ => none)] := l4
  refine xw_aload_n dX9_init_44 rfl ?_
  refine xw_nf (y := M_X9_init) (rc := 18) (rs := 4691) (mc2 := 1) (ms2 := 40) (N := 2) (n2 := 20) (L := [aI 8 (fun _ => 0), aI 8 (fun _ => 0), aI 8 (fun _ => 0), aI 8 (fun _ => 0), aI 8 (fun _ => 0), .inr (0, fX0 0 0), aL 3 (fun _ => 0), aL 3 (fun _ => 0), aL 3 (fun _ => 0), aL 3 (fun _ => 0), aL 3 (fun _ => 0), aL 3 (fun _ => 0), aL 3 (fun _ => 0), aL 3 (xui (fun _ => 0) 2 1), .inr (6, fX6 2 0 0 0 0 0), aR 5 100 (fun _ => none), aR 4 8 (fun _ => none)]) (L2 := [aB 40 (fun _ => 0)]) (obj := .inr (4, fX4 0)) dX9_init_45 nw_X9_35 dX9_init_48 dX9_init_49 mi_X9_37 (by decide) (by decide) dX9_init_52 fp_X9_38 rfl rfl b4 l4 (by decide) (by decide) (fun R f1 h1 h2 => ct_iX4 h1 h2) (fun F5 k5 b5 l5 => ?_)
  have l5 : lyd F5 20 [aB 40 (fun _ => 0), .inr (4, fX4 0), aI 8 (fun _ => 0), aI 8 (fun _ => 0), aI 8 (fun _ => 0), aI 8 (fun _ => 0), aI 8 (fun _ => 0), .inr (0, fX0 0 0), aL 3 (fun _ => 0), aL 3 (fun _ => 0), aL 3 (fun _ => 0), aL 3 (fun _ => 0), aL 3 (fun _ => 0), aL 3 (fun _ => 0), aL 3 (fun _ => 0), aL 3 (xui (fun _ => 0) 2 1), .inr (6, fX6 2 0 0 0 0 0), aR 5 100 (fun _ => none), aR 4 8 (fun _ => none)] := l5
  refine xw_aload_n dX9_init_55 rfl ?_
  refine xw_nf (y := M_X9_init) (rc := 16) (rs := 4532) (mc2 := 1) (ms2 := 156) (N := 3) (n2 := 22) (L := [aB 40 (fun _ => 0), .inr (4, fX4 0), aI 8 (fun _ => 0), aI 8 (fun _ => 0), aI 8 (fun _ => 0), aI 8 (fun _ => 0), aI 8 (fun _ => 0), .inr (0, fX0 0 0), aL 3 (fun _ => 0), aL 3 (fun _ => 0), aL 3 (fun _ => 0), aL 3 (fun _ => 0), aL 3 (fun _ => 0), aL 3 (fun _ => 0), aL 3 (fun _ => 0), aL 3 (xui (fun _ => 0) 2 1), .inr (6, fX6 2 0 0 0 0 0), aR 5 100 (fun _ => none), aR 4 8 (fun _ => none)]) (L2 := [aR 6 156 (fun _ => none)]) (obj := .inr (3, fX3 0 (-1))) dX9_init_56 nw_X9_42 dX9_init_59 dX9_init_60 mi_X9_44 (by decide) (by decide) dX9_init_63 fp_X9_45 rfl rfl b5 l5 (by decide) (by decide) (fun R f1 h1 h2 => ct_iX3 h1 h2) (fun F6 k6 b6 l6 => ?_)
  have l6 : lyd F6 22 [aR 6 156 (fun _ => none), .inr (3, fX3 0 (-1)), aB 40 (fun _ => 0), .inr (4, fX4 0), aI 8 (fun _ => 0), aI 8 (fun _ => 0), aI 8 (fun _ => 0), aI 8 (fun _ => 0), aI 8 (fun _ => 0), .inr (0, fX0 0 0), aL 3 (fun _ => 0), aL 3 (fun _ => 0), aL 3 (fun _ => 0), aL 3 (fun _ => 0), aL 3 (fun _ => 0), aL 3 (fun _ => 0), aL 3 (fun _ => 0), aL 3 (xui (fun _ => 0) 2 1), .inr (6, fX6 2 0 0 0 0 0), aR 5 100 (fun _ => none), aR 4 8 (fun _ => none)] := l6
  refine xw_aload_n dX9_init_66 rfl ?_
  refine xw_nf (y := M_X9_init) (rc := 6) (rs := 4179) (mc2 := 9) (ms2 := 341) (N := 12) (n2 := 32) (L := [aR 6 156 (fun _ => none), .inr (3, fX3 0 (-1)), aB 40 (fun _ => 0), .inr (4, fX4 0), aI 8 (fun _ => 0), aI 8 (fun _ => 0), aI 8 (fun _ => 0), aI 8 (fun _ => 0), aI 8 (fun _ => 0), .inr (0, fX0 0 0), aL 3 (fun _ => 0), aL 3 (fun _ => 0), aL 3 (fun _ => 0), aL 3 (fun _ => 0), aL 3 (fun _ => 0), aL 3 (fun _ => 0), aL 3 (fun _ => 0), aL 3 (xui (fun _ => 0) 2 1), .inr (6, fX6 2 0 0 0 0 0), aR 5 100 (fun _ => none), aR 4 8 (fun _ => none)]) (L2 := [aL 41 (fun _ => 0), aL 20 (fun _ => 0), aI 40 (fun _ => 0), aI 40 (fun _ => 0), aL 40 (fun _ => 0), aL 40 (fun _ => 0), aL 40 (fun _ => 0), aI 40 (fun _ => 0), aI 40 (fun _ => 0)]) (obj := .inr (8, fX8 0 0 0)) dX9_init_67 nw_X9_49 dX9_init_70 dX9_init_71 mi_X9_51 (by decide) (by decide) dX9_init_74 fp_X9_52 rfl rfl b6 l6 (by decide) (by decide) (fun R f1 h1 h2 => ct_iX8 h1 h2) (fun F7 k7 b7 l7 => ?_)
  have l7 : lyd F7 32 [aL 41 (fun _ => 0), aL 20 (fun _ => 0), aI 40 (fun _ => 0), aI 40 (fun _ => 0), aL 40 (fun _ => 0), aL 40 (fun _ => 0), aL 40 (fun _ => 0), aI 40 (fun _ => 0), aI 40 (fun _ => 0), .inr (8, fX8 0 0 0), aR 6 156 (fun _ => none), .inr (3, fX3 0 (-1)), aB 40 (fun _ => 0), .inr (4, fX4 0), aI 8 (fun _ => 0), aI 8 (fun _ => 0), aI 8 (fun _ => 0), aI 8 (fun _ => 0), aI 8 (fun _ => 0), .inr (0, fX0 0 0), aL 3 (fun _ => 0), aL 3 (fun _ => 0), aL 3 (fun _ => 0), aL 3 (fun _ => 0), aL 3 (fun _ => 0), aL 3 (fun _ => 0), aL 3 (fun _ => 0), aL 3 (xui (fun _ => 0) 2 1), .inr (6, fX6 2 0 0 0 0 0), aR 5 100 (fun _ => none), aR 4 8 (fun _ => none)] := l7
  refine xw_aload_n dX9_init_77 rfl ?_
  refine xw_nf (y := M_X9_init) (rc := 1) (rs := 40) (mc2 := 4) (ms2 := 4132) (N := 7) (n2 := 37) (L := [aL 41 (fun _ => 0), aL 20 (fun _ => 0), aI 40 (fun _ => 0), aI 40 (fun _ => 0), aL 40 (fun _ => 0), aL 40 (fun _ => 0), aL 40 (fun _ => 0), aI 40 (fun _ => 0), aI 40 (fun _ => 0), .inr (8, fX8 0 0 0), aR 6 156 (fun _ => none), .inr (3, fX3 0 (-1)), aB 40 (fun _ => 0), .inr (4, fX4 0), aI 8 (fun _ => 0), aI 8 (fun _ => 0), aI 8 (fun _ => 0), aI 8 (fun _ => 0), aI 8 (fun _ => 0), .inr (0, fX0 0 0), aL 3 (fun _ => 0), aL 3 (fun _ => 0), aL 3 (fun _ => 0), aL 3 (fun _ => 0), aL 3 (fun _ => 0), aL 3 (fun _ => 0), aL 3 (fun _ => 0), aL 3 (xui (fun _ => 0) 2 1), .inr (6, fX6 2 0 0 0 0 0), aR 5 100 (fun _ => none), aR 4 8 (fun _ => none)]) (L2 := [aI 4096 (fun _ => 0), aI 12 (fun _ => 0), aI 12 (fun _ => 0), aI 12 (fun _ => 0)]) (obj := .inr (5, fX5 0 0 0)) dX9_init_78 nw_X9_56 dX9_init_81 dX9_init_82 mi_X9_58 (by decide) (by decide) dX9_init_85 fp_X9_59 rfl rfl b7 l7 (by decide) (by decide) (fun R f1 h1 h2 => ct_iX5 h1 h2) (fun F8 k8 b8 l8 => ?_)
  have l8 : lyd F8 37 [aI 4096 (fun _ => 0), aI 12 (fun _ => 0), aI 12 (fun _ => 0), aI 12 (fun _ => 0), .inr (5, fX5 0 0 0), aL 41 (fun _ => 0), aL 20 (fun _ => 0), aI 40 (fun _ => 0), aI 40 (fun _ => 0), aL 40 (fun _ => 0), aL 40 (fun _ => 0), aL 40 (fun _ => 0), aI 40 (fun _ => 0), aI 40 (fun _ => 0), .inr (8, fX8 0 0 0), aR 6 156 (fun _ => none), .inr (3, fX3 0 (-1)), aB 40 (fun _ => 0), .inr (4, fX4 0), aI 8 (fun _ => 0), aI 8 (fun _ => 0), aI 8 (fun _ => 0), aI 8 (fun _ => 0), aI 8 (fun _ => 0), .inr (0, fX0 0 0), aL 3 (fun _ => 0), aL 3 (fun _ => 0), aL 3 (fun _ => 0), aL 3 (fun _ => 0), aL 3 (fun _ => 0), aL 3 (fun _ => 0), aL 3 (fun _ => 0), aL 3 (xui (fun _ => 0) 2 1), .inr (6, fX6 2 0 0 0 0 0), aR 5 100 (fun _ => none), aR 4 8 (fun _ => none)] := l8
  refine xw_aload_n dX9_init_88 rfl ?_
  refine xw_bipush (z := 40) dX9_init_89 (by decide) ?_
  refine xw_af (rc := 0) (rs := 0) (N := 40) (t := 0) (c9 := .inl (fun _ => 0)) (L := [aI 4096 (fun _ => 0), aI 12 (fun _ => 0), aI 12 (fun _ => 0), aI 12 (fun _ => 0), .inr (5, fX5 0 0 0), aL 41 (fun _ => 0), aL 20 (fun _ => 0), aI 40 (fun _ => 0), aI 40 (fun _ => 0), aL 40 (fun _ => 0), aL 40 (fun _ => 0), aL 40 (fun _ => 0), aI 40 (fun _ => 0), aI 40 (fun _ => 0), .inr (8, fX8 0 0 0), aR 6 156 (fun _ => none), .inr (3, fX3 0 (-1)), aB 40 (fun _ => 0), .inr (4, fX4 0), aI 8 (fun _ => 0), aI 8 (fun _ => 0), aI 8 (fun _ => 0), aI 8 (fun _ => 0), aI 8 (fun _ => 0), .inr (0, fX0 0 0), aL 3 (fun _ => 0), aL 3 (fun _ => 0), aL 3 (fun _ => 0), aL 3 (fun _ => 0), aL 3 (fun _ => 0), aL 3 (fun _ => 0), aL 3 (fun _ => 0), aL 3 (xui (fun _ => 0) 2 1), .inr (6, fX6 2 0 0 0 0 0), aR 5 100 (fun _ => none), aR 4 8 (fun _ => none)]) dX9_init_91 rfl rfl (fun D h => by cases h) ac_int rfl (by decide) (by decide) (fun B cA => rfl) dX9_init_93 fp_X9_63 rfl rfl b8 l8 (by decide) (fun F9 k9 b9 l9 => ?_)
  rw [← xup_id b9]
  refine xw_cgO rfl (fs1 := fX9 0 0 0 0 0 0) (fun k hk => by rcases lt15 hk with rfl | rfl | rfl | rfl | rfl | rfl | rfl | rfl | rfl | rfl | rfl | rfl | rfl | rfl | rfl <;> rfl) ?_
  exact xw_vret dX9_init_96 rfl (hq _ (fun k hk => (xup_n _ _ (by omega)).trans ((k9 k (by omega)).trans ((k8 k (by omega)).trans ((k7 k (by omega)).trans ((k6 k (by omega)).trans ((k5 k (by omega)).trans ((k4 k (by omega)).trans ((k3 k (by omega)).trans ((k2 k (by omega)).trans (k1 k (by omega))))))))))) (xup_s _ _ _) (lyd_up l9 (by decide)))
end Cba2
