/-! boxes: rows of numbers -/
def fBx (w : Int) (an al : Nat) : Nat → xV := fun k => match k with
  | 0 => vI w
  | 1 => vR an
  | _ => vR al
def kept (w v : Int) : Int := if w = 0 then v.bmod 65536 else if w = 1 then v.bmod 4294967296 else v
def zrow (nu : Nat → Int) (k m : Nat) : Nat → Int := fun j => if 30 * k ≤ j ∧ j < 30 * k + m then 0 else nu j
theorem bm_in16 (v : Int) : inI (v.bmod 65536) := by
  have h1 := Int.bmod_lt (x := v) (m := 65536) (by decide)
  have h2 := Int.le_bmod (x := v) (m := 65536) (by decide)
  unfold inI; omega
theorem bm_in32 (v : Int) : inI (v.bmod 4294967296) := by
  have h1 := Int.bmod_lt (x := v) (m := 4294967296) (by decide)
  have h2 := Int.le_bmod (x := v) (m := 4294967296) (by decide)
  unfold inI; omega
theorem bm_of (v : Int) : Int32.ofInt (v.bmod 4294967296) = Int32.ofInt v := by
  apply Int32.toInt_inj.1
  rw [Int32.toInt_ofInt, Int32.toInt_ofInt, show Int32.size = 4294967296 from rfl, Int.bmod_bmod]
section C32
variable {g : xG} {Q : xP} {n : Nat} {f : xH}
theorem xw_wrap {y : xM} {rc rs pc : Nat} {ls : xS} {st : List xV} {v : Int} (k : xw g y Q rc rs pc ls (vI (v.bmod 4294967296) :: st) n f) : xw g y Q rc rs pc ls (vI v :: st) n f := by
  intro hG p e s m args below meth c H locs mc ms cells slots A C hR hZ hlo hc hs hl
  have h := k hG p e s m args below meth c H locs mc ms cells slots A C hR hZ hlo hc hs hl
  have e1 : (vI (v.bmod 4294967296) :: st).map (xcv (gB g)) = (vI v :: st).map (xcv (gB g)) := by
    show Value.int (Int32.ofInt (v.bmod 4294967296)) :: _ = Value.int (Int32.ofInt v) :: _
    rw [bm_of]
  rw [e1] at h
  exact h
/-- an object's fields behind the last are nothing -/
theorem xw_cgO {y : xM} {rc rs pc : Nat} {ls : xS} {st : List xV} {a ci N : Nat} {D : String} {T : u_T} {fs fs1 : Nat → xV} (hc9 : xcl[ci]? = some (D, T, N)) (h : ∀ k, k < N → fs k = fs1 k) (k : xw g y Q rc rs pc ls st n (xup f a (.inr (ci, fs1)))) : xw g y Q rc rs pc ls st n (xup f a (.inr (ci, fs))) := by
  intro hG p e s m args below meth c H locs mc ms cells slots A C hR hZ hlo hc hs hl
  refine k hG p e s m args below meth c H locs mc ms cells slots A C ⟨hR.1, hR.2.1, fun j e1 hj => ?_⟩ hZ hlo hc hs hl
  by_cases hja : j = a
  · subst hja
    rw [xup_s] at hj
    cases hj
    obtain ⟨h1, r, h2, h3⟩ := hR.2.2 j _ (xup_s f j (.inr (ci, fs)))
    have hr : r = (D, T, N) := Option.some.inj (h2.symm.trans hc9)
    subst hr
    exact ⟨h1, _, h2, h3.to (fun i hi => by show xcv _ (fs i) = xcv _ (fs1 i); rw [h i hi])⟩
  · rw [xup_n f _ hja] at hj
    exact hR.2.2 j e1 (by rw [xup_n f _ hja]; exact hj)
set_option maxHeartbeats 4000000 in
theorem ct_lengthOf {b an al k : Nat} {w : Int} {le : Nat → Int} (hb : f b = some (.inr (1, fBx w an al))) (hl : f al = some (aI 20 le)) (hk : k < 20) (hq : Q (.inl (some (vI (le k)))) n f) : xct g M_X1_lengthOf 0 0 [vR b, vI (k : Int)] n f Q := by
  refine xct_of rfl rfl (Nat.le_of_ble_eq_true rfl) ?_
  refine xw_iload_n dX1_lengthOf_0 rfl ?_
  refine xw_iflt (tgt := 10) dX1_lengthOf_1 (by decide) (by unfold inI; omega) (fun c_1 => ?_) (fun c_1 => ?_)
  · skip
    exfalso; omega
  · skip
    refine xw_iload_n dX1_lengthOf_4 rfl ?_
    refine xw_bipush (z := 20) dX1_lengthOf_5 (by decide) ?_
    refine xw_icmplt (tgt := 14) dX1_lengthOf_7 (by decide) (by unfold inI; omega) (by unfold inI; omega) (fun c_7 => ?_) (fun c_7 => ?_)
    · skip
      refine xw_aload_n dX1_lengthOf_14 rfl ?_
      refine xw_getfield dX1_lengthOf_15 fl_X1_15 hb rfl ?_
      refine xw_iload_n dX1_lengthOf_18 rfl ?_
      refine xw_iald dX1_lengthOf_19 hl rfl (by omega) (by decide) ?_
      exact xw_iret dX1_lengthOf_20 rfl hq
    · skip
      exfalso; omega
set_option maxHeartbeats 4000000 in
theorem ct_read {b an al k i : Nat} {w : Int} {le nu : Nat → Int} (hb : f b = some (.inr (1, fBx w an al))) (hl : f al = some (aI 20 le)) (hu : f an = some (aL 600 nu)) (hk : k < 20) (hi : (i : Int) < le k) (h30 : le k ≤ 30) (hq : Q (.inl (some (vL (nu (30 * k + i))))) n f) : xct g M_X1_read 0 0 [vR b, vI (k : Int), vI (i : Int)] n f Q := by
  refine xct_of rfl rfl (Nat.le_of_ble_eq_true rfl) ?_
  refine xw_iload_n dX1_read_0 rfl ?_
  refine xw_iflt (tgt := 13) dX1_read_1 (by decide) (by unfold inI; omega) (fun c_1 => ?_) (fun c_1 => ?_)
  · skip
    exfalso; omega
  · skip
    refine xw_iload_n dX1_read_4 rfl ?_
    refine xw_aload_n dX1_read_5 rfl ?_
    refine xw_iload_n dX1_read_6 rfl ?_
    refine xw_callV (rc := 0) (rs := 0) (mc2 := 0) (ms2 := 0) (As := [vI (k : Int)]) (st := [vI (i : Int)]) dX1_read_7 mv_X1_23 hb rfl rfl (by decide) (by decide) (Nat.le_of_ble_eq_true rfl) rfl (ct_lengthOf hb hl hk ?_)
    refine xw_icmplt (tgt := 17) dX1_read_10 (by decide) (by unfold inI; omega) (by unfold inI; omega) (fun c_10 => ?_) (fun c_10 => ?_)
    · skip
      refine xw_aload_n dX1_read_17 rfl ?_
      refine xw_getfield dX1_read_18 fl_X1_9 hb rfl ?_
      refine xw_iload_n dX1_read_21 rfl ?_
      refine xw_bipush (z := 30) dX1_read_22 (by decide) ?_
      refine xw_imul dX1_read_24 ?_
      refine xw_iload_n dX1_read_25 rfl ?_
      refine xw_iadd dX1_read_26 ?_
      refine xw_lald dX1_read_27 hu (j := 30 * k + i) (by omega) (by omega) (by decide) ?_
      exact xw_lret dX1_read_28 rfl hq
    · skip
      exfalso; omega
set_option maxHeartbeats 4000000 in
theorem ct_renew {b an al k : Nat} {w z : Int} {le nu : Nat → Int} (hb : f b = some (.inr (1, fBx w an al))) (hl : f al = some (aI 20 le)) (hu : f an = some (aL 600 nu)) (hbl : b ≠ al) (hbn : b ≠ an) (hln : al ≠ an) (hk : k < 20) (hq : Q (.inl none) n (xup (xup f al (aI 20 (xui le k z))) an (aL 600 (zrow nu k 30)))) : xct g M_X1_renew 0 0 [vR b, vI (k : Int), vI z] n f Q := by
  refine xct_of rfl rfl (Nat.le_of_ble_eq_true rfl) ?_
  have hu1 : (xup f al (aI 20 (xui le k z))) an = some (aL 600 nu) := (xup_n f _ (Ne.symm hln)).trans hu
  have hb2 : ∀ i, (xup (xup f al (aI 20 (xui le k z))) an (aL 600 (zrow nu k i))) b = some (.inr (1, fBx w an al)) := fun i => (xup_n _ _ hbn).trans ((xup_n _ _ hbl).trans hb)
  have L : ∀ (m i : Nat), i + m = 30 → xw g M_X1_renew Q 0 0 20 [(0, vR b), (1, vI (k : Int)), (3, vI (i : Int))] [] n (xup (xup f al (aI 20 (xui le k z))) an (aL 600 (zrow nu k i))) := by
    intro m
    induction m with
    | zero =>
      intro i hi
      have h30 : i = 30 := by omega
      subst h30
      refine xw_iload_n dX1_renew_20 rfl ?_
      refine xw_bipush (z := 30) dX1_renew_21 (by decide) ?_
      refine xw_icmpge (tgt := 44) dX1_renew_23 (by decide) (by unfold inI; omega) (by unfold inI; omega) (fun c_23 => ?_) (fun c_23 => ?_)
      · skip
        exact xw_vret dX1_renew_44 rfl hq
      · skip
        exfalso; omega
    | succ m ih =>
      intro i hi
      refine xw_iload_n dX1_renew_20 rfl ?_
      refine xw_bipush (z := 30) dX1_renew_21 (by decide) ?_
      refine xw_icmpge (tgt := 44) dX1_renew_23 (by decide) (by unfold inI; omega) (by unfold inI; omega) (fun c_23 => ?_) (fun c_23 => ?_)
      · skip
        exfalso; omega
      · skip
        refine xw_aload_n dX1_renew_26 rfl ?_
        refine xw_getfield dX1_renew_27 fl_X1_9 (hb2 i) rfl ?_
        refine xw_iload_n dX1_renew_30 rfl ?_
        refine xw_bipush (z := 30) dX1_renew_31 (by decide) ?_
        refine xw_imul dX1_renew_33 ?_
        refine xw_iload_n dX1_renew_34 rfl ?_
        refine xw_iadd dX1_renew_35 ?_
        refine xw_lconst (z := 0) dX1_renew_36 (by decide) ?_
        refine xw_last dX1_renew_37 (xup_s _ _ _) (j := 30 * k + i) (by omega) (by omega) (by decide) ?_
        refine xw_uu (xw_cgL (c1 := zrow nu k (i + 1)) (fun j hj => ?_) ?_)
        · unfold zrow xui; dsimp only; (repeat' split) <;> first | rfl | (exfalso; omega)
        refine xw_iinc dX1_renew_38 rfl (by decide) ?_
        refine xw_goto (tgt := 20) dX1_renew_41 (by decide) ?_
        exact xw_ls [(0, vR b), (1, vI (k : Int)), (3, vI ((i + 1 : Nat) : Int))] ⟨rfl, rfl, rfl, trivial⟩ (ih (i + 1) (by omega))
  refine xw_iload_n dX1_renew_0 rfl ?_
  refine xw_iflt (tgt := 10) dX1_renew_1 (by decide) (by unfold inI; omega) (fun c_1 => ?_) (fun c_1 => ?_)
  · skip
    exfalso; omega
  · skip
    refine xw_iload_n dX1_renew_4 rfl ?_
    refine xw_bipush (z := 20) dX1_renew_5 (by decide) ?_
    refine xw_icmplt (tgt := 11) dX1_renew_7 (by decide) (by unfold inI; omega) (by unfold inI; omega) (fun c_7 => ?_) (fun c_7 => ?_)
    · skip
      refine xw_aload_n dX1_renew_11 rfl ?_
      refine xw_getfield dX1_renew_12 fl_X1_15 hb rfl ?_
      refine xw_iload_n dX1_renew_15 rfl ?_
      refine xw_iload_n dX1_renew_16 rfl ?_
      refine xw_iast dX1_renew_17 hl rfl (by omega) (by decide) ?_
      refine xw_iconst dX1_renew_18 ?_
      refine xw_istore_n dX1_renew_19 (by decide) ?_
      refine xw_ls [(0, vR b), (1, vI (k : Int)), (3, vI ((0 : Nat) : Int))] ⟨rfl, rfl, rfl, trivial⟩ (xw_eqf (xup_id hu1).symm (xw_cgL (fun j _ => ?_) (L 30 0 rfl)))
      unfold zrow
      rw [if_neg (by omega)]
    · skip
      exfalso; omega
set_option maxHeartbeats 4000000 in
theorem ct_write {b an al k i : Nat} {w v : Int} {le nu : Nat → Int} (hb : f b = some (.inr (1, fBx w an al))) (hl : f al = some (aI 20 le)) (hu : f an = some (aL 600 nu)) (hk : k < 20) (hi : (i : Int) < le k) (h30 : le k ≤ 30) (hw : 0 ≤ w ∧ w ≤ 2) (hq : Q (.inl none) n (xup f an (aL 600 (xui nu (30 * k + i) (kept w v))))) : xct g M_X1_write 0 0 [vR b, vI (k : Int), vI (i : Int), vL v] n f Q := by
  refine xct_of rfl rfl (Nat.le_of_ble_eq_true rfl) ?_
  unfold kept at hq
  refine xw_iload_n dX1_write_0 rfl ?_
  refine xw_iflt (tgt := 13) dX1_write_1 (by decide) (by unfold inI; omega) (fun c_1 => ?_) (fun c_1 => ?_)
  · skip
    exfalso; omega
  · skip
    refine xw_iload_n dX1_write_4 rfl ?_
    refine xw_aload_n dX1_write_5 rfl ?_
    refine xw_iload_n dX1_write_6 rfl ?_
    refine xw_callV (rc := 0) (rs := 0) (mc2 := 0) (ms2 := 0) (As := [vI (k : Int)]) (st := [vI (i : Int)]) dX1_write_7 mv_X1_23 hb rfl rfl (by decide) (by decide) (Nat.le_of_ble_eq_true rfl) rfl (ct_lengthOf hb hl hk ?_)
    refine xw_icmplt (tgt := 14) dX1_write_10 (by decide) (by unfold inI; omega) (by unfold inI; omega) (fun c_10 => ?_) (fun c_10 => ?_)
    · skip
      refine xw_aload_n dX1_write_14 rfl ?_
      refine xw_getfield dX1_write_15 fl_X1_19 hb rfl ?_
      refine xw_ifne (tgt := 39) dX1_write_18 (by decide) (by unfold inI; omega) (fun c_18 => ?_) (fun c_18 => ?_)
      · skip
        refine xw_aload_n dX1_write_39 rfl ?_
        refine xw_getfield dX1_write_40 fl_X1_19 hb rfl ?_
        refine xw_iconst dX1_write_43 ?_
        refine xw_icmpne (tgt := 64) dX1_write_44 (by decide) (by unfold inI; omega) (by unfold inI; omega) (fun c_44 => ?_) (fun c_44 => ?_)
        · skip
          refine xw_aload_n dX1_write_64 rfl ?_
          refine xw_getfield dX1_write_65 fl_X1_9 hb rfl ?_
          refine xw_iload_n dX1_write_68 rfl ?_
          refine xw_bipush (z := 30) dX1_write_69 (by decide) ?_
          refine xw_imul dX1_write_71 ?_
          refine xw_iload_n dX1_write_72 rfl ?_
          refine xw_iadd dX1_write_73 ?_
          refine xw_lload_n dX1_write_74 rfl ?_
          refine xw_last dX1_write_75 hu (j := 30 * k + i) (by omega) (by omega) (by decide) ?_
          exact xw_vret dX1_write_76 rfl (by first | (rw [if_pos (by omega)] at hq; exact hq) | (rw [if_neg (by omega), if_pos (by omega)] at hq; exact hq) | (rw [if_neg (by omega), if_neg (by omega)] at hq; exact hq))
        · skip
          refine xw_aload_n dX1_write_47 rfl ?_
          refine xw_getfield dX1_write_48 fl_X1_9 hb rfl ?_
          refine xw_iload_n dX1_write_51 rfl ?_
          refine xw_bipush (z := 30) dX1_write_52 (by decide) ?_
          refine xw_imul dX1_write_54 ?_
          refine xw_iload_n dX1_write_55 rfl ?_
          refine xw_iadd dX1_write_56 ?_
          refine xw_lload_n dX1_write_57 rfl ?_
          refine xw_l2i dX1_write_58 ?_
          refine xw_wrap ?_
          refine xw_i2l dX1_write_59 (bm_in32 v) ?_
          refine xw_last dX1_write_60 hu (j := 30 * k + i) (by omega) (by omega) (by decide) ?_
          refine xw_goto (tgt := 76) dX1_write_61 (by decide) ?_
          exact xw_vret dX1_write_76 rfl (by first | (rw [if_pos (by omega)] at hq; exact hq) | (rw [if_neg (by omega), if_pos (by omega)] at hq; exact hq) | (rw [if_neg (by omega), if_neg (by omega)] at hq; exact hq))
      · skip
        refine xw_aload_n dX1_write_21 rfl ?_
        refine xw_getfield dX1_write_22 fl_X1_9 hb rfl ?_
        refine xw_iload_n dX1_write_25 rfl ?_
        refine xw_bipush (z := 30) dX1_write_26 (by decide) ?_
        refine xw_imul dX1_write_28 ?_
        refine xw_iload_n dX1_write_29 rfl ?_
        refine xw_iadd dX1_write_30 ?_
        refine xw_lload_n dX1_write_31 rfl ?_
        refine xw_l2i dX1_write_32 ?_
        refine xw_i2s dX1_write_33 ?_
        refine xw_i2l dX1_write_34 (bm_in16 v) ?_
        refine xw_last dX1_write_35 hu (j := 30 * k + i) (by omega) (by omega) (by decide) ?_
        refine xw_goto (tgt := 76) dX1_write_36 (by decide) ?_
        exact xw_vret dX1_write_76 rfl (by first | (rw [if_pos (by omega)] at hq; exact hq) | (rw [if_neg (by omega), if_pos (by omega)] at hq; exact hq) | (rw [if_neg (by omega), if_neg (by omega)] at hq; exact hq))
    · skip
      exfalso; omega
set_option maxHeartbeats 4000000 in
theorem ct_remove {b an al k : Nat} {w : Int} {le : Nat → Int} (hb : f b = some (.inr (1, fBx w an al))) (hl : f al = some (aI 20 le)) (hk : k < 20) (hr : inI (le k)) (hq : Q (.inl (some (vI (le k)))) n (xup f al (aI 20 (xui le k (-1))))) : xct g M_X1_remove 0 0 [vR b, vI (k : Int)] n f Q := by
  refine xct_of rfl rfl (Nat.le_of_ble_eq_true rfl) ?_
  unfold inI at hr
  have hsame : le k = -1 → xup f al (aI 20 (xui le k (-1))) = f := fun h => by
    have : xui le k (-1) = le := by
      funext j
      unfold xui
      by_cases hj : j = k
      · rw [if_pos hj, hj, h]
      · rw [if_neg hj]
    rw [this]
    exact xup_id hl
  refine xw_aload_n dX1_remove_0 rfl ?_
  refine xw_iload_n dX1_remove_1 rfl ?_
  refine xw_callV (rc := 0) (rs := 0) (mc2 := 0) (ms2 := 0) (As := [vI (k : Int)]) (st := []) dX1_remove_2 mv_X1_23 hb rfl rfl (by decide) (by decide) (Nat.le_of_ble_eq_true rfl) rfl (ct_lengthOf hb hl hk ?_)
  refine xw_istore_n dX1_remove_5 (by decide) ?_
  refine xw_iload_n dX1_remove_6 rfl ?_
  refine xw_iconst dX1_remove_7 ?_
  refine xw_icmpeq (tgt := 18) dX1_remove_8 (by decide) (by unfold inI; omega) (by unfold inI; omega) (fun c_8 => ?_) (fun c_8 => ?_)
  · skip
    refine xw_iload_n dX1_remove_18 rfl ?_
    exact xw_iret dX1_remove_19 rfl (by first | exact hq | (rw [hsame c_8] at hq; exact hq))
  · skip
    refine xw_aload_n dX1_remove_11 rfl ?_
    refine xw_getfield dX1_remove_12 fl_X1_15 hb rfl ?_
    refine xw_iload_n dX1_remove_15 rfl ?_
    refine xw_iconst dX1_remove_16 ?_
    refine xw_iast dX1_remove_17 hl rfl (by omega) (by decide) ?_
    refine xw_iload_n dX1_remove_18 rfl ?_
    exact xw_iret dX1_remove_19 rfl (by first | exact hq | (rw [hsame c_8] at hq; exact hq))
set_option maxHeartbeats 4000000 in
theorem ct_Box {b : Nat} {w : Int} (hb : f b = some (.inr (1, fun j => xdef (tyX1 j)))) (hbn : b < n) (hq : Q (.inl none) (n + 2) (xup (xup (xup f n (aL 600 (fun _ => 0))) (n + 1) (aI 20 (fun _ => -1))) b (.inr (1, fBx w n (n + 1))))) : xct g M_X1_init 2 620 [vR b, vI w] n f Q := by
  refine xct_of rfl rfl (Nat.le_of_ble_eq_true rfl) ?_
  have hb1 : b ≠ n := by omega
  have hb2 : b ≠ n + 1 := by omega
  have L : ∀ (m i : Nat), i + m = 20 → xw g M_X1_init Q 0 0 28 [(0, vR b), (2, vI (i : Int))] [] (n + 2) (xup (xup (xup f n (aL 600 (fun _ => 0))) b (.inr (1, fBx w n (n + 1)))) (n + 1) (aI 20 (fun j => if j < i then -1 else 0))) := by
    intro m
    induction m with
    | zero =>
      intro i hi
      have h20 : i = 20 := by omega
      subst h20
      refine xw_cgI (c1 := fun _ => -1) (fun j hj => if_pos hj) ?_
      rw [xup_comm _ _ _ hb2]
      refine xw_iload_n dX1_init_28 rfl ?_
      refine xw_bipush (z := 20) dX1_init_29 (by decide) ?_
      refine xw_icmpge (tgt := 47) dX1_init_31 (by decide) (by unfold inI; omega) (by unfold inI; omega) (fun c_31 => ?_) (fun c_31 => ?_)
      · skip
        exact xw_vret dX1_init_47 rfl hq
      · skip
        exfalso; omega
    | succ m ih =>
      intro i hi
      refine xw_iload_n dX1_init_28 rfl ?_
      refine xw_bipush (z := 20) dX1_init_29 (by decide) ?_
      refine xw_icmpge (tgt := 47) dX1_init_31 (by decide) (by unfold inI; omega) (by unfold inI; omega) (fun c_31 => ?_) (fun c_31 => ?_)
      · skip
        exfalso; omega
      · skip
        refine xw_aload_n dX1_init_34 rfl ?_
        refine xw_getfield dX1_init_35 fl_X1_15 ((xup_n _ _ hb2).trans (xup_s _ _ _)) rfl ?_
        refine xw_iload_n dX1_init_38 rfl ?_
        refine xw_iconst dX1_init_39 ?_
        refine xw_iast dX1_init_40 (xup_s _ _ _) (j := i) rfl (by omega) (by decide) ?_
        refine xw_uu (xw_cgI (c1 := fun j => if j < i + 1 then -1 else 0) (fun j hj => ?_) ?_)
        · unfold xui; dsimp only; (repeat' split) <;> first | rfl | (exfalso; omega)
        refine xw_iinc dX1_init_41 rfl (by decide) ?_
        refine xw_goto (tgt := 28) dX1_init_44 (by decide) ?_
        exact xw_ls [(0, vR b), (2, vI ((i + 1 : Nat) : Int))] ⟨rfl, rfl, trivial⟩ (ih (i + 1) (by omega))
  refine xw_aload_n dX1_init_0 rfl ?_
  refine xw_objInit dX1_init_1 oi_X1 oi_2 oi_3 (by decide) (by decide) (Nat.le_of_ble_eq_true rfl) ?_
  refine xw_aload_n dX1_init_4 rfl ?_
  refine xw_sipush (z := 600) dX1_init_5 (by decide) ?_
  refine xw_newa (rc := 1) (rs := 20) (N := 600) (t := 1) (c9 := .inr (.inl (fun _ => 0))) dX1_init_8 rfl rfl (fun D h => by cases h) ac_long rfl (by decide) (by decide) (fun B cA => rfl) ?_
  refine xw_putfield dX1_init_10 fp_X1_9 ((xup_n _ _ hb1).trans hb) rfl rfl ?_
  refine xw_aload_n dX1_init_13 rfl ?_
  refine xw_bipush (z := 20) dX1_init_14 (by decide) ?_
  refine xw_newa (rc := 0) (rs := 0) (N := 20) (t := 0) (c9 := .inl (fun _ => 0)) dX1_init_16 rfl rfl (fun D h => by cases h) ac_int rfl (by decide) (by decide) (fun B cA => rfl) ?_
  refine xw_putfield dX1_init_18 fp_X1_15 ((xup_n _ _ hb2).trans (xup_s _ _ _)) rfl rfl ?_
  refine xw_aload_n dX1_init_21 rfl ?_
  refine xw_iload_n dX1_init_22 rfl ?_
  refine xw_putfield dX1_init_23 fp_X1_19 (xup_s _ _ _) rfl rfl ?_
  rw [xup_up, xup_comm _ _ _ (Ne.symm hb2), xup_up]
  rw [xup_comm _ _ _ hb2]
  refine xw_cgO rfl (fs1 := fBx w n (n + 1)) (fun k hk => by rcases lt3 hk with rfl | rfl | rfl <;> rfl) ?_
  refine xw_iconst dX1_init_26 ?_
  refine xw_istore_n dX1_init_27 (by decide) ?_
  refine xw_ls [(0, vR b), (2, vI ((0 : Nat) : Int))] ⟨rfl, rfl, trivial⟩ ?_
  rw [xup_comm _ _ _ (Ne.symm hb2)]
  exact xw_cgI (fun j _ => by rw [if_neg (by omega)]) (L 20 0 rfl)
end C32
