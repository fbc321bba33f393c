/-! bounds; the acts; what a row makes -/
theorem mulb {a b : Int} {A B : Nat} (ha : a.natAbs ≤ A) (hb : b.natAbs ≤ B) : (a * b).natAbs ≤ A * B := by
  rw [Int.natAbs_mul]
  exact Nat.mul_le_mul ha hb
def bd (v : Nat → Int) (A : Nat) : Prop := (v 0).natAbs ≤ A ∧ (v 1).natAbs ≤ A ∧ (v 2).natAbs ≤ A
theorem bd_k {v : Nat → Int} {A k : Nat} (h : bd v A) (hk : k < 3) : (v k).natAbs ≤ A := by rcases lt3 hk with rfl | rfl | rfl; exact h.1; exact h.2.1; exact h.2.2
theorem bd_of {v : Nat → Int} {A : Nat} (h : ∀ k, k < 3 → (v k).natAbs ≤ A) : bd v A := ⟨h 0 (by decide), h 1 (by decide), h 2 (by decide)⟩
theorem bd_cr {a b : Nat → Int} {A B C : Nat} (ha : bd a A) (hb : bd b B) (hC : 2 * (A * B) ≤ C) : bd (cr a b) C := by
  obtain ⟨a0, a1, a2⟩ := ha
  obtain ⟨b0, b1, b2⟩ := hb
  have h1 := mulb a1 b2
  have h2 := mulb a2 b1
  have h3 := mulb a2 b0
  have h4 := mulb a0 b2
  have h5 := mulb a0 b1
  have h6 := mulb a1 b0
  refine ⟨?_, ?_, ?_⟩
  · show (a 1 * b 2 - a 2 * b 1).natAbs ≤ C; omega
  · show (a 2 * b 0 - a 0 * b 2).natAbs ≤ C; omega
  · show (a 0 * b 1 - a 1 * b 0).natAbs ≤ C; omega
theorem bd_dt {a b : Nat → Int} {A B : Nat} (ha : bd a A) (hb : bd b B) : (dt a b).natAbs ≤ 3 * (A * B) := by
  have h1 := mulb ha.1 hb.1
  have h2 := mulb ha.2.1 hb.2.1
  have h3 := mulb ha.2.2 hb.2.2
  unfold dt
  omega
theorem de_dt (a b c : Nat → Int) : de a b c = dt a (cr b c) := rfl
theorem bd_de {a b c : Nat → Int} {A B C : Nat} (ha : bd a A) (hb : bd b B) (hc : bd c C) : (de a b c).natAbs ≤ 3 * (A * (2 * (B * C))) := by
  rw [de_dt]
  exact bd_dt ha (bd_cr hb hc (Nat.le_refl _))
theorem bd_3s {v : Nat → Int} {A : Nat} (h : bd v A) (hA : A ≤ 4611686018427387904) : in3s v := fun k hk => by have := bd_k h hk; omega
theorem bd_3 {v : Nat → Int} {A : Nat} (h : bd v A) (hA : A ≤ 4611686018427387904) : in3 v := in3s_3 (bd_3s h hA)
theorem nL {z : Int} {A : Nat} (h : z.natAbs ≤ A) (hA : A ≤ 4611686018427387904) : inL z := by unfold inL; omega
def wf (n : Nat) (f : xH) : Prop := ∀ k, n ≤ k → f k = none
theorem wf_ne {n k : Nat} {f : xH} {e : xE} (h : wf n f) (hk : f k = some e) : k < n := by
  rcases Nat.lt_or_ge k n with h1 | h1
  · exact h1
  · rw [h k h1] at hk; cases hk
theorem wf_le {n m : Nat} {f : xH} (h : wf n f) (hm : n ≤ m) : wf m f := fun k hk => h k (by omega)
theorem wf_up {n a : Nat} {f : xH} {e : xE} (h : wf n f) (ha : a < n) : wf n (xup f a e) := fun k hk => (xup_n f e (by omega)).trans (h k hk)
section C34
variable {g : xG} {y : xM} {Q : xP} {n : Nat} {f : xH}
theorem xw_topi {rc rs pc : Nat} {ls : xS} {st : List xV} {z : Int} (z1 : Int) (h : z = z1) (k : xw g y Q rc rs pc ls (vI z1 :: st) n f) : xw g y Q rc rs pc ls (vI z :: st) n f := by rw [h]; exact k
theorem xw_topl {rc rs pc : Nat} {ls : xS} {st : List xV} {z : Int} (z1 : Int) (h : z = z1) (k : xw g y Q rc rs pc ls (vL z1 :: st) n f) : xw g y Q rc rs pc ls (vL z :: st) n f := by rw [h]; exact k
set_option maxHeartbeats 4000000 in
theorem ct_note {sz kd s x y z : Int} {p : Nat} {a13 a14 a15 a16 a17 : Nat → Int} (h12 : f 12 = some (.inr (0, fX0 sz p))) (h13 : f 13 = some (aI 8 a13)) (h14 : f 14 = some (aI 8 a14)) (h15 : f 15 = some (aI 8 a15)) (h16 : f 16 = some (aI 8 a16)) (h17 : f 17 = some (aI 8 a17)) (hp : p < 8) (hs : 0 ≤ sz ∧ sz ≤ 8)
    (hq : Q (.inl none) n (xup (xup (xup (xup (xup (xup f 13 (aI 8 (xui a13 p kd))) 14 (aI 8 (xui a14 p s))) 15 (aI 8 (xui a15 p x))) 16 (aI 8 (xui a16 p y))) 17 (aI 8 (xui a17 p z))) 12 (.inr (0, fX0 (if 8 < sz + 1 then 8 else sz + 1) ((p + 1) % 8 : Nat))))) : xct g M_X0_note 0 0 [vR 12, vI kd, vI s, vI x, vI y, vI z] n f Q := by
  refine xct_of rfl rfl (Nat.le_of_ble_eq_true rfl) ?_
  refine xw_aload_n dX0_note_0 rfl ?_
  refine xw_getfield dX0_note_1 fl_X0_9 h12 rfl ?_
  refine xw_aload_n dX0_note_4 rfl ?_
  refine xw_getfield dX0_note_5 fl_X0_25 h12 rfl ?_
  refine xw_iload_n dX0_note_8 rfl ?_
  refine xw_iast dX0_note_9 h13 rfl (by omega) (by decide) ?_
  refine xw_aload_n dX0_note_10 rfl ?_
  refine xw_getfield dX0_note_11 fl_X0_13 h12 rfl ?_
  refine xw_aload_n dX0_note_14 rfl ?_
  refine xw_getfield dX0_note_15 fl_X0_25 h12 rfl ?_
  refine xw_iload_n dX0_note_18 rfl ?_
  refine xw_iast dX0_note_19 h14 rfl (by omega) (by decide) ?_
  refine xw_aload_n dX0_note_20 rfl ?_
  refine xw_getfield dX0_note_21 fl_X0_16 h12 rfl ?_
  refine xw_aload_n dX0_note_24 rfl ?_
  refine xw_getfield dX0_note_25 fl_X0_25 h12 rfl ?_
  refine xw_iload_n dX0_note_28 rfl ?_
  refine xw_iast dX0_note_29 h15 rfl (by omega) (by decide) ?_
  refine xw_aload_n dX0_note_30 rfl ?_
  refine xw_getfield dX0_note_31 fl_X0_19 h12 rfl ?_
  refine xw_aload_n dX0_note_34 rfl ?_
  refine xw_getfield dX0_note_35 fl_X0_25 h12 rfl ?_
  refine xw_iload dX0_note_38 rfl ?_
  refine xw_iast dX0_note_40 h16 rfl (by omega) (by decide) ?_
  refine xw_aload_n dX0_note_41 rfl ?_
  refine xw_getfield dX0_note_42 fl_X0_22 h12 rfl ?_
  refine xw_aload_n dX0_note_45 rfl ?_
  refine xw_getfield dX0_note_46 fl_X0_25 h12 rfl ?_
  refine xw_iload dX0_note_49 rfl ?_
  refine xw_iast dX0_note_51 h17 rfl (by omega) (by decide) ?_
  refine xw_aload_n dX0_note_52 rfl ?_
  refine xw_aload_n dX0_note_53 rfl ?_
  refine xw_getfield dX0_note_54 fl_X0_25 h12 rfl ?_
  refine xw_iconst dX0_note_57 ?_
  refine xw_iadd dX0_note_58 ?_
  refine xw_bipush (z := 8) dX0_note_59 (by decide) ?_
  refine xw_irem dX0_note_61 (by unfold inI; omega) (by unfold inI; omega) (by omega) ?_
  refine xw_topi (((p + 1) % 8 : Nat) : Int) (by rw [Int.tmod_eq_emod_of_nonneg (by omega)]; omega) ?_
  refine xw_putfield dX0_note_62 (fp_X0_25 _) h12 rfl rfl ?_
  rw [fX0_1]
  refine xw_aload_n dX0_note_65 rfl ?_
  refine xw_aload_n dX0_note_66 rfl ?_
  refine xw_getfield dX0_note_67 fl_X0_29 rfl rfl ?_
  refine xw_iconst dX0_note_70 ?_
  refine xw_iadd dX0_note_71 ?_
  refine xw_bipush (z := 8) dX0_note_72 (by decide) ?_
  refine xw_minI dX0_note_74 mm_X0_32 mm_minI_s mm_ini mm_minI_c (by decide) (by decide) (Nat.le_of_ble_eq_true rfl) (by unfold inI; omega) (by unfold inI; omega) ?_
  refine xw_putfield dX0_note_77 (fp_X0_29 _) rfl rfl rfl ?_
  rw [fX0_0]
  rw [xup_up]
  exact xw_vret dX0_note_80 rfl hq
set_option maxHeartbeats 4000000 in
theorem ct_dropLatest {sz : Int} {p : Nat} (h12 : f 12 = some (.inr (0, fX0 sz p))) (hp : p < 8) (hq : Q (.inl (some (vI (((p + 7) % 8 : Nat) : Int)))) n (xup f 12 (.inr (0, fX0 (sz - 1) ((p + 7) % 8 : Nat))))) : xct g M_X0_dropLatest 0 0 [vR 12] n f Q := by
  refine xct_of rfl rfl (Nat.le_of_ble_eq_true rfl) ?_
  refine xw_aload_n dX0_dropLatest_0 rfl ?_
  refine xw_aload_n dX0_dropLatest_1 rfl ?_
  refine xw_getfield dX0_dropLatest_2 fl_X0_25 h12 rfl ?_
  refine xw_bipush (z := 8) dX0_dropLatest_5 (by decide) ?_
  refine xw_iadd dX0_dropLatest_7 ?_
  refine xw_iconst dX0_dropLatest_8 ?_
  refine xw_isub dX0_dropLatest_9 ?_
  refine xw_bipush (z := 8) dX0_dropLatest_10 (by decide) ?_
  refine xw_irem dX0_dropLatest_12 (by unfold inI; omega) (by unfold inI; omega) (by omega) ?_
  refine xw_topi (((p + 7) % 8 : Nat) : Int) (by rw [Int.tmod_eq_emod_of_nonneg (by omega)]; omega) ?_
  refine xw_putfield dX0_dropLatest_13 (fp_X0_25 _) h12 rfl rfl ?_
  rw [fX0_1]
  refine xw_aload_n dX0_dropLatest_16 rfl ?_
  refine xw_dup dX0_dropLatest_17 rfl ?_
  refine xw_getfield dX0_dropLatest_18 fl_X0_29 rfl rfl ?_
  refine xw_iconst dX0_dropLatest_21 ?_
  refine xw_isub dX0_dropLatest_22 ?_
  refine xw_putfield dX0_dropLatest_23 (fp_X0_29 _) rfl rfl rfl ?_
  rw [fX0_0]
  rw [xup_up]
  refine xw_aload_n dX0_dropLatest_26 rfl ?_
  refine xw_getfield dX0_dropLatest_27 fl_X0_25 rfl rfl ?_
  exact xw_iret dX0_dropLatest_30 rfl hq
/-- a hook's two pieces, from its bend -/
def bkv (pt : Nat → Int) (k : Nat) : Int := pt k - pt (3 + k)
def onv (pt : Nat → Int) (k : Nat) : Int := pt (6 + k) - pt (3 + k)
def folds (pt : Nat → Int) : Prop := (cr (bkv pt) (onv pt) 0 = 0 ∧ cr (bkv pt) (onv pt) 1 = 0 ∧ cr (bkv pt) (onv pt) 2 = 0) ∧ 0 < dt (bkv pt) (onv pt)
def pf (v : Nat → Int) (i : Nat) : Nat → Int := fun j => if j < i then v j else 0
theorem pf_step (v : Nat → Int) (i j : Nat) {x : Int} (hx : x = v i) : xui (pf v i) i x j = pf v (i + 1) j := by
  unfold xui pf
  by_cases h : j = i
  · subst h; rw [if_pos rfl, if_pos (by omega), hx]
  · rw [if_neg h]
    by_cases h2 : j < i
    · rw [if_pos h2, if_pos (by omega)]
    · rw [if_neg h2, if_neg (by omega)]
set_option maxHeartbeats 4000000 in
theorem ct_folds {b ap pc : Nat} {kd mk wo ot : Int} {pt : Nat → Int} (hb : f b = some (oSt kd mk wo pc ap ot)) (hp : f ap = some (aI 9 pt)) (hw : wf n f) (hpt : ∀ j, j < 9 → nr (pt j)) (h1 : folds pt → Q (.inl (some (vI 1))) (n + 3) f) (h0 : ¬ folds pt → Q (.inl (some (vI 0))) (n + 3) f) : xct g M_X7_foldsOnItself 3 9 [vR b] n f Q := by
  refine xct_of rfl rfl (Nat.le_of_ble_eq_true rfl) ?_
  have hbn := wf_ne hw hb
  have hpn := wf_ne hw hp
  have hpt2 : ∀ j, j < 9 → (pt j).natAbs ≤ 1000 := fun j hj => by have := hpt j hj; unfold nr at this; omega
  have hbk : bd (bkv pt) 2000 := bd_of (fun k hk => by have := hpt2 k (by omega); have := hpt2 (3 + k) (by omega); unfold bkv; omega)
  have hon : bd (onv pt) 2000 := bd_of (fun k hk => by have := hpt2 (6 + k) (by omega); have := hpt2 (3 + k) (by omega); unfold onv; omega)
  have hcr := bd_cr hbk hon (Nat.le_refl _)
  have hdt := bd_dt hbk hon
  have E : xw g M_X7_foldsOnItself Q 1 3 55 [(0, vR b), (1, vR n), (2, vR (n + 1))] [] (n + 2) (xup (xup f n (aL 3 (bkv pt))) (n + 1) (aL 3 (onv pt))) := by
    refine xw_iconst dX7_foldsOnItself_55 ?_
    refine xw_newa (rc := 0) (rs := 0) (N := 3) (t := 1) (c9 := .inr (.inl (fun _ => 0))) dX7_foldsOnItself_56 rfl rfl (fun D h => by cases h) ac_long rfl (by decide) (by decide) (fun B cA => rfl) ?_
    refine xw_astore_n dX7_foldsOnItself_58 (by decide) ?_
    refine xw_aload_n dX7_foldsOnItself_59 rfl ?_
    refine xw_aload_n dX7_foldsOnItself_60 rfl ?_
    refine xw_aload_n dX7_foldsOnItself_61 rfl ?_
    refine xw_callS (rc := 0) (rs := 0) (mc2 := 0) (ms2 := 0) (As := [vR n, vR (n + 1), vR (n + 2)]) (st := []) dX7_foldsOnItself_62 ms_X7_61 rfl (by decide) (by decide) (Nat.le_of_ble_eq_true rfl) rfl (ct_cross (va := bkv pt) (vb := onv pt) (vc := fun _ => 0) ((xup_n _ _ (by omega)).trans ((xup_n _ _ (by omega)).trans (xup_s _ _ _))) ((xup_n _ _ (by omega)).trans (xup_s _ _ _)) (xup_s _ _ _) (by omega) (by omega) ?_)
    rw [xup_up]
    refine xw_aload_n dX7_foldsOnItself_65 rfl ?_
    refine xw_callS (rc := 0) (rs := 0) (mc2 := 0) (ms2 := 0) (As := [vR (n + 2)]) (st := []) dX7_foldsOnItself_66 ms_X7_67 rfl (by decide) (by decide) (Nat.le_of_ble_eq_true rfl) rfl (ct_isZero (xup_s _ _ _) (bd_3 hcr (by decide)) (fun h_66 => ?_) (fun h_66 => ?_))
    · skip
      refine xw_ifeq (tgt := 86) dX7_foldsOnItself_69 (by decide) (by unfold inI; omega) (fun c => absurd c (by decide)) (fun _ => ?_)
      refine xw_aload_n dX7_foldsOnItself_72 rfl ?_
      refine xw_aload_n dX7_foldsOnItself_73 rfl ?_
      refine xw_callS (rc := 0) (rs := 0) (mc2 := 0) (ms2 := 0) (As := [vR n, vR (n + 1)]) (st := []) dX7_foldsOnItself_74 ms_X7_71 rfl (by decide) (by decide) (Nat.le_of_ble_eq_true rfl) rfl (ct_dot (va := bkv pt) (vb := onv pt) ((xup_n _ _ (by omega)).trans ((xup_n _ _ (by omega)).trans (xup_s _ _ _))) ((xup_n _ _ (by omega)).trans (xup_s _ _ _)) ?_)
      refine xw_lconst (z := 0) dX7_foldsOnItself_77 (by decide) ?_
      refine xw_lcmple (tgt := 86) dX7_foldsOnItself_78 dX7_foldsOnItself_79 (by decide) (nL hdt (by decide)) (by unfold inL; omega) (fun c_78 => ?_) (fun c_78 => ?_)
      · skip
        refine xw_iconst dX7_foldsOnItself_86 ?_
        refine xw_hp f (fun k e h => by have := wf_ne hw h; exact (xup_n _ _ (by omega)).trans ((xup_n _ _ (by omega)).trans ((xup_n _ _ (by omega)).trans h))) ?_
        exact xw_zret dX7_foldsOnItself_87 rfl rfl (by first | exact h1 ⟨h_66, by omega⟩ | exact h0 (fun h => by have := h.2; omega) | exact h0 (fun h => h_66 h.1))
      · skip
        refine xw_iconst dX7_foldsOnItself_82 ?_
        refine xw_goto (tgt := 87) dX7_foldsOnItself_83 (by decide) ?_
        refine xw_hp f (fun k e h => by have := wf_ne hw h; exact (xup_n _ _ (by omega)).trans ((xup_n _ _ (by omega)).trans ((xup_n _ _ (by omega)).trans h))) ?_
        exact xw_zret dX7_foldsOnItself_87 rfl rfl (by first | exact h1 ⟨h_66, by omega⟩ | exact h0 (fun h => by have := h.2; omega) | exact h0 (fun h => h_66 h.1))
    · skip
      refine xw_ifeq (tgt := 86) dX7_foldsOnItself_69 (by decide) (by unfold inI; omega) (fun _ => ?_) (fun c => absurd c (by decide))
      refine xw_iconst dX7_foldsOnItself_86 ?_
      refine xw_hp f (fun k e h => by have := wf_ne hw h; exact (xup_n _ _ (by omega)).trans ((xup_n _ _ (by omega)).trans ((xup_n _ _ (by omega)).trans h))) ?_
      exact xw_zret dX7_foldsOnItself_87 rfl rfl (by first | exact h1 ⟨h_66, by omega⟩ | exact h0 (fun h => by have := h.2; omega) | exact h0 (fun h => h_66 h.1))
  have hbv : ∀ e e2, (xup (xup f n e) (n + 1) e2) b = some (oSt kd mk wo pc ap ot) := fun e e2 => (xup_n _ _ (by omega)).trans ((xup_n _ _ (by omega)).trans hb)
  have hpv : ∀ e e2, (xup (xup f n e) (n + 1) e2) ap = some (aI 9 pt) := fun e e2 => (xup_n _ _ (by omega)).trans ((xup_n _ _ (by omega)).trans hp)
  have L : ∀ (m i : Nat), i + m = 3 → xw g M_X7_foldsOnItself Q 1 3 10 [(0, vR b), (1, vR n), (2, vR (n + 1)), (3, vI (i : Int))] [] (n + 2) (xup (xup f n (aL 3 (pf (bkv pt) i))) (n + 1) (aL 3 (pf (onv pt) i))) := by
    intro m
    induction m with
    | zero =>
      intro i hi
      have h3 : i = 3 := by omega
      subst h3
      refine xw_iload_n dX7_foldsOnItself_10 rfl ?_
      refine xw_iconst dX7_foldsOnItself_11 ?_
      refine xw_icmpge (tgt := 55) dX7_foldsOnItself_12 (by decide) (by unfold inI; omega) (by unfold inI; omega) (fun c_12 => ?_) (fun c_12 => ?_)
      · skip
        rw [xup_comm _ _ _ (by omega)]
        refine xw_cgL (c1 := bkv pt) (fun j hj => if_pos hj) ?_
        rw [xup_comm _ _ _ (by omega)]
        refine xw_cgL (c1 := onv pt) (fun j hj => if_pos hj) ?_
        exact xw_ls [(0, vR b), (1, vR n), (2, vR (n + 1))] ⟨rfl, rfl, rfl, trivial⟩ E
      · skip
        exfalso; omega
    | succ m ih =>
      intro i hi
      have q0 := hpt2 i (by omega)
      have q1 := hpt2 (3 + i) (by omega)
      have q2 := hpt2 (6 + i) (by omega)
      refine xw_iload_n dX7_foldsOnItself_10 rfl ?_
      refine xw_iconst dX7_foldsOnItself_11 ?_
      refine xw_icmpge (tgt := 55) dX7_foldsOnItself_12 (by decide) (by unfold inI; omega) (by unfold inI; omega) (fun c_12 => ?_) (fun c_12 => ?_)
      · skip
        exfalso; omega
      · skip
        refine xw_aload_n dX7_foldsOnItself_15 rfl ?_
        refine xw_iload_n dX7_foldsOnItself_16 rfl ?_
        refine xw_aload_n dX7_foldsOnItself_17 rfl ?_
        refine xw_iconst dX7_foldsOnItself_18 ?_
        refine xw_iload_n dX7_foldsOnItself_19 rfl ?_
        refine xw_callV (rc := 1) (rs := 3) (mc2 := 0) (ms2 := 0) (As := [vI ((0 : Nat) : Int), vI (i : Int)]) (st := [vI (i : Int), vR n]) dX7_foldsOnItself_20 mv_X7_54 (hbv _ _) rfl rfl (by decide) (by decide) (Nat.le_of_ble_eq_true rfl) rfl (ct_at (hbv _ _) (hpv _ _) (by omega) ?_)
        refine xw_aload_n dX7_foldsOnItself_23 rfl ?_
        refine xw_iconst dX7_foldsOnItself_24 ?_
        refine xw_iload_n dX7_foldsOnItself_25 rfl ?_
        refine xw_callV (rc := 1) (rs := 3) (mc2 := 0) (ms2 := 0) (As := [vI ((1 : Nat) : Int), vI (i : Int)]) (st := [vI (pt (3 * 0 + i)), vI (i : Int), vR n]) dX7_foldsOnItself_26 mv_X7_54 (hbv _ _) rfl rfl (by decide) (by decide) (Nat.le_of_ble_eq_true rfl) rfl (ct_at (hbv _ _) (hpv _ _) (by omega) ?_)
        refine xw_isub dX7_foldsOnItself_29 ?_
        refine xw_i2l dX7_foldsOnItself_30 (by have e9 : 3 * 0 + i = i := (by omega); have e8 : 3 * 1 + i = 3 + i := (by omega); rw [e9, e8]; unfold inI; omega) ?_
        refine xw_last (j := i) dX7_foldsOnItself_31 ((xup_n _ _ (by omega)).trans (xup_s _ _ _)) rfl (by omega) (by decide) ?_
        rw [xup_comm _ _ _ (show n + 1 ≠ n by omega), xup_up]
        refine xw_aload_n dX7_foldsOnItself_32 rfl ?_
        refine xw_iload_n dX7_foldsOnItself_33 rfl ?_
        refine xw_aload_n dX7_foldsOnItself_34 rfl ?_
        refine xw_iconst dX7_foldsOnItself_35 ?_
        refine xw_iload_n dX7_foldsOnItself_36 rfl ?_
        refine xw_callV (rc := 1) (rs := 3) (mc2 := 0) (ms2 := 0) (As := [vI ((2 : Nat) : Int), vI (i : Int)]) (st := [vI (i : Int), vR (n + 1)]) dX7_foldsOnItself_37 mv_X7_54 (hbv _ _) rfl rfl (by decide) (by decide) (Nat.le_of_ble_eq_true rfl) rfl (ct_at (hbv _ _) (hpv _ _) (by omega) ?_)
        refine xw_aload_n dX7_foldsOnItself_40 rfl ?_
        refine xw_iconst dX7_foldsOnItself_41 ?_
        refine xw_iload_n dX7_foldsOnItself_42 rfl ?_
        refine xw_callV (rc := 1) (rs := 3) (mc2 := 0) (ms2 := 0) (As := [vI ((1 : Nat) : Int), vI (i : Int)]) (st := [vI (pt (3 * 2 + i)), vI (i : Int), vR (n + 1)]) dX7_foldsOnItself_43 mv_X7_54 (hbv _ _) rfl rfl (by decide) (by decide) (Nat.le_of_ble_eq_true rfl) rfl (ct_at (hbv _ _) (hpv _ _) (by omega) ?_)
        refine xw_isub dX7_foldsOnItself_46 ?_
        refine xw_i2l dX7_foldsOnItself_47 (by have e9 : 3 * 2 + i = 6 + i := (by omega); have e8 : 3 * 1 + i = 3 + i := (by omega); rw [e9, e8]; unfold inI; omega) ?_
        refine xw_last (j := i) dX7_foldsOnItself_48 (xup_s _ _ _) rfl (by omega) (by decide) ?_
        rw [xup_up, xup_comm _ _ _ (show n ≠ n + 1 by omega)]
        refine xw_cgL (c1 := pf (bkv pt) (i + 1)) (fun j hj => pf_step (bkv pt) i j (by show _ = pt i - pt (3 + i); rw [show 3 * 0 + i = i by omega, show 3 * 1 + i = 3 + i by omega])) ?_
        rw [xup_comm _ _ _ (show n + 1 ≠ n by omega)]
        refine xw_cgL (c1 := pf (onv pt) (i + 1)) (fun j hj => pf_step (onv pt) i j (by show _ = pt (6 + i) - pt (3 + i); rw [show 3 * 2 + i = 6 + i by omega, show 3 * 1 + i = 3 + i by omega])) ?_
        refine xw_iinc dX7_foldsOnItself_49 rfl (by decide) ?_
        refine xw_goto (tgt := 10) dX7_foldsOnItself_52 (by decide) ?_
        exact xw_ls [(0, vR b), (1, vR n), (2, vR (n + 1)), (3, vI ((i + 1 : Nat) : Int))] ⟨rfl, rfl, rfl, rfl, trivial⟩ (ih (i + 1) (by omega))
  refine xw_iconst dX7_foldsOnItself_0 ?_
  refine xw_newa (rc := 2) (rs := 6) (N := 3) (t := 1) (c9 := .inr (.inl (fun _ => 0))) dX7_foldsOnItself_1 rfl rfl (fun D h => by cases h) ac_long rfl (by decide) (by decide) (fun B cA => rfl) ?_
  refine xw_astore_n dX7_foldsOnItself_3 (by decide) ?_
  refine xw_iconst dX7_foldsOnItself_4 ?_
  refine xw_newa (rc := 1) (rs := 3) (N := 3) (t := 1) (c9 := .inr (.inl (fun _ => 0))) dX7_foldsOnItself_5 rfl rfl (fun D h => by cases h) ac_long rfl (by decide) (by decide) (fun B cA => rfl) ?_
  refine xw_astore_n dX7_foldsOnItself_7 (by decide) ?_
  refine xw_iconst dX7_foldsOnItself_8 ?_
  refine xw_istore_n dX7_foldsOnItself_9 (by decide) ?_
  exact xw_ls [(0, vR b), (1, vR n), (2, vR (n + 1)), (3, vI ((0 : Nat) : Int))] ⟨rfl, rfl, rfl, rfl, trivial⟩ (L 3 0 rfl)
end C34
