/-! the model's vectors -/
section C78a
variable {g : xG} {y : xM} {Q : xP} {rc rs pc : Nat} {ls : xS} {st : List xV} {n : Nat} {f : xH}
theorem xw_reL {a t N : Nat} {c c1 : Nat → Int} (h : f a = some (.inl (t, N, .inr (.inl c)))) (hc9 : ∀ k, k < N → c k = c1 k) (k : xw g y Q rc rs pc ls st n (xup f a (.inl (t, N, .inr (.inl c1))))) : xw g y Q rc rs pc ls st n f := by
  have h1 := xw_cgL (f := f) (a := a) (t := t) hc9 k
  rw [xup_id h] at h1
  exact h1
theorem xw_reI {a t N : Nat} {c c1 : Nat → Int} (h : f a = some (.inl (t, N, .inl c))) (hc9 : ∀ k, k < N → c k = c1 k) (k : xw g y Q rc rs pc ls st n (xup f a (.inl (t, N, .inl c1)))) : xw g y Q rc rs pc ls st n f := by
  have h1 := xw_cgI (f := f) (a := a) (t := t) hc9 k
  rw [xup_id h] at h1
  exact h1
end C78a
def Ps (P : Nat → Int) (s : Nat) : Nat → Int := fun j => P (9 * s + j)
def pcz (z : Int) : Nat := if z = 1 then 2 else 1
theorem pcz_2 (z : Int) : pcz z ≤ 2 ∧ 1 ≤ pcz z := by unfold pcz; split <;> omega
def prtM (up low : Int) : Prop := (0 < low ∧ 0 ≤ up ∧ up ≤ low) ∨ (¬ 0 < low ∧ up ≤ 0 ∧ low ≤ up)
def ax1 (v : Nat → Int) : Nat := if v 0 ≠ 0 then 0 else if v 1 ≠ 0 then 1 else 2
def tchM (u v w : Nat → Int) : Prop := (z3 (cr u v) ∧ z3 (cr u w) ∧ 0 ≤ (if dt w u < dt w u + dt v u then dt w u + dt v u else dt w u) ∧ (if dt w u < dt w u + dt v u then dt w u else dt w u + dt v u) ≤ dt u u) ∨
  (¬ z3 (cr u v) ∧ de u v w = 0 ∧ prtM (cr w v (ax1 (cr u v))) (cr u v (ax1 (cr u v))) ∧ prtM (cr w u (ax1 (cr u v))) (cr u v (ax1 (cr u v))))
def tMS (K P : Nat → Int) (s o : Nat) : Prop := ∃ p q, p < pcz (K s) ∧ q < pcz (K o) ∧ tchM (dv (Ps P s) p) (dv (Ps P o) q) (gv (Ps P s) p (Ps P o) q)
def ltM (gn : Nat) (K P Z : Nat → Int) (s : Nat) (r : Int) : Prop := (r = -1 ∧ ∀ o, o < gn → Z o = 1 → o ≠ s → ¬ tMS K P s o) ∨ ∃ o : Nat, o < gn ∧ r = (o : Int) ∧ Z o = 1 ∧ o ≠ s ∧ tMS K P s o ∧ ∀ t, t < o → Z t = 1 → t ≠ s → ¬ tMS K P s t
abbrev vcS : List Nat := [48, 49, 50, 51]
section C78
variable {g : xG} {y : xM} {Q : xP} {n : Nat} {f : xH}
theorem ct_pieces {m K : Nat → Int} {s : Nat} (h38 : f 38 = some (oMd m)) (h43 : f 43 = some (aI 101 K)) (hs : s < 101) (hK : inI (K s)) (hq : Q (.inl (some (vI (pcz (K s) : Int)))) n f) : xct g M_X10_pieces 0 0 [vR 38, vI (s : Int)] n f Q := by
  refine xct_of rfl rfl (Nat.le_of_ble_eq_true rfl) ?_
  unfold pcz at hq
  refine xw_aload_n dX10_pieces_0 rfl ?_
  refine xw_getfield dX10_pieces_1 fl_X10_27 h38 rfl ?_
  refine xw_iload_n dX10_pieces_4 rfl ?_
  refine xw_iald dX10_pieces_5 h43 (j := s) rfl hs (by decide) ?_
  refine xw_iconst dX10_pieces_6 ?_
  refine xw_icmpne (tgt := 14) dX10_pieces_7 (by decide) (by first | assumption | (unfold inI; omega) | (unfold inI at *; omega)) (by first | assumption | (unfold inI; omega) | (unfold inI at *; omega)) (fun c_7 => ?_) (fun c_7 => ?_)
  · skip
    refine xw_iconst dX10_pieces_14 ?_
    exact xw_iret dX10_pieces_15 rfl (by first | (rw [if_pos (by omega)] at hq; exact hq) | (rw [if_neg (by omega)] at hq; exact hq))
  · skip
    refine xw_iconst dX10_pieces_10 ?_
    refine xw_goto (tgt := 15) dX10_pieces_11 (by decide) ?_
    exact xw_iret dX10_pieces_15 rfl (by first | (rw [if_pos (by omega)] at hq; exact hq) | (rw [if_neg (by omega)] at hq; exact hq))
theorem ct_mat {m P : Nat → Int} {s p a : Nat} (h38 : f 38 = some (oMd m)) (h46 : f 46 = some (aI 909 P)) (hs : 9 * s + (3 * p + a) < 909) (hq : Q (.inl (some (vI (P (9 * s + (3 * p + a)))))) n f) : xct g M_X10_at 0 0 [vR 38, vI (s : Int), vI (p : Int), vI (a : Int)] n f Q := by
  refine xct_of rfl rfl (Nat.le_of_ble_eq_true rfl) ?_
  refine xw_aload_n dX10_at_0 rfl ?_
  refine xw_getfield dX10_at_1 fl_X10_36 h38 rfl ?_
  refine xw_bipush (z := 9) dX10_at_4 (by decide) ?_
  refine xw_iload_n dX10_at_6 rfl ?_
  refine xw_imul dX10_at_7 ?_
  refine xw_iconst dX10_at_8 ?_
  refine xw_iload_n dX10_at_9 rfl ?_
  refine xw_imul dX10_at_10 ?_
  refine xw_iadd dX10_at_11 ?_
  refine xw_iload_n dX10_at_12 rfl ?_
  refine xw_iadd dX10_at_13 ?_
  refine xw_iald dX10_at_14 h46 (j := 9 * s + (3 * p + a)) (by omega) hs (by decide) ?_
  exact xw_iret dX10_at_15 rfl hq
set_option maxHeartbeats 4000000 in
theorem ct_setPieces {m P U V W D : Nat → Int} {s p o q : Nat} (h38 : f 38 = some (oMd m)) (h46 : f 46 = some (aI 909 P)) (h48 : f 48 = some (aL 3 U)) (h49 : f 49 = some (aL 3 V)) (h50 : f 50 = some (aL 3 W)) (h51 : f 51 = some (aL 3 D)) (hs : s < 101) (ho : o < 101) (hp : p < 2) (hq9 : q < 2) (hns : ∀ j, j < 9 → nr (P (9 * s + j))) (hno : ∀ j, j < 9 → nr (P (9 * o + j))) (hd : nb (m 13) 100 ∧ nb (m 14) 100 ∧ nb (m 15) 100)
    (hq : ∀ f1, fr vcS f f1 → f1 48 = some (aL 3 (dv (Ps P s) p)) → f1 49 = some (aL 3 (dv (Ps P o) q)) → f1 50 = some (aL 3 (gv (Ps P s) p (Ps P o) q)) → f1 51 = some (aL 3 (v3 (m 13) (m 14) (m 15))) → Q (.inl none) n f1) : xct g M_X10_setPieces 0 0 [vR 38, vI (s : Int), vI (p : Int), vI (o : Int), vI (q : Int)] n f Q := by
  refine xct_of rfl rfl (Nat.le_of_ble_eq_true rfl) ?_
  unfold nb at hd
  have L : ∀ (j t : Nat) (f1 : xH) (U1 V1 W1 : Nat → Int), t + j = 3 → fr vcS f f1 → f1 48 = some (aL 3 U1) → f1 49 = some (aL 3 V1) → f1 50 = some (aL 3 W1) → f1 51 = some (aL 3 D) → (∀ i, i < t → U1 i = dv (Ps P s) p i ∧ V1 i = dv (Ps P o) q i ∧ W1 i = gv (Ps P s) p (Ps P o) q i) → xw g M_X10_setPieces Q 0 0 3 [(0, vR 38), (1, vI (s : Int)), (2, vI (p : Int)), (3, vI (o : Int)), (4, vI (q : Int)), (5, vI (t : Int))] [] n f1 := by
    intro j
    induction j with
    | zero =>
      intro t f1 U1 V1 W1 ht9 hf e48 e49 e50 e51 hi
      have e38 : f1 38 = some (oMd m) := fr_at hf h38 (by decide)
      obtain rfl : t = 3 := by omega
      refine xw_reL e48 (c1 := dv (Ps P s) p) (fun k hk => (hi k hk).1) ?_
      refine xw_reL (a := 49) ((xup_n _ _ (by decide)).trans e49) (c1 := dv (Ps P o) q) (fun k hk => (hi k hk).2.1) ?_
      refine xw_reL (a := 50) ((xup_n _ _ (by decide)).trans ((xup_n _ _ (by decide)).trans e50)) (c1 := gv (Ps P s) p (Ps P o) q) (fun k hk => (hi k hk).2.2) ?_
      refine xw_iload dX10_setPieces_3 rfl ?_
      refine xw_iconst dX10_setPieces_5 ?_
      refine xw_icmpge (tgt := 97) dX10_setPieces_6 (by decide) (by first | assumption | (unfold inI; omega) | (unfold inI at *; omega)) (by first | assumption | (unfold inI; omega) | (unfold inI at *; omega)) (fun c_6 => ?_) (fun c_6 => ?_)
      · skip
        refine xw_aload_n dX10_setPieces_97 rfl ?_
        refine xw_getfield dX10_setPieces_98 fl_X10_55 e38 rfl ?_
        refine xw_iconst dX10_setPieces_101 ?_
        refine xw_aload_n dX10_setPieces_102 rfl ?_
        refine xw_getfield dX10_setPieces_103 fl_X10_155 e38 rfl ?_
        refine xw_i2l dX10_setPieces_106 (by show inI (m 13); unfold inI; omega) ?_
        refine xw_last dX10_setPieces_107 e51 (j := 0) rfl (by decide) (by decide) ?_
        refine xw_aload_n dX10_setPieces_108 rfl ?_
        refine xw_getfield dX10_setPieces_109 fl_X10_55 e38 rfl ?_
        refine xw_iconst dX10_setPieces_112 ?_
        refine xw_aload_n dX10_setPieces_113 rfl ?_
        refine xw_getfield dX10_setPieces_114 fl_X10_158 e38 rfl ?_
        refine xw_i2l dX10_setPieces_117 (by show inI (m 14); unfold inI; omega) ?_
        refine xw_last dX10_setPieces_118 rfl (j := 1) rfl (by decide) (by decide) ?_
        refine xw_aload_n dX10_setPieces_119 rfl ?_
        refine xw_getfield dX10_setPieces_120 fl_X10_55 e38 rfl ?_
        refine xw_iconst dX10_setPieces_123 ?_
        refine xw_aload_n dX10_setPieces_124 rfl ?_
        refine xw_getfield dX10_setPieces_125 fl_X10_43 e38 rfl ?_
        refine xw_i2l dX10_setPieces_128 (by show inI (m 15); unfold inI; omega) ?_
        refine xw_last dX10_setPieces_129 rfl (j := 2) rfl (by decide) (by decide) ?_
        refine xw_reL (a := 51) rfl (c1 := v3 (m 13) (m 14) (m 15)) (fun k hk => by rcases lt3 hk with rfl | rfl | rfl <;> rfl) ?_
        exact xw_vret dX10_setPieces_130 rfl (hq _ (fr_up (fr_up (fr_up (fr_up (fr_up (fr_up (fr_up hf (by decide)) (by decide)) (by decide)) (by decide)) (by decide)) (by decide)) (by decide)) rfl rfl rfl rfl)
      · skip
        exfalso; omega
    | succ j ih =>
      intro t f1 U1 V1 W1 ht9 hf e48 e49 e50 e51 hi
      have e38 : f1 38 = some (oMd m) := fr_at hf h38 (by decide)
      have e46 : f1 46 = some (aI 909 P) := fr_at hf h46 (by decide)
      have q1 := hns (3 * (p + 1) + t) (by omega)
      have q2 := hns (3 * p + t) (by omega)
      have q3 := hno (3 * (q + 1) + t) (by omega)
      have q4 := hno (3 * q + t) (by omega)
      unfold nr at q1 q2 q3 q4
      refine xw_iload dX10_setPieces_3 rfl ?_
      refine xw_iconst dX10_setPieces_5 ?_
      refine xw_icmpge (tgt := 97) dX10_setPieces_6 (by decide) (by first | assumption | (unfold inI; omega) | (unfold inI at *; omega)) (by first | assumption | (unfold inI; omega) | (unfold inI at *; omega)) (fun c_6 => ?_) (fun c_6 => ?_)
      · skip
        exfalso; omega
      · skip
        refine xw_aload_n dX10_setPieces_9 rfl ?_
        refine xw_getfield dX10_setPieces_10 fl_X10_46 e38 rfl ?_
        refine xw_iload dX10_setPieces_13 rfl ?_
        refine xw_aload_n dX10_setPieces_15 rfl ?_
        refine xw_iload_n dX10_setPieces_16 rfl ?_
        refine xw_iload_n dX10_setPieces_17 rfl ?_
        refine xw_iconst dX10_setPieces_18 ?_
        refine xw_iadd dX10_setPieces_19 ?_
        refine xw_iload dX10_setPieces_20 rfl ?_
        refine xw_callV (rc := 0) (rs := 0) (mc2 := 0) (ms2 := 0) (a := 38) (As := [vI (s : Int), vI ((p + 1 : Nat) : Int), vI (t : Int)]) (st := [vI (t : Int), vR 48]) dX10_setPieces_22 mv_X10_151 e38 rfl rfl (by decide) (by decide) (Nat.le_of_ble_eq_true rfl) rfl (ct_mat e38 e46 (by omega) ?_)
        refine xw_aload_n dX10_setPieces_25 rfl ?_
        refine xw_iload_n dX10_setPieces_26 rfl ?_
        refine xw_iload_n dX10_setPieces_27 rfl ?_
        refine xw_iload dX10_setPieces_28 rfl ?_
        refine xw_callV (rc := 0) (rs := 0) (mc2 := 0) (ms2 := 0) (a := 38) (As := [vI (s : Int), vI (p : Int), vI (t : Int)]) (st := [vI (P (9 * s + (3 * (p + 1) + t))), vI (t : Int), vR 48]) dX10_setPieces_30 mv_X10_151 e38 rfl rfl (by decide) (by decide) (Nat.le_of_ble_eq_true rfl) rfl (ct_mat e38 e46 (by omega) ?_)
        refine xw_isub dX10_setPieces_33 ?_
        refine xw_i2l dX10_setPieces_34 (by first | assumption | (unfold inI; omega) | (unfold inI at *; omega)) ?_
        refine xw_last dX10_setPieces_35 e48 (j := t) rfl (by omega) (by decide) ?_
        refine xw_aload_n dX10_setPieces_36 rfl ?_
        refine xw_getfield dX10_setPieces_37 fl_X10_49 e38 rfl ?_
        refine xw_iload dX10_setPieces_40 rfl ?_
        refine xw_aload_n dX10_setPieces_42 rfl ?_
        refine xw_iload_n dX10_setPieces_43 rfl ?_
        refine xw_iload dX10_setPieces_44 rfl ?_
        refine xw_iconst dX10_setPieces_46 ?_
        refine xw_iadd dX10_setPieces_47 ?_
        refine xw_iload dX10_setPieces_48 rfl ?_
        refine xw_callV (rc := 0) (rs := 0) (mc2 := 0) (ms2 := 0) (a := 38) (As := [vI (o : Int), vI ((q + 1 : Nat) : Int), vI (t : Int)]) (st := [vI (t : Int), vR 49]) dX10_setPieces_50 mv_X10_151 e38 rfl rfl (by decide) (by decide) (Nat.le_of_ble_eq_true rfl) rfl (ct_mat e38 e46 (by omega) ?_)
        refine xw_aload_n dX10_setPieces_53 rfl ?_
        refine xw_iload_n dX10_setPieces_54 rfl ?_
        refine xw_iload dX10_setPieces_55 rfl ?_
        refine xw_iload dX10_setPieces_57 rfl ?_
        refine xw_callV (rc := 0) (rs := 0) (mc2 := 0) (ms2 := 0) (a := 38) (As := [vI (o : Int), vI (q : Int), vI (t : Int)]) (st := [vI (P (9 * o + (3 * (q + 1) + t))), vI (t : Int), vR 49]) dX10_setPieces_59 mv_X10_151 e38 rfl rfl (by decide) (by decide) (Nat.le_of_ble_eq_true rfl) rfl (ct_mat e38 e46 (by omega) ?_)
        refine xw_isub dX10_setPieces_62 ?_
        refine xw_i2l dX10_setPieces_63 (by first | assumption | (unfold inI; omega) | (unfold inI at *; omega)) ?_
        refine xw_last dX10_setPieces_64 e49 (j := t) rfl (by omega) (by decide) ?_
        refine xw_aload_n dX10_setPieces_65 rfl ?_
        refine xw_getfield dX10_setPieces_66 fl_X10_52 e38 rfl ?_
        refine xw_iload dX10_setPieces_69 rfl ?_
        refine xw_aload_n dX10_setPieces_71 rfl ?_
        refine xw_iload_n dX10_setPieces_72 rfl ?_
        refine xw_iload dX10_setPieces_73 rfl ?_
        refine xw_iload dX10_setPieces_75 rfl ?_
        refine xw_callV (rc := 0) (rs := 0) (mc2 := 0) (ms2 := 0) (a := 38) (As := [vI (o : Int), vI (q : Int), vI (t : Int)]) (st := [vI (t : Int), vR 50]) dX10_setPieces_77 mv_X10_151 e38 rfl rfl (by decide) (by decide) (Nat.le_of_ble_eq_true rfl) rfl (ct_mat e38 e46 (by omega) ?_)
        refine xw_aload_n dX10_setPieces_80 rfl ?_
        refine xw_iload_n dX10_setPieces_81 rfl ?_
        refine xw_iload_n dX10_setPieces_82 rfl ?_
        refine xw_iload dX10_setPieces_83 rfl ?_
        refine xw_callV (rc := 0) (rs := 0) (mc2 := 0) (ms2 := 0) (a := 38) (As := [vI (s : Int), vI (p : Int), vI (t : Int)]) (st := [vI (P (9 * o + (3 * q + t))), vI (t : Int), vR 50]) dX10_setPieces_85 mv_X10_151 e38 rfl rfl (by decide) (by decide) (Nat.le_of_ble_eq_true rfl) rfl (ct_mat e38 e46 (by omega) ?_)
        refine xw_isub dX10_setPieces_88 ?_
        refine xw_i2l dX10_setPieces_89 (by first | assumption | (unfold inI; omega) | (unfold inI at *; omega)) ?_
        refine xw_last dX10_setPieces_90 e50 (j := t) rfl (by omega) (by decide) ?_
        refine xw_iinc dX10_setPieces_91 rfl (by decide) ?_
        refine xw_goto (tgt := 3) dX10_setPieces_94 (by decide) ?_
        exact xw_ls [(0, vR 38), (1, vI (s : Int)), (2, vI (p : Int)), (3, vI (o : Int)), (4, vI (q : Int)), (5, vI ((t + 1 : Nat) : Int))] ⟨rfl, rfl, rfl, rfl, rfl, rfl, trivial⟩ (ih (t + 1) _ _ _ _ (by omega) (fr_up (fr_up (fr_up hf (by decide)) (by decide)) (by decide)) rfl rfl rfl e51 (fun i hi9 => by
            by_cases e : i = t
            · subst e; rw [xui_s, xui_s, xui_s]; exact ⟨rfl, rfl, rfl⟩
            · rw [xui_n _ _ e, xui_n _ _ e, xui_n _ _ e]; exact hi i (by omega)))
  refine xw_iconst dX10_setPieces_0 ?_
  refine xw_istore dX10_setPieces_1 (by decide) ?_
  exact xw_ls [(0, vR 38), (1, vI (s : Int)), (2, vI (p : Int)), (3, vI (o : Int)), (4, vI (q : Int)), (5, vI ((0 : Nat) : Int))] ⟨rfl, rfl, rfl, rfl, rfl, rfl, trivial⟩ (L 3 0 f U V W (by omega) (fr_rf _ f) h48 h49 h50 h51 (fun i hi9 => absurd hi9 (Nat.not_lt_zero i)))
set_option maxHeartbeats 4000000 in
theorem ct_mcross {a b k : Nat} {va vb : Nat → Int} (ha : f a = some (aL 3 va)) (hb : f b = some (aL 3 vb)) (hk : k < 3) (hq : Q (.inl (some (vL (cr va vb k)))) n f) : xct g M_X10_cross 0 0 [vR a, vR b, vI (k : Int)] n f Q := by
  refine xct_of rfl rfl (Nat.le_of_ble_eq_true rfl) ?_
  rcases lt3 hk with rfl | rfl | rfl
  · skip
    refine xw_iload_n dX10_cross_0 rfl ?_
    refine xw_iconst dX10_cross_1 ?_
    refine xw_iadd dX10_cross_2 ?_
    refine xw_iconst dX10_cross_3 ?_
    refine xw_irem dX10_cross_4 (by first | assumption | (unfold inI; omega) | (unfold inI at *; omega)) (by first | assumption | (unfold inI; omega) | (unfold inI at *; omega)) (by omega) ?_
    refine xw_topi 1 (by decide) ?_
    refine xw_istore_n dX10_cross_5 (by decide) ?_
    refine xw_iload_n dX10_cross_6 rfl ?_
    refine xw_iconst dX10_cross_7 ?_
    refine xw_iadd dX10_cross_8 ?_
    refine xw_iconst dX10_cross_9 ?_
    refine xw_irem dX10_cross_10 (by first | assumption | (unfold inI; omega) | (unfold inI at *; omega)) (by first | assumption | (unfold inI; omega) | (unfold inI at *; omega)) (by omega) ?_
    refine xw_topi 2 (by decide) ?_
    refine xw_istore dX10_cross_11 (by decide) ?_
    refine xw_aload_n dX10_cross_13 rfl ?_
    refine xw_iload_n dX10_cross_14 rfl ?_
    refine xw_lald dX10_cross_15 ha (j := 1) rfl (by decide) (by decide) ?_
    refine xw_aload_n dX10_cross_16 rfl ?_
    refine xw_iload dX10_cross_17 rfl ?_
    refine xw_lald dX10_cross_19 hb (j := 2) rfl (by decide) (by decide) ?_
    refine xw_lmul dX10_cross_20 ?_
    refine xw_aload_n dX10_cross_21 rfl ?_
    refine xw_iload dX10_cross_22 rfl ?_
    refine xw_lald dX10_cross_24 ha (j := 2) rfl (by decide) (by decide) ?_
    refine xw_aload_n dX10_cross_25 rfl ?_
    refine xw_iload_n dX10_cross_26 rfl ?_
    refine xw_lald dX10_cross_27 hb (j := 1) rfl (by decide) (by decide) ?_
    refine xw_lmul dX10_cross_28 ?_
    refine xw_lsub dX10_cross_29 ?_
    exact xw_lret dX10_cross_30 rfl hq
  · skip
    refine xw_iload_n dX10_cross_0 rfl ?_
    refine xw_iconst dX10_cross_1 ?_
    refine xw_iadd dX10_cross_2 ?_
    refine xw_iconst dX10_cross_3 ?_
    refine xw_irem dX10_cross_4 (by first | assumption | (unfold inI; omega) | (unfold inI at *; omega)) (by first | assumption | (unfold inI; omega) | (unfold inI at *; omega)) (by omega) ?_
    refine xw_topi 2 (by decide) ?_
    refine xw_istore_n dX10_cross_5 (by decide) ?_
    refine xw_iload_n dX10_cross_6 rfl ?_
    refine xw_iconst dX10_cross_7 ?_
    refine xw_iadd dX10_cross_8 ?_
    refine xw_iconst dX10_cross_9 ?_
    refine xw_irem dX10_cross_10 (by first | assumption | (unfold inI; omega) | (unfold inI at *; omega)) (by first | assumption | (unfold inI; omega) | (unfold inI at *; omega)) (by omega) ?_
    refine xw_topi 0 (by decide) ?_
    refine xw_istore dX10_cross_11 (by decide) ?_
    refine xw_aload_n dX10_cross_13 rfl ?_
    refine xw_iload_n dX10_cross_14 rfl ?_
    refine xw_lald dX10_cross_15 ha (j := 2) rfl (by decide) (by decide) ?_
    refine xw_aload_n dX10_cross_16 rfl ?_
    refine xw_iload dX10_cross_17 rfl ?_
    refine xw_lald dX10_cross_19 hb (j := 0) rfl (by decide) (by decide) ?_
    refine xw_lmul dX10_cross_20 ?_
    refine xw_aload_n dX10_cross_21 rfl ?_
    refine xw_iload dX10_cross_22 rfl ?_
    refine xw_lald dX10_cross_24 ha (j := 0) rfl (by decide) (by decide) ?_
    refine xw_aload_n dX10_cross_25 rfl ?_
    refine xw_iload_n dX10_cross_26 rfl ?_
    refine xw_lald dX10_cross_27 hb (j := 2) rfl (by decide) (by decide) ?_
    refine xw_lmul dX10_cross_28 ?_
    refine xw_lsub dX10_cross_29 ?_
    exact xw_lret dX10_cross_30 rfl hq
  · skip
    refine xw_iload_n dX10_cross_0 rfl ?_
    refine xw_iconst dX10_cross_1 ?_
    refine xw_iadd dX10_cross_2 ?_
    refine xw_iconst dX10_cross_3 ?_
    refine xw_irem dX10_cross_4 (by first | assumption | (unfold inI; omega) | (unfold inI at *; omega)) (by first | assumption | (unfold inI; omega) | (unfold inI at *; omega)) (by omega) ?_
    refine xw_topi 0 (by decide) ?_
    refine xw_istore_n dX10_cross_5 (by decide) ?_
    refine xw_iload_n dX10_cross_6 rfl ?_
    refine xw_iconst dX10_cross_7 ?_
    refine xw_iadd dX10_cross_8 ?_
    refine xw_iconst dX10_cross_9 ?_
    refine xw_irem dX10_cross_10 (by first | assumption | (unfold inI; omega) | (unfold inI at *; omega)) (by first | assumption | (unfold inI; omega) | (unfold inI at *; omega)) (by omega) ?_
    refine xw_topi 1 (by decide) ?_
    refine xw_istore dX10_cross_11 (by decide) ?_
    refine xw_aload_n dX10_cross_13 rfl ?_
    refine xw_iload_n dX10_cross_14 rfl ?_
    refine xw_lald dX10_cross_15 ha (j := 0) rfl (by decide) (by decide) ?_
    refine xw_aload_n dX10_cross_16 rfl ?_
    refine xw_iload dX10_cross_17 rfl ?_
    refine xw_lald dX10_cross_19 hb (j := 1) rfl (by decide) (by decide) ?_
    refine xw_lmul dX10_cross_20 ?_
    refine xw_aload_n dX10_cross_21 rfl ?_
    refine xw_iload dX10_cross_22 rfl ?_
    refine xw_lald dX10_cross_24 ha (j := 1) rfl (by decide) (by decide) ?_
    refine xw_aload_n dX10_cross_25 rfl ?_
    refine xw_iload_n dX10_cross_26 rfl ?_
    refine xw_lald dX10_cross_27 hb (j := 0) rfl (by decide) (by decide) ?_
    refine xw_lmul dX10_cross_28 ?_
    refine xw_lsub dX10_cross_29 ?_
    exact xw_lret dX10_cross_30 rfl hq
set_option maxHeartbeats 4000000 in
theorem ct_mdet {a b c : Nat} {va vb vc : Nat → Int} (ha : f a = some (aL 3 va)) (hb : f b = some (aL 3 vb)) (hc9 : f c = some (aL 3 vc)) (hq : Q (.inl (some (vL (de va vb vc)))) n f) : xct g M_X10_determinant 0 0 [vR a, vR b, vR c] n f Q := by
  refine xct_of rfl rfl (Nat.le_of_ble_eq_true rfl) ?_
  refine xw_aload_n dX10_determinant_0 rfl ?_
  refine xw_iconst dX10_determinant_1 ?_
  refine xw_lald dX10_determinant_2 ha (j := 0) rfl (by decide) (by decide) ?_
  refine xw_aload_n dX10_determinant_3 rfl ?_
  refine xw_aload_n dX10_determinant_4 rfl ?_
  refine xw_iconst dX10_determinant_5 ?_
  refine xw_callS (rc := 0) (rs := 0) (mc2 := 0) (ms2 := 0) (As := [vR b, vR c, vI ((0 : Nat) : Int)]) (st := [vL (va 0)]) dX10_determinant_6 ms_X10_161 rfl (by decide) (by decide) (Nat.le_of_ble_eq_true rfl) rfl (ct_mcross hb hc9 (by decide) ?_)
  refine xw_lmul dX10_determinant_9 ?_
  refine xw_aload_n dX10_determinant_10 rfl ?_
  refine xw_iconst dX10_determinant_11 ?_
  refine xw_lald dX10_determinant_12 ha (j := 1) rfl (by decide) (by decide) ?_
  refine xw_aload_n dX10_determinant_13 rfl ?_
  refine xw_aload_n dX10_determinant_14 rfl ?_
  refine xw_iconst dX10_determinant_15 ?_
  refine xw_callS (rc := 0) (rs := 0) (mc2 := 0) (ms2 := 0) (As := [vR b, vR c, vI ((1 : Nat) : Int)]) (st := [vL (va 1), vL (va 0 * cr vb vc 0)]) dX10_determinant_16 ms_X10_161 rfl (by decide) (by decide) (Nat.le_of_ble_eq_true rfl) rfl (ct_mcross hb hc9 (by decide) ?_)
  refine xw_lmul dX10_determinant_19 ?_
  refine xw_ladd dX10_determinant_20 ?_
  refine xw_aload_n dX10_determinant_21 rfl ?_
  refine xw_iconst dX10_determinant_22 ?_
  refine xw_lald dX10_determinant_23 ha (j := 2) rfl (by decide) (by decide) ?_
  refine xw_aload_n dX10_determinant_24 rfl ?_
  refine xw_aload_n dX10_determinant_25 rfl ?_
  refine xw_iconst dX10_determinant_26 ?_
  refine xw_callS (rc := 0) (rs := 0) (mc2 := 0) (ms2 := 0) (As := [vR b, vR c, vI ((2 : Nat) : Int)]) (st := [vL (va 2), vL (va 0 * cr vb vc 0 + va 1 * cr vb vc 1)]) dX10_determinant_27 ms_X10_161 rfl (by decide) (by decide) (Nat.le_of_ble_eq_true rfl) rfl (ct_mcross hb hc9 (by decide) ?_)
  refine xw_lmul dX10_determinant_30 ?_
  refine xw_ladd dX10_determinant_31 ?_
  exact xw_lret dX10_determinant_32 rfl hq
set_option maxHeartbeats 4000000 in
theorem ct_mdot {a b : Nat} {va vb : Nat → Int} (ha : f a = some (aL 3 va)) (hb : f b = some (aL 3 vb)) (hq : Q (.inl (some (vL (dt va vb)))) n f) : xct g M_X10_dot 0 0 [vR a, vR b] n f Q := by
  refine xct_of rfl rfl (Nat.le_of_ble_eq_true rfl) ?_
  refine xw_aload_n dX10_dot_0 rfl ?_
  refine xw_iconst dX10_dot_1 ?_
  refine xw_lald dX10_dot_2 ha (j := 0) rfl (by decide) (by decide) ?_
  refine xw_aload_n dX10_dot_3 rfl ?_
  refine xw_iconst dX10_dot_4 ?_
  refine xw_lald dX10_dot_5 hb (j := 0) rfl (by decide) (by decide) ?_
  refine xw_lmul dX10_dot_6 ?_
  refine xw_aload_n dX10_dot_7 rfl ?_
  refine xw_iconst dX10_dot_8 ?_
  refine xw_lald dX10_dot_9 ha (j := 1) rfl (by decide) (by decide) ?_
  refine xw_aload_n dX10_dot_10 rfl ?_
  refine xw_iconst dX10_dot_11 ?_
  refine xw_lald dX10_dot_12 hb (j := 1) rfl (by decide) (by decide) ?_
  refine xw_lmul dX10_dot_13 ?_
  refine xw_ladd dX10_dot_14 ?_
  refine xw_aload_n dX10_dot_15 rfl ?_
  refine xw_iconst dX10_dot_16 ?_
  refine xw_lald dX10_dot_17 ha (j := 2) rfl (by decide) (by decide) ?_
  refine xw_aload_n dX10_dot_18 rfl ?_
  refine xw_iconst dX10_dot_19 ?_
  refine xw_lald dX10_dot_20 hb (j := 2) rfl (by decide) (by decide) ?_
  refine xw_lmul dX10_dot_21 ?_
  refine xw_ladd dX10_dot_22 ?_
  exact xw_lret dX10_dot_23 rfl hq
set_option maxHeartbeats 4000000 in
theorem ct_isAlong {a b : Nat} {va vb : Nat → Int} (ha : f a = some (aL 3 va)) (hb : f b = some (aL 3 vb)) (hi : in3 (cr va vb)) (h1 : z3 (cr va vb) → Q (.inl (some (vI 1))) n f) (h2 : ¬ z3 (cr va vb) → Q (.inl (some (vI 0))) n f) : xct g M_X10_isAlong 0 0 [vR a, vR b] n f Q := by
  refine xct_of rfl rfl (Nat.le_of_ble_eq_true rfl) ?_
  refine xw_aload_n dX10_isAlong_0 rfl ?_
  refine xw_aload_n dX10_isAlong_1 rfl ?_
  refine xw_iconst dX10_isAlong_2 ?_
  refine xw_callS (rc := 0) (rs := 0) (mc2 := 0) (ms2 := 0) (As := [vR a, vR b, vI ((0 : Nat) : Int)]) (st := []) dX10_isAlong_3 ms_X10_161 rfl (by decide) (by decide) (Nat.le_of_ble_eq_true rfl) rfl (ct_mcross ha hb (by decide) ?_)
  refine xw_lconst (z := 0) dX10_isAlong_6 (by decide) ?_
  refine xw_lcmpne (tgt := 37) dX10_isAlong_7 dX10_isAlong_8 (by decide) hi.1 (by unfold inL; omega) (fun c_7 => ?_) (fun c_7 => ?_)
  · skip
    refine xw_iconst dX10_isAlong_37 ?_
    exact xw_zret dX10_isAlong_38 rfl rfl (by first | exact h1 ⟨c_7, c_18, c_29⟩ | exact h2 (fun q => c_29 q.2.2) | exact h2 (fun q => c_18 q.2.1) | exact h2 (fun q => c_7 q.1))
  · skip
    refine xw_aload_n dX10_isAlong_11 rfl ?_
    refine xw_aload_n dX10_isAlong_12 rfl ?_
    refine xw_iconst dX10_isAlong_13 ?_
    refine xw_callS (rc := 0) (rs := 0) (mc2 := 0) (ms2 := 0) (As := [vR a, vR b, vI ((1 : Nat) : Int)]) (st := []) dX10_isAlong_14 ms_X10_161 rfl (by decide) (by decide) (Nat.le_of_ble_eq_true rfl) rfl (ct_mcross ha hb (by decide) ?_)
    refine xw_lconst (z := 0) dX10_isAlong_17 (by decide) ?_
    refine xw_lcmpne (tgt := 37) dX10_isAlong_18 dX10_isAlong_19 (by decide) hi.2.1 (by unfold inL; omega) (fun c_18 => ?_) (fun c_18 => ?_)
    · skip
      refine xw_iconst dX10_isAlong_37 ?_
      exact xw_zret dX10_isAlong_38 rfl rfl (by first | exact h1 ⟨c_7, c_18, c_29⟩ | exact h2 (fun q => c_29 q.2.2) | exact h2 (fun q => c_18 q.2.1) | exact h2 (fun q => c_7 q.1))
    · skip
      refine xw_aload_n dX10_isAlong_22 rfl ?_
      refine xw_aload_n dX10_isAlong_23 rfl ?_
      refine xw_iconst dX10_isAlong_24 ?_
      refine xw_callS (rc := 0) (rs := 0) (mc2 := 0) (ms2 := 0) (As := [vR a, vR b, vI ((2 : Nat) : Int)]) (st := []) dX10_isAlong_25 ms_X10_161 rfl (by decide) (by decide) (Nat.le_of_ble_eq_true rfl) rfl (ct_mcross ha hb (by decide) ?_)
      refine xw_lconst (z := 0) dX10_isAlong_28 (by decide) ?_
      refine xw_lcmpne (tgt := 37) dX10_isAlong_29 dX10_isAlong_30 (by decide) hi.2.2 (by unfold inL; omega) (fun c_29 => ?_) (fun c_29 => ?_)
      · skip
        refine xw_iconst dX10_isAlong_37 ?_
        exact xw_zret dX10_isAlong_38 rfl rfl (by first | exact h1 ⟨c_7, c_18, c_29⟩ | exact h2 (fun q => c_29 q.2.2) | exact h2 (fun q => c_18 q.2.1) | exact h2 (fun q => c_7 q.1))
      · skip
        refine xw_iconst dX10_isAlong_33 ?_
        refine xw_goto (tgt := 38) dX10_isAlong_34 (by decide) ?_
        exact xw_zret dX10_isAlong_38 rfl rfl (by first | exact h1 ⟨c_7, c_18, c_29⟩ | exact h2 (fun q => c_29 q.2.2) | exact h2 (fun q => c_18 q.2.1) | exact h2 (fun q => c_7 q.1))
set_option maxHeartbeats 4000000 in
theorem ct_mPart {a b : Int} (ha : inL a) (hb : inL b) (h1 : prtM a b → Q (.inl (some (vI 1))) n f) (h2 : ¬ prtM a b → Q (.inl (some (vI 0))) n f) : xct g M_X10_isPart 0 0 [vL a, vL b] n f Q := by
  refine xct_of rfl rfl (Nat.le_of_ble_eq_true rfl) ?_
  unfold prtM at h1 h2
  refine xw_lload_n dX10_isPart_0 rfl ?_
  refine xw_lconst (z := 0) dX10_isPart_1 (by decide) ?_
  refine xw_lcmple (tgt := 26) dX10_isPart_2 dX10_isPart_3 (by decide) (by first | assumption | (unfold inL; omega) | (unfold inL at *; omega)) (by first | assumption | (unfold inL; omega) | (unfold inL at *; omega)) (fun c_2 => ?_) (fun c_2 => ?_)
  · skip
    refine xw_lload_n dX10_isPart_26 rfl ?_
    refine xw_lconst (z := 0) dX10_isPart_27 (by decide) ?_
    refine xw_lcmpgt (tgt := 42) dX10_isPart_28 dX10_isPart_29 (by decide) (by first | assumption | (unfold inL; omega) | (unfold inL at *; omega)) (by first | assumption | (unfold inL; omega) | (unfold inL at *; omega)) (fun c_28 => ?_) (fun c_28 => ?_)
    · skip
      refine xw_iconst dX10_isPart_42 ?_
      exact xw_zret dX10_isPart_43 rfl rfl (by first | exact h1 (by omega) | exact h2 (by omega))
    · skip
      refine xw_lload_n dX10_isPart_32 rfl ?_
      refine xw_lload_n dX10_isPart_33 rfl ?_
      refine xw_lcmplt (tgt := 42) dX10_isPart_34 dX10_isPart_35 (by decide) (by first | assumption | (unfold inL; omega) | (unfold inL at *; omega)) (by first | assumption | (unfold inL; omega) | (unfold inL at *; omega)) (fun c_34 => ?_) (fun c_34 => ?_)
      · skip
        refine xw_iconst dX10_isPart_42 ?_
        exact xw_zret dX10_isPart_43 rfl rfl (by first | exact h1 (by omega) | exact h2 (by omega))
      · skip
        refine xw_iconst dX10_isPart_38 ?_
        refine xw_goto (tgt := 43) dX10_isPart_39 (by decide) ?_
        exact xw_zret dX10_isPart_43 rfl rfl (by first | exact h1 (by omega) | exact h2 (by omega))
  · skip
    refine xw_lload_n dX10_isPart_6 rfl ?_
    refine xw_lconst (z := 0) dX10_isPart_7 (by decide) ?_
    refine xw_lcmplt (tgt := 22) dX10_isPart_8 dX10_isPart_9 (by decide) (by first | assumption | (unfold inL; omega) | (unfold inL at *; omega)) (by first | assumption | (unfold inL; omega) | (unfold inL at *; omega)) (fun c_8 => ?_) (fun c_8 => ?_)
    · skip
      refine xw_iconst dX10_isPart_22 ?_
      refine xw_goto (tgt := 43) dX10_isPart_23 (by decide) ?_
      exact xw_zret dX10_isPart_43 rfl rfl (by first | exact h1 (by omega) | exact h2 (by omega))
    · skip
      refine xw_lload_n dX10_isPart_12 rfl ?_
      refine xw_lload_n dX10_isPart_13 rfl ?_
      refine xw_lcmpgt (tgt := 22) dX10_isPart_14 dX10_isPart_15 (by decide) (by first | assumption | (unfold inL; omega) | (unfold inL at *; omega)) (by first | assumption | (unfold inL; omega) | (unfold inL at *; omega)) (fun c_14 => ?_) (fun c_14 => ?_)
      · skip
        refine xw_iconst dX10_isPart_22 ?_
        refine xw_goto (tgt := 43) dX10_isPart_23 (by decide) ?_
        exact xw_zret dX10_isPart_43 rfl rfl (by first | exact h1 (by omega) | exact h2 (by omega))
      · skip
        refine xw_iconst dX10_isPart_18 ?_
        refine xw_goto (tgt := 43) dX10_isPart_19 (by decide) ?_
        exact xw_zret dX10_isPart_43 rfl rfl (by first | exact h1 (by omega) | exact h2 (by omega))
set_option maxHeartbeats 4000000 in
theorem ct_axisOf {a : Nat} {va : Nat → Int} (ha : f a = some (aL 3 va)) (hi : in3 va) (h1 : z3 va → Q (.inl (some (vI (-1)))) n f) (h2 : ¬ z3 va → Q (.inl (some (vI (ax1 va : Int)))) n f) : xct g M_X10_axisOf 0 0 [vR a] n f Q := by
  refine xct_of rfl rfl (Nat.le_of_ble_eq_true rfl) ?_
  unfold ax1 at h2
  obtain ⟨i0, i1, i2⟩ := hi
  refine xw_aload_n dX10_axisOf_0 rfl ?_
  refine xw_iconst dX10_axisOf_1 ?_
  refine xw_lald dX10_axisOf_2 ha (j := 0) rfl (by decide) (by decide) ?_
  refine xw_lconst (z := 0) dX10_axisOf_3 (by decide) ?_
  refine xw_lcmpeq (tgt := 12) dX10_axisOf_4 dX10_axisOf_5 (by decide) i0 (by unfold inL; omega) (fun c_4 => ?_) (fun c_4 => ?_)
  · skip
    refine xw_aload_n dX10_axisOf_12 rfl ?_
    refine xw_iconst dX10_axisOf_13 ?_
    refine xw_lald dX10_axisOf_14 ha (j := 1) rfl (by decide) (by decide) ?_
    refine xw_lconst (z := 0) dX10_axisOf_15 (by decide) ?_
    refine xw_lcmpeq (tgt := 24) dX10_axisOf_16 dX10_axisOf_17 (by decide) i1 (by unfold inL; omega) (fun c_16 => ?_) (fun c_16 => ?_)
    · skip
      refine xw_aload_n dX10_axisOf_24 rfl ?_
      refine xw_iconst dX10_axisOf_25 ?_
      refine xw_lald dX10_axisOf_26 ha (j := 2) rfl (by decide) (by decide) ?_
      refine xw_lconst (z := 0) dX10_axisOf_27 (by decide) ?_
      refine xw_lcmpeq (tgt := 36) dX10_axisOf_28 dX10_axisOf_29 (by decide) i2 (by unfold inL; omega) (fun c_28 => ?_) (fun c_28 => ?_)
      · skip
        refine xw_iconst dX10_axisOf_36 ?_
        exact xw_iret dX10_axisOf_37 rfl (by first | exact h1 ⟨c_4, c_16, c_28⟩ | (have q := h2 (fun q => c_4 q.1); rw [if_pos c_4] at q; exact q) | (have q := h2 (fun q => c_16 q.2.1); rw [if_neg (fun k => k c_4), if_pos c_16] at q; exact q) | (have q := h2 (fun q => c_28 q.2.2); rw [if_neg (fun k => k c_4), if_neg (fun k => k c_16)] at q; exact q))
      · skip
        refine xw_iconst dX10_axisOf_32 ?_
        refine xw_goto (tgt := 37) dX10_axisOf_33 (by decide) ?_
        exact xw_iret dX10_axisOf_37 rfl (by first | exact h1 ⟨c_4, c_16, c_28⟩ | (have q := h2 (fun q => c_4 q.1); rw [if_pos c_4] at q; exact q) | (have q := h2 (fun q => c_16 q.2.1); rw [if_neg (fun k => k c_4), if_pos c_16] at q; exact q) | (have q := h2 (fun q => c_28 q.2.2); rw [if_neg (fun k => k c_4), if_neg (fun k => k c_16)] at q; exact q))
    · skip
      refine xw_iconst dX10_axisOf_20 ?_
      refine xw_goto (tgt := 37) dX10_axisOf_21 (by decide) ?_
      exact xw_iret dX10_axisOf_37 rfl (by first | exact h1 ⟨c_4, c_16, c_28⟩ | (have q := h2 (fun q => c_4 q.1); rw [if_pos c_4] at q; exact q) | (have q := h2 (fun q => c_16 q.2.1); rw [if_neg (fun k => k c_4), if_pos c_16] at q; exact q) | (have q := h2 (fun q => c_28 q.2.2); rw [if_neg (fun k => k c_4), if_neg (fun k => k c_16)] at q; exact q))
  · skip
    refine xw_iconst dX10_axisOf_8 ?_
    refine xw_goto (tgt := 37) dX10_axisOf_9 (by decide) ?_
    exact xw_iret dX10_axisOf_37 rfl (by first | exact h1 ⟨c_4, c_16, c_28⟩ | (have q := h2 (fun q => c_4 q.1); rw [if_pos c_4] at q; exact q) | (have q := h2 (fun q => c_16 q.2.1); rw [if_neg (fun k => k c_4), if_pos c_16] at q; exact q) | (have q := h2 (fun q => c_28 q.2.2); rw [if_neg (fun k => k c_4), if_neg (fun k => k c_16)] at q; exact q))
end C78
