/-! the model: sets of sticks -/
theorem cnt_12 (x : Nat) (k : Nat) : cnt x k ≤ k := cnt_le x k
theorem bit01 (s k : Nat) : s / 2 ^ k % 2 = (if s.testBit k = true then 1 else 0) := by
  by_cases h : s.testBit k = true
  · rw [if_pos h]
    have : ¬ s / 2 ^ k % 2 = 0 := fun e => by rw [xb_t.1 e] at h; cases h
    omega
  · rw [if_neg h]
    exact xb_t.2 (by cases e : s.testBit k; rfl; exact absurd e h)
theorem and_1 (x : Nat) : x &&& 1 = x % 2 := Nat.and_one_is_mod x
def inF (F : xH) (h : Nat) (N hp : Nat → Nat) : Prop := ∃ ik, F 75 = some (aI 40 ik) ∧ ∀ j, j < h → ik j = (N (hp j) : Int)
theorem inF_fr {F F1 : xH} {h : Nat} {N hp : Nat → Nat} (h1 : inF F h N hp) (hf : F1 75 = F 75) : inF F1 h N hp := by obtain ⟨on, a, b⟩ := h1; exact ⟨on, hf.trans a, b⟩
def incL (L : Nat → Nat) (n sz : Nat) : Prop := (∀ a b, a < b → b < n → L a < L b) ∧ ∀ a, a < n → L a < sz
theorem incL_ge {L : Nat → Nat} {n sz : Nat} (h : incL L n sz) : ∀ c, c < n → c ≤ L c := by
  intro c
  induction c with
  | zero => intro _; exact Nat.zero_le _
  | succ c ih =>
    intro hc9
    have a := ih (by omega)
    have b := h.1 c (c + 1) (by omega) hc9
    omega
theorem incL_up {L : Nat → Nat} {n sz : Nat} (h : incL L n sz) : ∀ t c, c + t + 1 = n → L c + t < sz := by
  intro t
  induction t with
  | zero => intro c hc9; exact h.2 c (by omega)
  | succ t ih =>
    intro c hc9
    have a := ih (c + 1) (by omega)
    have b := h.1 c (c + 1) (by omega) (by omega)
    omega
theorem incL_n {L : Nat → Nat} {n sz p : Nat} (h : incL L n sz) (hp : p < sz) (hn : ∀ c, c < n → L c ≠ p) : n < sz := by
  refine Nat.lt_of_not_le (fun k => ?_)
  have a := incL_ge h p (by omega)
  have b := incL_up h (n - 1 - p) p (by omega)
  exact hn p (by omega) (by omega)
def fwF (F : xH) (n : Nat) (N L : Nat → Nat) : Prop := ∃ fa, F 76 = some (aI 40 fa) ∧ ∀ c, c < n → fa c = (N (L c) : Int)
section C9g
variable {g : xG} {y : xM} {Q : xP} {n : Nat} {f : xH} {gn : Nat} {σ : Nat → xSt} {m : Nat → Int} {sz : Nat} {N : Nat → Nat} {B : Nat → Nat → Prop}
set_option maxHeartbeats 4000000 in
theorem ct_size {s : Nat} (hs : s < 4096) (hq : Q (.inl (some (vI ((cnt s 12 : Nat) : Int)))) n f) : xct g M_X10_size 0 0 [vI (s : Int)] n f Q := by
  refine xct_of rfl rfl (Nat.le_of_ble_eq_true rfl) ?_
  have L : ∀ (t k : Nat), k + t = 12 → xw g M_X10_size Q 0 0 4 [(0, vI (s : Int)), (1, vI ((cnt s k : Nat) : Int)), (2, vI (k : Int))] [] n f := by
    intro t
    induction t with
    | zero =>
      intro k hk
      obtain rfl : k = 12 := by omega
      refine xw_iload_n dX10_size_4 rfl ?_
      refine xw_bipush (z := 12) dX10_size_5 (by decide) ?_
      refine xw_icmpge (tgt := 24) dX10_size_7 (by decide) (by first | assumption | (unfold inI; omega) | (unfold inI at *; omega)) (by first | assumption | (unfold inI; omega) | (unfold inI at *; omega)) (fun c_7 => ?_) (fun c_7 => ?_)
      · skip
        refine xw_iload_n dX10_size_24 rfl ?_
        exact xw_iret dX10_size_25 rfl hq
      · skip
        exfalso; omega
    | succ t ih =>
      intro k hk
      have hb := cnt_le s k
      have hd : s / 2 ^ k ≤ s := Nat.div_le_self _ _
      refine xw_iload_n dX10_size_4 rfl ?_
      refine xw_bipush (z := 12) dX10_size_5 (by decide) ?_
      refine xw_icmpge (tgt := 24) dX10_size_7 (by decide) (by first | assumption | (unfold inI; omega) | (unfold inI at *; omega)) (by first | assumption | (unfold inI; omega) | (unfold inI at *; omega)) (fun c_7 => ?_) (fun c_7 => ?_)
      · skip
        exfalso; omega
      · skip
        refine xw_iload_n dX10_size_10 rfl ?_
        refine xw_iload_n dX10_size_11 rfl ?_
        refine xw_iload_n dX10_size_12 rfl ?_
        refine xw_ishr dX10_size_13 (xb_shrI (by omega) (by omega)) ?_
        refine xw_iconst dX10_size_14 ?_
        refine xw_iand dX10_size_15 (xb_andI (b := 1) (by omega) (by decide)) ?_
        refine xw_topi ((if s.testBit k = true then 1 else 0 : Nat) : Int) (by rw [and_1, bit01]) ?_
        refine xw_iadd dX10_size_16 ?_
        refine xw_topi ((cnt s (k + 1) : Nat) : Int) (Int.natCast_add _ _).symm ?_
        refine xw_istore_n dX10_size_17 (by decide) ?_
        refine xw_iinc dX10_size_18 rfl (by decide) ?_
        refine xw_goto (tgt := 4) dX10_size_21 (by decide) ?_
        exact xw_ls [(0, vI (s : Int)), (1, vI ((cnt s (k + 1) : Nat) : Int)), (2, vI ((k + 1 : Nat) : Int))] ⟨rfl, rfl, rfl, trivial⟩ (ih (k + 1) (by omega))
  refine xw_iconst dX10_size_0 ?_
  refine xw_istore_n dX10_size_1 (by decide) ?_
  refine xw_iconst dX10_size_2 ?_
  refine xw_istore_n dX10_size_3 (by decide) ?_
  exact xw_ls [(0, vI (s : Int)), (1, vI ((cnt s 0 : Nat) : Int)), (2, vI ((0 : Nat) : Int))] ⟨rfl, rfl, rfl, trivial⟩ (L 12 0 (by omega))
set_option maxHeartbeats 4000000 in
theorem ct_isAhead {a b : Nat} (ha : a < 4096) (hb : b < 4096) (h1 : ahn a b ≠ 0 → Q (.inl (some (vI 1))) n f) (h0 : ahn a b = 0 → Q (.inl (some (vI 0))) n f) : xct g M_X10_isAhead 0 0 [vI (a : Int), vI (b : Int)] n f Q := by
  refine xct_of rfl rfl (Nat.le_of_ble_eq_true rfl) ?_
  have hx : a ^^^ b < 2 ^ 12 := Nat.xor_lt_two_pow (n := 12) ha hb
  have hx2 : a ^^^ b < 4096 := hx
  have hah : ahn a b < 4096 := by
    unfold ahn
    split
    · decide
    · exact Nat.lt_of_le_of_lt (xdf_le _ _) (Nat.and_lt_two_pow _ hx)
  refine xw_iload_n dX10_isAhead_0 rfl ?_
  refine xw_iload_n dX10_isAhead_1 rfl ?_
  refine xw_ixor dX10_isAhead_2 (xb_xorI (by omega) (by omega)) ?_
  refine xw_istore_n dX10_isAhead_3 (by decide) ?_
  refine xw_iload_n dX10_isAhead_4 rfl ?_
  refine xw_iload_n dX10_isAhead_5 rfl ?_
  refine xw_iand dX10_isAhead_6 (xb_andI (by omega) (by omega)) ?_
  refine xw_iload_n dX10_isAhead_7 rfl ?_
  refine xw_ineg dX10_isAhead_8 ?_
  refine xw_iand dX10_isAhead_9 (xb_ahn ha hb) ?_
  refine xw_ifeq (tgt := 17) dX10_isAhead_10 (by decide) (by first | assumption | (unfold inI; omega) | (unfold inI at *; omega)) (fun c_10 => ?_) (fun c_10 => ?_)
  · skip
    refine xw_iconst dX10_isAhead_17 ?_
    exact xw_zret dX10_isAhead_18 rfl rfl (by first | exact h0 (by omega) | exact h1 (by omega))
  · skip
    refine xw_iconst dX10_isAhead_13 ?_
    refine xw_goto (tgt := 18) dX10_isAhead_14 (by decide) ?_
    exact xw_zret dX10_isAhead_18 rfl rfl (by first | exact h0 (by omega) | exact h1 (by omega))
set_option maxHeartbeats 4000000 in
theorem ct_worthOf {s h : Nat} {hp : Nat → Nat} {W wo : Nat → Int} (h38 : f 38 = some (oMd m)) (m56 : m 56 = (h : Int)) (hin : inF f h N hp) (h45 : f 45 = some (aI 101 W)) (hW : ∀ j, j < h → W (N (hp j)) = wo (hp j) ∧ N (hp j) < 100 ∧ 0 ≤ wo (hp j) ∧ wo (hp j) ≤ 100) (hh : h ≤ 12) (hs : s < 4096) (hq : Q (.inl (some (vI (wsm (fun j => wo (hp j)) s h)))) n f) : xct g M_X10_worthOf 0 0 [vR 38, vI (s : Int)] n f Q := by
  refine xct_of rfl rfl (Nat.le_of_ble_eq_true rfl) ?_
  obtain ⟨ik, h75, hi9⟩ := hin
  have L : ∀ (t k : Nat), k + t = h → xw g M_X10_worthOf Q 0 0 4 [(0, vR 38), (1, vI (s : Int)), (2, vI (wsm (fun j => wo (hp j)) s k)), (3, vI (k : Int))] [] n f := by
    intro t
    induction t with
    | zero =>
      intro k hk
      obtain rfl : k = h := by omega
      refine xw_iload_n dX10_worthOf_4 rfl ?_
      refine xw_aload_n dX10_worthOf_5 rfl ?_
      refine xw_getfield dX10_worthOf_6 fl_X10_313 h38 rfl ?_
      refine xw_topi (k : Int) m56 ?_
      refine xw_icmpge (tgt := 38) dX10_worthOf_9 (by decide) (by first | assumption | (unfold inI; omega) | (unfold inI at *; omega)) (by first | assumption | (unfold inI; omega) | (unfold inI at *; omega)) (fun c_9 => ?_) (fun c_9 => ?_)
      · skip
        refine xw_iload_n dX10_worthOf_38 rfl ?_
        exact xw_iret dX10_worthOf_39 rfl hq
      · skip
        exfalso; omega
    | succ t ih =>
      intro k hk
      have hd : s / 2 ^ k ≤ s := Nat.div_le_self _ _
      obtain ⟨w1, w2, w3, w4⟩ := hW k (by omega)
      refine xw_iload_n dX10_worthOf_4 rfl ?_
      refine xw_aload_n dX10_worthOf_5 rfl ?_
      refine xw_getfield dX10_worthOf_6 fl_X10_313 h38 rfl ?_
      refine xw_topi (h : Int) m56 ?_
      refine xw_icmpge (tgt := 38) dX10_worthOf_9 (by decide) (by first | assumption | (unfold inI; omega) | (unfold inI at *; omega)) (by first | assumption | (unfold inI; omega) | (unfold inI at *; omega)) (fun c_9 => ?_) (fun c_9 => ?_)
      · skip
        exfalso; omega
      · skip
        refine xw_iload_n dX10_worthOf_12 rfl ?_
        refine xw_iload_n dX10_worthOf_13 rfl ?_
        refine xw_iload_n dX10_worthOf_14 rfl ?_
        refine xw_ishr dX10_worthOf_15 (xb_shrI (by omega) (by omega)) ?_
        refine xw_iconst dX10_worthOf_16 ?_
        refine xw_iand dX10_worthOf_17 (xb_andI (b := 1) (by omega) (by decide)) ?_
        refine xw_topi ((if s.testBit k = true then 1 else 0 : Nat) : Int) (by rw [and_1, bit01]) ?_
        refine xw_aload_n dX10_worthOf_18 rfl ?_
        refine xw_getfield dX10_worthOf_19 fl_X10_33 h38 rfl ?_
        refine xw_aload_n dX10_worthOf_22 rfl ?_
        refine xw_getfield dX10_worthOf_23 fl_X10_127 h38 rfl ?_
        refine xw_iload_n dX10_worthOf_26 rfl ?_
        refine xw_iald dX10_worthOf_27 h75 (j := k) rfl (by omega) (by decide) ?_
        refine xw_topi (N (hp k) : Int) (hi9 k (by omega)) ?_
        refine xw_iald dX10_worthOf_28 h45 (j := N (hp k)) rfl (by omega) (by decide) ?_
        refine xw_topi (wo (hp k)) w1 ?_
        refine xw_imul dX10_worthOf_29 ?_
        refine xw_iadd dX10_worthOf_30 ?_
        refine xw_topi (wsm (fun j => wo (hp j)) s (k + 1)) (by show _ = wsm (fun j => wo (hp j)) s k + (if s.testBit k = true then wo (hp k) else 0); split <;> omega) ?_
        refine xw_istore_n dX10_worthOf_31 (by decide) ?_
        refine xw_iinc dX10_worthOf_32 rfl (by decide) ?_
        refine xw_goto (tgt := 4) dX10_worthOf_35 (by decide) ?_
        exact xw_ls [(0, vR 38), (1, vI (s : Int)), (2, vI (wsm (fun j => wo (hp j)) s (k + 1))), (3, vI ((k + 1 : Nat) : Int))] ⟨rfl, rfl, rfl, rfl, trivial⟩ (ih (k + 1) (by omega))
  refine xw_iconst dX10_worthOf_0 ?_
  refine xw_istore_n dX10_worthOf_1 (by decide) ?_
  refine xw_iconst dX10_worthOf_2 ?_
  refine xw_istore_n dX10_worthOf_3 (by decide) ?_
  exact xw_ls [(0, vR 38), (1, vI (s : Int)), (2, vI (wsm (fun j => wo (hp j)) s 0)), (3, vI ((0 : Nat) : Int))] ⟨rfl, rfl, rfl, rfl, trivial⟩ (L h 0 (by omega))
set_option maxHeartbeats 8000000 in
theorem ct_insertFew {p c0 : Nat} {L : Nat → Nat} (hg : f 38 = some (oMd m)) (m57 : m 57 = (c0 : Int)) (hN : onO gn σ sz N) (hgn : gn ≤ 100) (h40 : sz ≤ 40) (hL : incL L c0 sz) (hfw : fwF f c0 N L) (hp : p < sz) (hnp : ∀ c, c < c0 → L c ≠ p) (hq : ∀ F L', fr [38, 76] f F → F 38 = some (oMd (xui m 57 ((c0 + 1 : Nat) : Int))) → incL L' (c0 + 1) sz → fwF F (c0 + 1) N L' → (∀ q, (∃ c, c < c0 + 1 ∧ L' c = q) ↔ (q = p ∨ ∃ c, c < c0 ∧ L c = q)) → Q (.inl none) n F) : xct g M_X10_insertFew 0 0 [vR 38, vI (N p : Int)] n f Q := by
  refine xct_of rfl rfl (Nat.le_of_ble_eq_true rfl) ?_
  have hc40 := incL_n hL hp hnp
  have np := hN.2 p hp
  have E : ∀ (k : Nat) (F : xH) (fa : Nat → Int), k ≤ c0 → fr [38, 76] f F → F 38 = some (oMd m) → F 76 = some (aI 40 fa) → (∀ c, c < k → fa c = (N (L c) : Int)) → (∀ c, k < c → c ≤ c0 → fa c = (N (L (c - 1)) : Int)) → (∀ c, c < k → L c < p) → (∀ c, k ≤ c → c < c0 → p < L c) → xw g M_X10_insertFew Q 0 0 41 [(0, vR 38), (1, vI (N p : Int)), (2, vI (k : Int))] [] n F := by
    intro k F fa hk hf h38 h76 hlo hhi hl1 hl2
    refine xw_aload_n dX10_insertFew_41 rfl ?_
    refine xw_getfield dX10_insertFew_42 fl_X10_130 h38 rfl ?_
    refine xw_iload_n dX10_insertFew_45 rfl ?_
    refine xw_iload_n dX10_insertFew_46 rfl ?_
    refine xw_iast dX10_insertFew_47 h76 (j := k) rfl (by omega) (by decide) ?_
    refine xw_aload_n dX10_insertFew_48 rfl ?_
    refine xw_dup dX10_insertFew_49 rfl ?_
    refine xw_getfield dX10_insertFew_50 fl_X10_316 h38 rfl ?_
    refine xw_topi (c0 : Int) m57 ?_
    refine xw_iconst dX10_insertFew_53 ?_
    refine xw_iadd dX10_insertFew_54 ?_
    refine xw_topi ((c0 + 1 : Nat) : Int) (by omega) ?_
    refine xw_putfield dX10_insertFew_55 (fp_X10_316 _) h38 rfl rfl ?_
    rw [xmd_57]
    exact xw_vret dX10_insertFew_58 rfl (hq _ (fun c => if c < k then L c else if c = k then p else L (c - 1)) (fr_up (fr_up hf (by decide)) (by decide)) rfl ⟨fun a b hab hb => by
      show (if a < k then L a else if a = k then p else L (a - 1)) < (if b < k then L b else if b = k then p else L (b - 1))
      by_cases e1 : b < k
      · rw [if_pos (by omega), if_pos e1]; exact hL.1 a b hab (by omega)
      · by_cases e2 : b = k
        · rw [if_neg e1, if_pos e2, if_pos (by omega)]; exact hl1 a (by omega)
        · rw [if_neg e1, if_neg e2]
          by_cases e3 : a < k
          · rw [if_pos e3]; exact hL.1 a (b - 1) (by omega) (by omega)
          · by_cases e4 : a = k
            · rw [if_neg e3, if_pos e4]; exact hl2 (b - 1) (by omega) (by omega)
            · rw [if_neg e3, if_neg e4]; exact hL.1 (a - 1) (b - 1) (by omega) (by omega), fun a ha => by
      show (if a < k then L a else if a = k then p else L (a - 1)) < sz
      by_cases e3 : a < k
      · rw [if_pos e3]; exact hL.2 a (by omega)
      · by_cases e4 : a = k
        · rw [if_neg e3, if_pos e4]; exact hp
        · rw [if_neg e3, if_neg e4]; exact hL.2 (a - 1) (by omega)⟩ ⟨_, rfl, fun c hc9 => by
      show _ = ((N (if c < k then L c else if c = k then p else L (c - 1)) : Nat) : Int)
      by_cases e4 : c = k
      · subst e4; rw [xui_s, if_neg (by omega), if_pos rfl]
      · rw [xui_n _ _ e4]
        by_cases e3 : c < k
        · rw [if_pos e3]; exact hlo c e3
        · rw [if_neg e3, if_neg e4]; exact hhi c (by omega) (by omega)⟩ (fun q => by
      constructor
      · rintro ⟨c, h1, h2⟩
        by_cases e3 : c < k
        · rw [if_pos e3] at h2; exact Or.inr ⟨c, by omega, h2⟩
        · by_cases e4 : c = k
          · rw [if_neg e3, if_pos e4] at h2; exact Or.inl h2.symm
          · rw [if_neg e3, if_neg e4] at h2; exact Or.inr ⟨c - 1, by omega, h2⟩
      · rintro (h1 | ⟨c, h1, h2⟩)
        · exact ⟨k, by omega, by rw [if_neg (by omega), if_pos rfl]; exact h1.symm⟩
        · by_cases e3 : c < k
          · exact ⟨c, by omega, by rw [if_pos e3]; exact h2⟩
          · exact ⟨c + 1, by omega, by rw [if_neg (by omega), if_neg (by omega)]; exact h2⟩))
  have W : ∀ (k : Nat) (F : xH) (fa : Nat → Int), k ≤ c0 → fr [38, 76] f F → F 38 = some (oMd m) → F 76 = some (aI 40 fa) → (∀ c, c < k → fa c = (N (L c) : Int)) → (∀ c, k < c → c ≤ c0 → fa c = (N (L (c - 1)) : Int)) → (∀ c, k ≤ c → c < c0 → p < L c) → xw g M_X10_insertFew Q 0 0 5 [(0, vR 38), (1, vI (N p : Int)), (2, vI (k : Int))] [] n F := by
    intro k
    induction k with
    | zero =>
      intro F fa hk hf h38 h76 hlo hhi hl2
      refine xw_iload_n dX10_insertFew_5 rfl ?_
      refine xw_ifle (tgt := 41) dX10_insertFew_6 (by decide) (by first | assumption | (unfold inI; omega) | (unfold inI at *; omega)) (fun c_6 => ?_) (fun c_6 => ?_)
      · skip
        exact xw_ls [(0, vR 38), (1, vI (N p : Int)), (2, vI ((0 : Nat) : Int))] ⟨rfl, rfl, rfl, trivial⟩ (E 0 F fa hk hf h38 h76 hlo hhi (fun c hc9 => absurd hc9 (Nat.not_lt_zero _)) hl2)
      · skip
        exfalso; omega
    | succ k ih =>
      intro F fa hk hf h38 h76 hlo hhi hl2
      have lk := hL.2 k (by omega)
      have nk := hN.2 (L k) lk
      have fk := hlo k (by omega)
      refine xw_iload_n dX10_insertFew_5 rfl ?_
      refine xw_ifle (tgt := 41) dX10_insertFew_6 (by decide) (by first | assumption | (unfold inI; omega) | (unfold inI at *; omega)) (fun c_6 => ?_) (fun c_6 => ?_)
      · skip
        exfalso; omega
      · skip
        refine xw_aload_n dX10_insertFew_9 rfl ?_
        refine xw_getfield dX10_insertFew_10 fl_X10_130 h38 rfl ?_
        refine xw_iload_n dX10_insertFew_13 rfl ?_
        refine xw_iconst dX10_insertFew_14 ?_
        refine xw_isub dX10_insertFew_15 ?_
        refine xw_iald dX10_insertFew_16 h76 (j := k) (by omega) (by omega) (by decide) ?_
        refine xw_topi (N (L k) : Int) fk ?_
        refine xw_iload_n dX10_insertFew_17 rfl ?_
        refine xw_icmple (tgt := 41) dX10_insertFew_18 (by decide) (by first | assumption | (unfold inI; omega) | (unfold inI at *; omega)) (by first | assumption | (unfold inI; omega) | (unfold inI at *; omega)) (fun c_18 => ?_) (fun c_18 => ?_)
        · skip
          exact xw_ls [(0, vR 38), (1, vI (N p : Int)), (2, vI ((k + 1 : Nat) : Int))] ⟨rfl, rfl, rfl, trivial⟩ (E (k + 1) F fa hk hf h38 h76 hlo hhi (fun c hc9 => by
            have h1 : L k < p := by
              have e1 := hnp k (by omega)
              refine Nat.lt_of_not_le (fun z => ?_)
              have := onO_lt hN (show p < L k by omega) lk
              omega
            by_cases e : c = k
            · subst e; exact h1
            · have := hL.1 c k (by omega) (by omega); omega) hl2)
        · skip
          refine xw_aload_n dX10_insertFew_21 rfl ?_
          refine xw_getfield dX10_insertFew_22 fl_X10_130 h38 rfl ?_
          refine xw_iload_n dX10_insertFew_25 rfl ?_
          refine xw_aload_n dX10_insertFew_26 rfl ?_
          refine xw_getfield dX10_insertFew_27 fl_X10_130 h38 rfl ?_
          refine xw_iload_n dX10_insertFew_30 rfl ?_
          refine xw_iconst dX10_insertFew_31 ?_
          refine xw_isub dX10_insertFew_32 ?_
          refine xw_iald dX10_insertFew_33 h76 (j := k) (by omega) (by omega) (by decide) ?_
          refine xw_iast dX10_insertFew_34 h76 (j := k + 1) rfl (by omega) (by decide) ?_
          refine xw_ls [(0, vR 38), (1, vI (N p : Int)), (2, vI ((k + 1 : Nat) : Int))] ⟨rfl, rfl, rfl, trivial⟩ ?_
          refine xw_iinc dX10_insertFew_35 rfl (by decide) ?_
          refine xw_goto (tgt := 5) dX10_insertFew_38 (by decide) ?_
          exact xw_ls [(0, vR 38), (1, vI (N p : Int)), (2, vI (k : Int))] ⟨rfl, rfl, congrArg (fun z => some (vI z)) (by omega : ((k + 1 : Nat) : Int) + -1 = (k : Int)), trivial⟩ (ih _ _ (by omega) (fr_up hf (by decide)) h38 rfl (fun c hc9 => by rw [xui_n _ _ (by omega)]; exact hlo c (by omega)) (fun c h1 h2 => by
            by_cases e : c = k + 1
            · subst e; rw [xui_s]; exact fk
            · rw [xui_n _ _ e]; exact hhi c (by omega) h2) (fun c h1 h2 => by
            by_cases e : c = k
            · subst e
              refine Nat.lt_of_not_le (fun z => ?_)
              have e1 := hnp c (by omega)
              have := onO_lt hN (show L c < p by omega) hp
              omega
            · exact hl2 c (by omega) h2))
  obtain ⟨fa, h76, hfa⟩ := hfw
  refine xw_aload_n dX10_insertFew_0 rfl ?_
  refine xw_getfield dX10_insertFew_1 fl_X10_316 hg rfl ?_
  refine xw_topi (c0 : Int) m57 ?_
  refine xw_istore_n dX10_insertFew_4 (by decide) ?_
  exact xw_ls [(0, vR 38), (1, vI (N p : Int)), (2, vI (c0 : Int))] ⟨rfl, rfl, rfl, trivial⟩ (W c0 f fa (Nat.le_refl _) (fr_rf _ _) hg h76 hfa (fun c h1 h2 => by omega) (fun c h1 h2 => by omega))
end C9g
