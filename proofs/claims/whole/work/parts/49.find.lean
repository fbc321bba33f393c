/-! the remedy of knots -/
def hpc (set sz j : Nat) : Nat := (xnth (fun p => set.testBit p) (j : Int) 0 0 sz).toNat
theorem xnth_at (set p : Nat) (hp : set.testBit p = true) : ∀ (k a : Nat) (c : Int) (i : Int), a ≤ p → p < a + k → i = c + ((cnt set p : Int) - (cnt set a : Int)) → xnth (fun q => set.testBit q) i c a k = (p : Int) := by
  intro k
  induction k with
  | zero => intro a c i h1 h2 _; omega
  | succ k ih =>
    intro a c i h1 h2 h3
    unfold xnth
    have hm : ∀ b, a + 1 ≤ b → cnt set (a + 1) ≤ cnt set b := by
      intro b hb
      obtain ⟨d, rfl⟩ : ∃ d, b = (a + 1) + d := ⟨b - (a + 1), by omega⟩
      rw [cnt_add set (a + 1) d]; omega
    have hs : cnt set (a + 1) = cnt set a + (if set.testBit a = true then 1 else 0) := rfl
    by_cases e : a = p
    · subst e
      rw [if_pos hp, if_pos (by omega)]
    · have hm1 := hm p (by omega)
      by_cases ha : set.testBit a = true
      · rw [if_pos ha] at hs
        rw [if_pos ha, if_neg (by omega)]
        exact ih (a + 1) (c + 1) i (by omega) (by omega) (by omega)
      · rw [if_neg ha] at hs
        rw [if_neg ha]
        exact ih (a + 1) c i (by omega) (by omega) (by omega)
theorem hpc_at {set sz p : Nat} (hp : set.testBit p = true) (hz : p < sz) : hpc set sz (cnt set p) = p := by
  unfold hpc
  rw [xnth_at set p hp sz 0 0 _ (by omega) (by omega) (by show ((cnt set p : Nat) : Int) = 0 + ((cnt set p : Int) - ((0 : Nat) : Int)); omega)]
  exact Int.toNat_natCast p
def hab (av hp : Nat → Nat) (i : Nat) : Nat → Nat
  | 0 => 0
  | k + 1 => if (av (hp i)).testBit (hp k) = true then hab av hp i k ||| 2 ^ k else hab av hp i k
theorem hab_lt (av hp : Nat → Nat) (i : Nat) : ∀ k, hab av hp i k < 2 ^ k
  | 0 => by unfold hab; decide
  | k + 1 => by
    have h1 := hab_lt av hp i k
    have h2 : (2 : Nat) ^ (k + 1) = 2 ^ k + 2 ^ k := by rw [Nat.pow_succ]; omega
    unfold hab
    split
    · exact Nat.or_lt_two_pow (by omega) (by omega)
    · omega
def bst (sw : Nat → Int) (ha : Nat → Nat) (h all : Nat) : Nat → Nat → Nat → Nat
  | 0, _, b => b
  | k + 1, s, b => bst sw ha h all k (s + 1) (if betb sw s b = true ∧ lse ha h h (xdf all s) = true then s else b)
def plc (hp : Nat → Nat) (best P : Nat) : Nat → Nat
  | 0 => P
  | k + 1 => if best.testBit k = true then plc hp best P k ||| 2 ^ (hp k) else plc hp best P k
theorem plc_lt {hp : Nat → Nat} {best P h : Nat} (hP : P < 2 ^ 40) (hh : ∀ j, j < h → hp j < 40) : ∀ k, k ≤ h → plc hp best P k < 2 ^ 40 := by
  intro k
  induction k with
  | zero => intro _; exact hP
  | succ k ih =>
    intro hk
    unfold plc
    split
    · exact Nat.or_lt_two_pow (ih (by omega)) (Nat.pow_lt_pow_right (by decide) (hh k (by omega)))
    · exact ih (by omega)
theorem plc_cg {hp hp1 : Nat → Nat} {best P : Nat} : ∀ k, (∀ j, j < k → hp j = hp1 j) → plc hp best P k = plc hp1 best P k := by
  intro k
  induction k with
  | zero => intro _; rfl
  | succ k ih => intro h; unfold plc; rw [ih (fun j hj => h j (by omega)), h k (by omega)]
theorem lps_cg {ha ha1 : Nat → Nat} : ∀ (k i L : Nat), (∀ j, i ≤ j → j < i + k → ha j = ha1 j) → lps ha k i L = lps ha1 k i L := by
  intro k
  induction k with
  | zero => intro i L _; rfl
  | succ k ih =>
    intro i L h
    unfold lps
    rw [h i (by omega) (by omega)]
    exact ih (i + 1) _ (fun j h1 h2 => h j (by omega) (by omega))
theorem lse_cg {ha ha1 : Nat → Nat} {h : Nat} (hh : ∀ j, j < h → ha j = ha1 j) : ∀ (m L : Nat), lse ha h m L = lse ha1 h m L := by
  intro m
  induction m with
  | zero => intro L; rfl
  | succ m ih =>
    intro L
    unfold lse
    rw [lps_cg h 0 L (fun j _ h2 => hh j (by omega)), ih]
theorem bst_cg {sw sw1 : Nat → Int} {ha ha1 : Nat → Nat} {h all : Nat} (hsw : ∀ s, s ≤ all → sw s = sw1 s) (hh : ∀ j, j < h → ha j = ha1 j) : ∀ (k s b : Nat), s + k ≤ all + 1 → b ≤ all → bst sw ha h all k s b = bst sw1 ha1 h all k s b := by
  intro k
  induction k with
  | zero => intro s b _ _; rfl
  | succ k ih =>
    intro s b h1 h2
    unfold bst
    have e1 : betb sw s b = betb sw1 s b := by unfold betb; rw [hsw s (by omega), hsw b h2]
    rw [e1, lse_cg hh]
    exact ih (s + 1) _ (by omega) (by split <;> omega)
theorem bst_le {sw : Nat → Int} {ha : Nat → Nat} {h all : Nat} : ∀ (k s b : Nat), s + k ≤ all + 1 → b ≤ all → bst sw ha h all k s b ≤ all := by
  intro k
  induction k with
  | zero => intro s b _ hb; exact hb
  | succ k ih => intro s b h1 h2; unfold bst; exact ih (s + 1) _ (by omega) (by split <;> omega)
/-- of one knot: the best set of its sticks -/
def kbs (av : Nat → Nat) (wo : Nat → Int) (sz set : Nat) : Nat := bst (fun s => wsm (fun j => wo (hpc set sz j)) s (cnt set sz)) (fun i => hab av (hpc set sz) i (cnt set sz)) (cnt set sz) (2 ^ cnt set sz - 1) (2 ^ cnt set sz - 1) 0 (2 ^ cnt set sz - 1)
def kwo (av : Nat → Nat) (wo : Nat → Int) (sz set : Nat) : Int := wsm (fun j => wo (hpc set sz j)) (kbs av wo sz set) (cnt set sz)
def rmd (av : Nat → Nat) (wo : Nat → Int) (sz : Nat) (ks : Nat → Nat) : Nat → Nat → Int → Nat → Int × Nat
  | 0, _, w, P => (w, P)
  | m + 1, k, w, P => if 12 < cnt (ks k) 40 then (-1, 0) else rmd av wo sz ks m (k + 1) (w + kwo av wo sz (ks k)) (plc (hpc (ks k) sz) (kbs av wo sz (ks k)) P (cnt (ks k) sz))
theorem wsm_b {hw : Nat → Int} {s : Nat} : ∀ k, (∀ j, j < k → 0 ≤ hw j ∧ hw j ≤ 100) → 0 ≤ wsm hw s k ∧ wsm hw s k ≤ 100 * k := by
  intro k
  induction k with
  | zero => intro _; exact ⟨Int.le_refl 0, Int.le_refl 0⟩
  | succ k ih =>
    intro h
    have h1 := ih (fun j hj => h j (by omega))
    have h2 := h k (by omega)
    unfold wsm
    split <;> omega
section C49
variable {g : xG} {Q : xP} {n : Nat} {f : xH}
set_option maxHeartbeats 4000000 in
theorem ct_takeKnot {sz set h0 : Nat} {ls kc w pl : Int} {av hp ha : Nat → Nat} {hw wo : Nat → Int} (h22 : f 22 = some (oTg sz ls kc)) (h24 : f 24 = some (aI 40 wo)) (h25 : f 25 = some (aS 40 av)) (h32 : f 32 = some (oRm w pl h0)) (h33 : f 33 = some (aN 12 hp)) (h34 : f 34 = some (aI 12 hw)) (h35 : f 35 = some (aN 12 ha)) (hsz : sz ≤ 40) (hset : set < 2 ^ 40) (hc : cnt set sz ≤ 12) (hav : ∀ j, j < sz → av j < 2 ^ 40)
    (hq : ∀ f1 hp1 hw1 ha1, fr [32, 33, 34, 35] f f1 → f1 32 = some (oRm w pl (cnt set sz)) → f1 33 = some (aN 12 hp1) → f1 34 = some (aI 12 hw1) → f1 35 = some (aN 12 ha1) → (∀ j, j < cnt set sz → hp1 j = hpc set sz j ∧ hp1 j < sz ∧ hw1 j = wo (hp1 j) ∧ ha1 j = hab av (hpc set sz) j (cnt set sz)) → Q (.inl none) n f1) : xct g M_X5_takeKnot 0 0 [vR 32, vR 22, vL (set : Int)] n f Q := by
  refine xct_of rfl rfl (Nat.le_of_ble_eq_true rfl) ?_
  have B62 : ∀ {x : Nat}, x < 2 ^ 40 → x < 2 ^ 62 := fun h => Nat.lt_of_lt_of_le h (xp2 (by decide))
  have hmono : ∀ a b, a ≤ b → cnt set a ≤ cnt set b := by
    intro a b hb
    obtain ⟨d, rfl⟩ : ∃ d, b = a + d := ⟨b - a, by omega⟩
    rw [cnt_add]; omega
  obtain ⟨h, hh⟩ : ∃ h, h = cnt set sz := ⟨_, rfl⟩
  rw [← hh] at hq hc
  have J : ∀ (f0 : xH) (hp1 : Nat → Nat) (hw1 : Nat → Int), fr [32, 33, 34, 35] f f0 → f0 32 = some (oRm w pl h) → f0 33 = some (aN 12 hp1) → f0 34 = some (aI 12 hw1) → (∀ j, j < h → hp1 j = hpc set sz j ∧ hp1 j < sz ∧ hw1 j = wo (hp1 j)) →
      ∀ (i : Nat), i < h → (∀ f2 ha2, fr [35] f0 f2 → f2 35 = some (aN 12 ha2) → (∀ j, j < i + 1 → ha2 j = hab av (hpc set sz) j h) → xw g M_X5_takeKnot Q 0 0 151 [(0, vR 32), (1, vR 22), (4, vI (i : Int))] [] n f2) →
      ∀ (m j : Nat) (f1 : xH) (ha1 : Nat → Nat), j + m = h → fr [35] f0 f1 → f1 35 = some (aN 12 ha1) → (∀ q, q < i → ha1 q = hab av (hpc set sz) q h) → ha1 i = hab av (hpc set sz) i j → xw g M_X5_takeKnot Q 0 0 101 [(0, vR 32), (1, vR 22), (4, vI (i : Int)), (5, vI (j : Int))] [] n f1 := by
    intro f0 hp1 hw1 hf0 i32 i33 i34 hI i hi K m
    induction m with
    | zero =>
      intro j f1 ha1 hj hf e35 hA hAi
      have e32 : f1 32 = some (oRm w pl h) := fr_at hf i32 (by decide)
      refine xw_iload dX5_takeKnot_101 rfl ?_
      refine xw_aload_n dX5_takeKnot_103 rfl ?_
      refine xw_getfield dX5_takeKnot_104 fl_X5_54 e32 rfl ?_
      refine xw_icmpge (tgt := 151) dX5_takeKnot_107 (by decide) (by unfold inI; omega) (by unfold inI; omega) (fun c_107 => ?_) (fun c_107 => ?_)
      · skip
        exact xw_ls [(0, vR 32), (1, vR 22), (4, vI (i : Int))] ⟨rfl, rfl, rfl, trivial⟩ (K f1 ha1 hf e35 (fun q hq9 => by
            by_cases e : q = i
            · rw [e, hAi, show j = h by omega]
            · exact hA q (by omega)))
      · skip
        exfalso; omega
    | succ m ih =>
      intro j f1 ha1 hj hf e35 hA hAi
      have e32 : f1 32 = some (oRm w pl h) := fr_at hf i32 (by decide)
      have e33 : f1 33 = some (aN 12 hp1) := fr_at hf i33 (by decide)
      have e22 : f1 22 = some (oTg sz ls kc) := fr_at hf (fr_at hf0 h22 (by decide)) (by decide)
      have e25 : f1 25 = some (aS 40 av) := fr_at hf (fr_at hf0 h25 (by decide)) (by decide)
      have hIj := hI j (by omega)
      have hIi := hI i hi
      have hbb := hab_lt av (hpc set sz) i j
      have hb12 : (2 : Nat) ^ j ≤ 2 ^ 12 := xp2 (by omega)
      have e12 : (2 : Nat) ^ 12 = 4096 := by decide
      refine xw_iload dX5_takeKnot_101 rfl ?_
      refine xw_aload_n dX5_takeKnot_103 rfl ?_
      refine xw_getfield dX5_takeKnot_104 fl_X5_54 e32 rfl ?_
      refine xw_icmpge (tgt := 151) dX5_takeKnot_107 (by decide) (by unfold inI; omega) (by unfold inI; omega) (fun c_107 => ?_) (fun c_107 => ?_)
      · skip
        exfalso; omega
      · skip
        refine xw_aload_n dX5_takeKnot_110 rfl ?_
        refine xw_aload_n dX5_takeKnot_111 rfl ?_
        refine xw_getfield dX5_takeKnot_112 fl_X5_11 e32 rfl ?_
        refine xw_iload dX5_takeKnot_115 rfl ?_
        refine xw_iald dX5_takeKnot_117 e33 (j := j) rfl (by omega) (by decide) ?_
        refine xw_aload_n dX5_takeKnot_118 rfl ?_
        refine xw_getfield dX5_takeKnot_119 fl_X5_11 e32 rfl ?_
        refine xw_iload dX5_takeKnot_122 rfl ?_
        refine xw_iald dX5_takeKnot_124 e33 (j := i) rfl (by omega) (by decide) ?_
        refine xw_callV (rc := 0) (rs := 0) (mc2 := 0) (ms2 := 0) (a := 22) (As := [vI ((hp1 j : Nat) : Int), vI ((hp1 i : Nat) : Int)]) (st := []) dX5_takeKnot_125 mv_X5_67 e22 rfl rfl (by decide) (by decide) (Nat.le_of_ble_eq_true rfl) rfl (ct_isAbove e22 e25 hsz (by unfold inI; omega) (by unfold inI; omega) hav (fun h_125 => ?_) (fun h_125 => ?_))
        · skip
          refine xw_ifeq (tgt := 145) dX5_takeKnot_128 (by decide) (by unfold inI; omega) (fun c => absurd c (by decide)) (fun _ => ?_)
          refine xw_aload_n dX5_takeKnot_131 rfl ?_
          refine xw_getfield dX5_takeKnot_132 fl_X5_18 e32 rfl ?_
          refine xw_iload dX5_takeKnot_135 rfl ?_
          refine xw_dup2 dX5_takeKnot_137 rfl rfl ?_
          refine xw_iald dX5_takeKnot_138 e35 (j := i) rfl (by omega) (by decide) ?_
          refine xw_iconst dX5_takeKnot_139 ?_
          refine xw_iload dX5_takeKnot_140 rfl ?_
          refine xw_ishl dX5_takeKnot_142 (xb_shlI j (by omega)) ?_
          refine xw_ior dX5_takeKnot_143 (xb_orI (a := ha1 i) (b := 2 ^ j) (by rw [hAi]; omega) (by omega)) ?_
          refine xw_iast dX5_takeKnot_144 e35 (j := i) rfl (by omega) (by decide) ?_
          rw [xui_cast]
          refine xw_iinc dX5_takeKnot_145 rfl (by decide) ?_
          refine xw_goto (tgt := 101) dX5_takeKnot_148 (by decide) ?_
          first
            | exact xw_ls [(0, vR 32), (1, vR 22), (4, vI (i : Int)), (5, vI ((j + 1 : Nat) : Int))] ⟨rfl, rfl, rfl, rfl, trivial⟩ (ih (j + 1) _ (xui ha1 i (ha1 i ||| 2 ^ j)) (by omega) (fr_up hf (by decide)) (xup_s _ _ _) (fun q hq9 => by rw [xui_n _ _ (by omega)]; exact hA q hq9) (by
                rw [xui_s, hAi]
                have h9 := h_125.2.2
                rw [Int.toNat_natCast, Int.toNat_natCast, hIj.1, hIi.1] at h9
                show _ = if _ then _ else _
                rw [if_pos h9]))
            | exact xw_ls [(0, vR 32), (1, vR 22), (4, vI (i : Int)), (5, vI ((j + 1 : Nat) : Int))] ⟨rfl, rfl, rfl, rfl, trivial⟩ (ih (j + 1) f1 ha1 (by omega) hf e35 hA (by
                rw [hAi]
                show _ = if _ then _ else _
                rw [if_neg (fun h9 => h_125 ⟨by omega, by omega, by rw [Int.toNat_natCast, Int.toNat_natCast, hIj.1, hIi.1]; exact h9⟩)]))
        · skip
          refine xw_ifeq (tgt := 145) dX5_takeKnot_128 (by decide) (by unfold inI; omega) (fun _ => ?_) (fun c => absurd c (by decide))
          refine xw_iinc dX5_takeKnot_145 rfl (by decide) ?_
          refine xw_goto (tgt := 101) dX5_takeKnot_148 (by decide) ?_
          first
            | exact xw_ls [(0, vR 32), (1, vR 22), (4, vI (i : Int)), (5, vI ((j + 1 : Nat) : Int))] ⟨rfl, rfl, rfl, rfl, trivial⟩ (ih (j + 1) _ (xui ha1 i (ha1 i ||| 2 ^ j)) (by omega) (fr_up hf (by decide)) (xup_s _ _ _) (fun q hq9 => by rw [xui_n _ _ (by omega)]; exact hA q hq9) (by
                rw [xui_s, hAi]
                have h9 := h_125.2.2
                rw [Int.toNat_natCast, Int.toNat_natCast, hIj.1, hIi.1] at h9
                show _ = if _ then _ else _
                rw [if_pos h9]))
            | exact xw_ls [(0, vR 32), (1, vR 22), (4, vI (i : Int)), (5, vI ((j + 1 : Nat) : Int))] ⟨rfl, rfl, rfl, rfl, trivial⟩ (ih (j + 1) f1 ha1 (by omega) hf e35 hA (by
                rw [hAi]
                show _ = if _ then _ else _
                rw [if_neg (fun h9 => h_125 ⟨by omega, by omega, by rw [Int.toNat_natCast, Int.toNat_natCast, hIj.1, hIi.1]; exact h9⟩)]))
  have O2 : ∀ (f0 : xH) (hp1 : Nat → Nat) (hw1 : Nat → Int), fr [32, 33, 34, 35] f f0 → f0 32 = some (oRm w pl h) → f0 33 = some (aN 12 hp1) → f0 34 = some (aI 12 hw1) → (∀ j, j < h → hp1 j = hpc set sz j ∧ hp1 j < sz ∧ hw1 j = wo (hp1 j)) →
      ∀ (m i : Nat) (f1 : xH) (ha1 : Nat → Nat), i + m = h → fr [35] f0 f1 → f1 35 = some (aN 12 ha1) → (∀ j, j < i → ha1 j = hab av (hpc set sz) j h) → xw g M_X5_takeKnot Q 0 0 81 [(0, vR 32), (1, vR 22), (4, vI (i : Int))] [] n f1 := by
    intro f0 hp1 hw1 hf0 i32 i33 i34 hI m
    induction m with
    | zero =>
      intro i f1 ha1 hi hf e35 hA
      have e32 : f1 32 = some (oRm w pl h) := fr_at hf i32 (by decide)
      refine xw_iload dX5_takeKnot_81 rfl ?_
      refine xw_aload_n dX5_takeKnot_83 rfl ?_
      refine xw_getfield dX5_takeKnot_84 fl_X5_54 e32 rfl ?_
      refine xw_icmpge (tgt := 157) dX5_takeKnot_87 (by decide) (by unfold inI; omega) (by unfold inI; omega) (fun c_87 => ?_) (fun c_87 => ?_)
      · skip
        exact xw_vret dX5_takeKnot_157 rfl (hq f1 hp1 hw1 ha1 (fr_tr hf0 (fr_sub hf (by decide))) e32 (fr_at hf i33 (by decide)) (fr_at hf i34 (by decide)) e35 (fun j hj => ⟨(hI j hj).1, (hI j hj).2.1, (hI j hj).2.2, hA j (by omega)⟩))
      · skip
        exfalso; omega
    | succ m ih =>
      intro i f1 ha1 hi hf e35 hA
      have e32 : f1 32 = some (oRm w pl h) := fr_at hf i32 (by decide)
      have K : ∀ f2 ha2, fr [35] f0 f2 → f2 35 = some (aN 12 ha2) → (∀ j, j < i + 1 → ha2 j = hab av (hpc set sz) j h) → xw g M_X5_takeKnot Q 0 0 151 [(0, vR 32), (1, vR 22), (4, vI (i : Int))] [] n f2 := by
        intro f2 ha2 hf2 e352 hA2
        refine xw_iinc dX5_takeKnot_151 rfl (by decide) ?_
        refine xw_goto (tgt := 81) dX5_takeKnot_154 (by decide) ?_
        exact xw_ls [(0, vR 32), (1, vR 22), (4, vI ((i + 1 : Nat) : Int))] ⟨rfl, rfl, rfl, trivial⟩ (ih (i + 1) f2 ha2 (by omega) hf2 e352 hA2)
      refine xw_iload dX5_takeKnot_81 rfl ?_
      refine xw_aload_n dX5_takeKnot_83 rfl ?_
      refine xw_getfield dX5_takeKnot_84 fl_X5_54 e32 rfl ?_
      refine xw_icmpge (tgt := 157) dX5_takeKnot_87 (by decide) (by unfold inI; omega) (by unfold inI; omega) (fun c_87 => ?_) (fun c_87 => ?_)
      · skip
        exfalso; omega
      · skip
        refine xw_aload_n dX5_takeKnot_90 rfl ?_
        refine xw_getfield dX5_takeKnot_91 fl_X5_18 e32 rfl ?_
        refine xw_iload dX5_takeKnot_94 rfl ?_
        refine xw_iconst dX5_takeKnot_96 ?_
        refine xw_iast dX5_takeKnot_97 e35 (j := i) rfl (by omega) (by decide) ?_
        have e0 := xui_cast ha1 i 0
        rw [show (((0 : Nat) : Nat) : Int) = 0 from rfl] at e0
        rw [e0]
        refine xw_iconst dX5_takeKnot_98 ?_
        refine xw_istore dX5_takeKnot_99 (by decide) ?_
        exact xw_ls [(0, vR 32), (1, vR 22), (4, vI (i : Int)), (5, vI ((0 : Nat) : Int))] ⟨rfl, rfl, rfl, rfl, trivial⟩ (J f0 hp1 hw1 hf0 i32 i33 i34 hI i (by omega) K h 0 _ (xui ha1 i 0) (by omega) (fr_up hf (by decide)) (xup_s _ _ _) (fun q hq9 => by rw [xui_n _ _ (by omega)]; exact hA q hq9) (by rw [xui_s]; rfl))
  have O1 : ∀ (m p : Nat) (f1 : xH) (hp1 : Nat → Nat) (hw1 : Nat → Int), p + m = sz → fr [32, 33, 34, 35] f f1 → f1 32 = some (oRm w pl (cnt set p)) → f1 33 = some (aN 12 hp1) → f1 34 = some (aI 12 hw1) → f1 35 = some (aN 12 ha) → (∀ j, j < cnt set p → hp1 j = hpc set sz j ∧ hp1 j < sz ∧ hw1 j = wo (hp1 j)) → xw g M_X5_takeKnot Q 0 0 8 [(0, vR 32), (1, vR 22), (2, vL (set : Int)), (4, vI (p : Int))] [] n f1 := by
    intro m
    induction m with
    | zero =>
      intro p f1 hp1 hw1 hp hf e32 e33 e34 e35 hI
      have e22 : f1 22 = some (oTg sz ls kc) := fr_at hf h22 (by decide)
      rw [show p = sz by omega, ← hh] at hI e32
      refine xw_iload dX5_takeKnot_8 rfl ?_
      refine xw_aload_n dX5_takeKnot_10 rfl ?_
      refine xw_getfield dX5_takeKnot_11 fl_X5_57 e22 rfl ?_
      refine xw_icmpge (tgt := 78) dX5_takeKnot_14 (by decide) (by unfold inI; omega) (by unfold inI; omega) (fun c_14 => ?_) (fun c_14 => ?_)
      · skip
        refine xw_iconst dX5_takeKnot_78 ?_
        refine xw_istore dX5_takeKnot_79 (by decide) ?_
        exact xw_ls [(0, vR 32), (1, vR 22), (4, vI ((0 : Nat) : Int))] ⟨rfl, rfl, rfl, trivial⟩ (O2 f1 hp1 hw1 hf e32 e33 e34 hI h 0 f1 ha (by omega) (fr_rf _ _) e35 (fun j hj => by omega))
      · skip
        exfalso; omega
    | succ m ih =>
      intro p f1 hp1 hw1 hp hf e32 e33 e34 e35 hI
      have e22 : f1 22 = some (oTg sz ls kc) := fr_at hf h22 (by decide)
      have e24 : f1 24 = some (aI 40 wo) := fr_at hf h24 (by decide)
      have hm1 := hmono (p + 1) sz (by omega)
      have hs : cnt set (p + 1) = cnt set p + (if set.testBit p = true then 1 else 0) := rfl
      refine xw_iload dX5_takeKnot_8 rfl ?_
      refine xw_aload_n dX5_takeKnot_10 rfl ?_
      refine xw_getfield dX5_takeKnot_11 fl_X5_57 e22 rfl ?_
      refine xw_icmpge (tgt := 78) dX5_takeKnot_14 (by decide) (by unfold inI; omega) (by unfold inI; omega) (fun c_14 => ?_) (fun c_14 => ?_)
      · skip
        exfalso; omega
      · skip
        refine xw_lload_n dX5_takeKnot_17 rfl ?_
        refine xw_iload dX5_takeKnot_18 rfl ?_
        refine xw_callSN (rc := 0) (rs := 0) (mc2 := 0) (ms2 := 0) (As := [vL (set : Int), vI (p : Int)]) (st := []) dX5_takeKnot_20 sn_X5_60 (by decide) (by decide) (Nat.le_of_ble_eq_true rfl) rfl (ct_isIn (B62 hset) (by omega) (fun h_20 => ?_) (fun h_20 => ?_))
        · skip
          refine xw_ifeq (tgt := 72) dX5_takeKnot_23 (by decide) (by unfold inI; omega) (fun c => absurd c (by decide)) (fun _ => ?_)
          refine xw_aload_n dX5_takeKnot_26 rfl ?_
          refine xw_getfield dX5_takeKnot_27 fl_X5_54 e32 rfl ?_
          refine xw_bipush (z := 12) dX5_takeKnot_30 (by decide) ?_
          refine xw_icmpge (tgt := 72) dX5_takeKnot_32 (by decide) (by unfold inI; have := hmono p sz (by omega); omega) (by unfold inI; omega) (fun c_32 => ?_) (fun c_32 => ?_)
          · skip
            exfalso; rw [if_pos h_20] at hs; omega
          · skip
            refine xw_aload_n dX5_takeKnot_35 rfl ?_
            refine xw_getfield dX5_takeKnot_36 fl_X5_11 e32 rfl ?_
            refine xw_aload_n dX5_takeKnot_39 rfl ?_
            refine xw_getfield dX5_takeKnot_40 fl_X5_54 e32 rfl ?_
            refine xw_iload dX5_takeKnot_43 rfl ?_
            refine xw_iast dX5_takeKnot_45 e33 (j := cnt set p) rfl (by omega) (by decide) ?_
            rw [xui_cast]
            refine xw_aload_n dX5_takeKnot_46 rfl ?_
            refine xw_getfield dX5_takeKnot_47 fl_X5_15 e32 rfl ?_
            refine xw_aload_n dX5_takeKnot_50 rfl ?_
            refine xw_getfield dX5_takeKnot_51 fl_X5_54 e32 rfl ?_
            refine xw_aload_n dX5_takeKnot_54 rfl ?_
            refine xw_getfield dX5_takeKnot_55 fl_X5_64 e22 rfl ?_
            refine xw_iload dX5_takeKnot_58 rfl ?_
            refine xw_iald dX5_takeKnot_60 e24 (j := p) rfl (by omega) (by decide) ?_
            refine xw_iast dX5_takeKnot_61 e34 (j := cnt set p) rfl (by omega) (by decide) ?_
            refine xw_aload_n dX5_takeKnot_62 rfl ?_
            refine xw_dup dX5_takeKnot_63 rfl ?_
            refine xw_getfield dX5_takeKnot_64 fl_X5_54 e32 rfl ?_
            refine xw_iconst dX5_takeKnot_67 ?_
            refine xw_iadd dX5_takeKnot_68 ?_
            refine xw_putfield dX5_takeKnot_69 (fp_X5_54 _) e32 rfl rfl ?_
            rw [fX5_2]
            refine xw_iinc dX5_takeKnot_72 rfl (by decide) ?_
            refine xw_goto (tgt := 8) dX5_takeKnot_75 (by decide) ?_
            first
              | (rw [if_neg (fun h9 => Bool.noConfusion (h_20.symm.trans h9))] at hs; exact xw_ls [(0, vR 32), (1, vR 22), (2, vL (set : Int)), (4, vI ((p + 1 : Nat) : Int))] ⟨rfl, rfl, rfl, rfl, trivial⟩ (ih (p + 1) f1 hp1 hw1 (by omega) hf (by rw [hs]; exact e32) e33 e34 e35 (by rw [hs]; exact hI)))
              | (rw [if_pos h_20] at hs; exact xw_ls [(0, vR 32), (1, vR 22), (2, vL (set : Int)), (4, vI ((p + 1 : Nat) : Int))] ⟨rfl, rfl, rfl, rfl, trivial⟩ (ih (p + 1) _ (xui hp1 (cnt set p) p) (xui hw1 (cnt set p) (wo p)) (by omega) (fr_up (fr_up (fr_up hf (by decide)) (by decide)) (by decide)) (by rw [hs]; exact xup_s _ _ _) rfl rfl e35 (fun j hj => by
                  by_cases e : j = cnt set p
                  · subst e; rw [xui_s, xui_s]; exact ⟨(hpc_at h_20 (by omega)).symm, by omega, rfl⟩
                  · rw [xui_n _ _ e, xui_n _ _ e]; exact hI j (by omega))))
        · skip
          refine xw_ifeq (tgt := 72) dX5_takeKnot_23 (by decide) (by unfold inI; omega) (fun _ => ?_) (fun c => absurd c (by decide))
          refine xw_iinc dX5_takeKnot_72 rfl (by decide) ?_
          refine xw_goto (tgt := 8) dX5_takeKnot_75 (by decide) ?_
          first
            | (rw [if_neg (fun h9 => Bool.noConfusion (h_20.symm.trans h9))] at hs; exact xw_ls [(0, vR 32), (1, vR 22), (2, vL (set : Int)), (4, vI ((p + 1 : Nat) : Int))] ⟨rfl, rfl, rfl, rfl, trivial⟩ (ih (p + 1) f1 hp1 hw1 (by omega) hf (by rw [hs]; exact e32) e33 e34 e35 (by rw [hs]; exact hI)))
            | (rw [if_pos h_20] at hs; exact xw_ls [(0, vR 32), (1, vR 22), (2, vL (set : Int)), (4, vI ((p + 1 : Nat) : Int))] ⟨rfl, rfl, rfl, rfl, trivial⟩ (ih (p + 1) _ (xui hp1 (cnt set p) p) (xui hw1 (cnt set p) (wo p)) (by omega) (fr_up (fr_up (fr_up hf (by decide)) (by decide)) (by decide)) (by rw [hs]; exact xup_s _ _ _) rfl rfl e35 (fun j hj => by
                by_cases e : j = cnt set p
                · subst e; rw [xui_s, xui_s]; exact ⟨(hpc_at h_20 (by omega)).symm, by omega, rfl⟩
                · rw [xui_n _ _ e, xui_n _ _ e]; exact hI j (by omega))))
  refine xw_aload_n dX5_takeKnot_0 rfl ?_
  refine xw_iconst dX5_takeKnot_1 ?_
  refine xw_putfield dX5_takeKnot_2 (fp_X5_54 _) h32 rfl rfl ?_
  rw [fX5_2]
  refine xw_iconst dX5_takeKnot_5 ?_
  refine xw_istore dX5_takeKnot_6 (by decide) ?_
  exact xw_ls [(0, vR 32), (1, vR 22), (2, vL (set : Int)), (4, vI ((0 : Nat) : Int))] ⟨rfl, rfl, rfl, rfl, trivial⟩ (O1 sz 0 _ hp hw (by omega) (fr_up (fr_rf _ _) (by decide)) (xup_s _ _ _) h33 h34 h35 (fun j hj => absurd hj (by show ¬ j < 0; omega)))
end C49
