/-! what is offered as a place and a height -/
def nb (z : Int) (A : Nat) : Prop := z.natAbs ≤ A
theorem nb_mul {a b : Int} {A B : Nat} (ha : nb a A) (hb : nb b B) : nb (a * b) (A * B) := mulb ha hb
theorem nb_L {z : Int} {A : Nat} (h : nb z A) (hA : A ≤ 4611686018427387904) : inL z := nL h hA
theorem nb_le {z : Int} {A B : Nat} (h : nb z A) (hA : A ≤ B) : nb z B := Nat.le_trans h hA
theorem nb_add {a b : Int} {A B : Nat} (ha : nb a A) (hb : nb b B) : nb (a + b) (A + B) := by unfold nb at *; omega
theorem nb_sub {a b : Int} {A B : Nat} (ha : nb a A) (hb : nb b B) : nb (a - b) (A + B) := by unfold nb at *; omega
theorem nb_neg {a : Int} {A : Nat} (ha : nb a A) : nb (-a) A := by unfold nb at *; omega
theorem nb_cast {a : Int} {A : Nat} (ha : nb a A) : nb (a.natAbs : Int) A := by unfold nb at *; omega
theorem nb_bd {v : Nat → Int} {A k : Nat} (h : bd v A) (hk : k < 3) : nb (v k) A := bd_k h hk
def sgn (z : Int) : Int := if z < 0 then -1 else 1
theorem sgn_ab (z : Int) : sgn z * z = (z.natAbs : Int) := by unfold sgn; split <;> omega
theorem sgn_n (z : Int) : nb (sgn z) 1 := by unfold sgn nb; split <;> decide
/-- the best so far: offered, the place's two numbers, the height's two -/
abbrev ofS : Type := Int × (Int × (Int × (Int × Int)))
def ofTop (D W P Qq onP onQ whole : Int) : Int := sgn D * (whole * W + onQ * Qq - onP * P)
def ofBot (D whole : Int) : Int := sgn D * whole * D
def ofr (D W P Qq onP onQ whole : Int) (s : ofS) : ofS :=
  let c1 := s.1 = 0 ∨ onP * s.2.2.1 < s.2.1 * whole
  let c2 := s.1 = 0 ∨ ((ofTop D W P Qq onP onQ whole).natAbs : Int) * s.2.2.2.2 < (s.2.2.2.1.natAbs : Int) * ofBot D whole
  (1, (if c1 then onP else s.2.1), (if c1 then whole else s.2.2.1), (if c2 then ofTop D W P Qq onP onQ whole else s.2.2.2.1), (if c2 then ofBot D whole else s.2.2.2.2))
abbrev oSs (s1 : Int) (s : ofS) : xE := Sum.inr (6, fX6 s1 s.1 s.2.1 s.2.2.1 s.2.2.2.1 s.2.2.2.2)
def okS (s : ofS) : Prop := inL s.2.2.2.1 ∧ (s.1 = 0 ∨ (s.1 = 1 ∧ nb s.2.1 400000 ∧ nb s.2.2.1 400000 ∧ nb s.2.2.2.1 2400000000 ∧ nb s.2.2.2.2 40000000))
theorem okTop {D W P Qq onP onQ whole : Int} (hW : nb W 2000) (hP : nb P 2000) (hQ : nb Qq 2000) (h1 : nb onP 400000) (h2 : nb onQ 400000) (h3 : nb whole 400000) : nb (ofTop D W P Qq onP onQ whole) 2400000000 :=
  nb_le (nb_mul (sgn_n D) (nb_sub (nb_add (nb_mul h3 hW) (nb_mul h2 hQ)) (nb_mul h1 hP))) (by decide)
theorem okBot {D whole : Int} (hD : nb D 100) (h3 : nb whole 400000) : nb (ofBot D whole) 40000000 :=
  nb_le (nb_mul (nb_mul (sgn_n D) h3) hD) (by decide)
theorem okS_ofr {D W P Qq onP onQ whole : Int} {s : ofS} (h : okS s) (hD : nb D 100) (hW : nb W 2000) (hP : nb P 2000) (hQ : nb Qq 2000) (h1 : nb onP 400000) (h2 : nb onQ 400000) (h3 : nb whole 400000) : okS (ofr D W P Qq onP onQ whole s) := by
  have t := okTop (D := D) hW hP hQ h1 h2 h3
  have b := okBot (D := D) hD h3
  have hn : nb (if s.1 = 0 ∨ ((ofTop D W P Qq onP onQ whole).natAbs : Int) * s.2.2.2.2 < (s.2.2.2.1.natAbs : Int) * ofBot D whole then ofTop D W P Qq onP onQ whole else s.2.2.2.1) 2400000000 := by
    rcases h.2 with h0 | h0
    · rw [if_pos (Or.inl h0)]; exact t
    · split; exact t; exact h0.2.2.2.1
  refine ⟨nb_L hn (by decide), Or.inr ⟨rfl, ?_, ?_, hn, ?_⟩⟩
  · show nb (if s.1 = 0 ∨ onP * s.2.2.1 < s.2.1 * whole then onP else s.2.1) 400000
    rcases h.2 with h0 | h0
    · rw [if_pos (Or.inl h0)]; exact h1
    · split; exact h1; exact h0.2.1
  · show nb (if s.1 = 0 ∨ onP * s.2.2.1 < s.2.1 * whole then whole else s.2.2.1) 400000
    rcases h.2 with h0 | h0
    · rw [if_pos (Or.inl h0)]; exact h3
    · split; exact h3; exact h0.2.2.1
  · show nb (if s.1 = 0 ∨ ((ofTop D W P Qq onP onQ whole).natAbs : Int) * s.2.2.2.2 < (s.2.2.2.1.natAbs : Int) * ofBot D whole then ofBot D whole else s.2.2.2.2) 40000000
    rcases h.2 with h0 | h0
    · rw [if_pos (Or.inl h0)]; exact b
    · split; exact b; exact h0.2.2.2.2
section C37
variable {g : xG} {Q : xP} {n : Nat} {f : xH}
set_option maxHeartbeats 4000000 in
theorem ct_offer {k : Nat} {ofP own other whole : Int} {s : ofS} {d p q w : Nat → Int} (h3 : f 3 = some (oSs (k : Int) s)) (h4 : f 4 = some (aL 3 d)) (h5 : f 5 = some (aL 3 p)) (h6 : f 6 = some (aL 3 q)) (h7 : f 7 = some (aL 3 w)) (hk : k < 3) (hs : okS s) (hof : ofP = 0 ∨ ofP = 1) (bd4 : bd d 100) (bp : bd p 2000) (bq : bd q 2000) (bw : bd w 2000) (l1 : nb own 400000) (l2 : nb other 400000) (l3 : nb whole 400000)
    (hq : Q (.inl none) n (xup f 3 (oSs (k : Int) (ofr (d k) (w k) (p k) (q k) (if ofP = 0 then other else own) (if ofP = 0 then own else other) whole s)))) : xct g M_X6_offer 0 0 [vR 3, vI ofP, vL own, vL other, vL whole] n f Q := by
  refine xct_of rfl rfl (Nat.le_of_ble_eq_true rfl) ?_
  obtain ⟨s9, s10, s11, s12, s13⟩ := s
  obtain ⟨v12, hs2⟩ := hs
  dsimp only at v12 hs2
  have hs1 : s9 = 0 ∨ s9 = 1 := hs2.elim Or.inl (fun h => Or.inr h.1)
  have hs3 : s9 ≠ 0 → nb s10 400000 ∧ nb s11 400000 ∧ nb s12 2400000000 ∧ nb s13 40000000 := fun h => hs2.elim (fun h0 => absurd h0 h) (fun h1 => h1.2)
  replace h3 : f 3 = some (.inr (6, fX6 (k : Int) s9 s10 s11 s12 s13)) := h3
  have dk := nb_bd bd4 hk
  have pk := nb_bd bp hk
  have qk := nb_bd bq hk
  have wk := nb_bd bw hk
  have D1 : ∀ onP onQ : Int, nb onP 400000 → nb onQ 400000 → Q (.inl none) n (xup f 3 (oSs (k : Int) (ofr (d k) (w k) (p k) (q k) onP onQ whole (s9, s10, s11, s12, s13)))) → xw g M_X6_offer Q 0 0 24 [(0, vR 3), (6, vL whole), (8, vL onP), (10, vL onQ)] [] n f := by
    intro onP onQ m1 m2 hq
    have t2 := okTop (D := d k) wk pk qk m1 m2 l3
    have u2 := okBot (D := d k) dk l3
    have v0 : inL (ofTop (d k) (w k) (p k) (q k) onP onQ whole) := nb_L t2 (by decide)
    have v1 : s9 ≠ 0 → inL (onP * s11) := fun h => nb_L (nb_mul m1 (hs3 h).2.1) (by decide)
    have v2 : s9 ≠ 0 → inL (s10 * whole) := fun h => nb_L (nb_mul (hs3 h).1 l3) (by decide)
    have v3 : s9 ≠ 0 → inL (((ofTop (d k) (w k) (p k) (q k) onP onQ whole).natAbs : Int) * s13) := fun h => nb_L (nb_mul (nb_cast t2) (hs3 h).2.2.2) (by decide)
    have v4 : s9 ≠ 0 → inL ((s12.natAbs : Int) * ofBot (d k) whole) := fun h => nb_L (nb_mul (nb_cast (hs3 h).2.2.1) u2) (by decide)
    have E : ∀ pT pB hT hB : Int, hq = hq → (1 = (1 : Int)) → pT = (if s9 = 0 ∨ onP * s11 < s10 * whole then onP else s10) → pB = (if s9 = 0 ∨ onP * s11 < s10 * whole then whole else s11) → hT = (if s9 = 0 ∨ ((ofTop (d k) (w k) (p k) (q k) onP onQ whole).natAbs : Int) * s13 < (s12.natAbs : Int) * ofBot (d k) whole then ofTop (d k) (w k) (p k) (q k) onP onQ whole else s12) → hB = (if s9 = 0 ∨ ((ofTop (d k) (w k) (p k) (q k) onP onQ whole).natAbs : Int) * s13 < (s12.natAbs : Int) * ofBot (d k) whole then ofBot (d k) whole else s13) → xw g M_X6_offer Q 0 0 219 [(0, vR 3)] [] n (xup f 3 (.inr (6, fX6 (k : Int) s9 pT pB hT hB))) := by
      intro pT pB hT hB _ _ e1 e2 e3 e4
      refine xw_aload_n dX6_offer_219 rfl ?_
      refine xw_iconst dX6_offer_220 ?_
      refine xw_putfield dX6_offer_221 (fp_X6_115 _) rfl rfl rfl ?_
      rw [fX6_9]
      rw [xup_up]
      exact xw_vret dX6_offer_224 rfl (by rw [e1, e2, e3, e4]; exact hq)
    have H : ∀ pT pB : Int, pT = (if s9 = 0 ∨ onP * s11 < s10 * whole then onP else s10) → pB = (if s9 = 0 ∨ onP * s11 < s10 * whole then whole else s11) → xw g M_X6_offer Q 0 0 184 [(0, vR 3), (14, vL (ofBot (d k) whole)), (16, vL (ofTop (d k) (w k) (p k) (q k) onP onQ whole)), (18, vL ((ofTop (d k) (w k) (p k) (q k) onP onQ whole).natAbs : Int)), (20, vL (s12.natAbs : Int))] [] n (xup f 3 (.inr (6, fX6 (k : Int) s9 pT pB s12 s13))) := by
      intro pT pB e1 e2
      refine xw_aload_n dX6_offer_184 rfl ?_
      refine xw_getfield dX6_offer_185 fl_X6_115 rfl rfl ?_
      refine xw_ifeq (tgt := 207) dX6_offer_188 (by decide) (by unfold inI; omega) (fun c_188 => ?_) (fun c_188 => ?_)
      · skip
        refine xw_aload_n dX6_offer_207 rfl ?_
        refine xw_lload dX6_offer_208 rfl ?_
        refine xw_putfield dX6_offer_210 (fp_X6_105 _) rfl rfl rfl ?_
        rw [fX6_12]
        rw [xup_up]
        refine xw_aload_n dX6_offer_213 rfl ?_
        refine xw_lload dX6_offer_214 rfl ?_
        refine xw_putfield dX6_offer_216 (fp_X6_108 _) rfl rfl rfl ?_
        rw [fX6_13]
        rw [xup_up]
        refine xw_ls [(0, vR 3)] ⟨rfl, trivial⟩ (E pT pB _ _ rfl rfl e1 e2 ?_ ?_)
        all_goals first | rw [if_pos (by first | exact Or.inl (by omega) | exact Or.inr (by omega))] | rw [if_neg (by intro h9; rcases h9 with h9 | h9 <;> omega)]
      · skip
        refine xw_lload dX6_offer_191 rfl ?_
        refine xw_aload_n dX6_offer_193 rfl ?_
        refine xw_getfield dX6_offer_194 fl_X6_108 rfl rfl ?_
        refine xw_lmul dX6_offer_197 ?_
        refine xw_lload dX6_offer_198 rfl ?_
        refine xw_lload dX6_offer_200 rfl ?_
        refine xw_lmul dX6_offer_202 ?_
        refine xw_lcmpge (tgt := 219) dX6_offer_203 dX6_offer_204 (by decide) (v3 c_188) (v4 c_188) (fun c_203 => ?_) (fun c_203 => ?_)
        · skip
          refine xw_ls [(0, vR 3)] ⟨rfl, trivial⟩ (E pT pB _ _ rfl rfl e1 e2 ?_ ?_)
          all_goals first | rw [if_pos (by first | exact Or.inl (by omega) | exact Or.inr (by omega))] | rw [if_neg (by intro h9; rcases h9 with h9 | h9 <;> omega)]
        · skip
          refine xw_aload_n dX6_offer_207 rfl ?_
          refine xw_lload dX6_offer_208 rfl ?_
          refine xw_putfield dX6_offer_210 (fp_X6_105 _) rfl rfl rfl ?_
          rw [fX6_12]
          rw [xup_up]
          refine xw_aload_n dX6_offer_213 rfl ?_
          refine xw_lload dX6_offer_214 rfl ?_
          refine xw_putfield dX6_offer_216 (fp_X6_108 _) rfl rfl rfl ?_
          rw [fX6_13]
          rw [xup_up]
          refine xw_ls [(0, vR 3)] ⟨rfl, trivial⟩ (E pT pB _ _ rfl rfl e1 e2 ?_ ?_)
          all_goals first | rw [if_pos (by first | exact Or.inl (by omega) | exact Or.inr (by omega))] | rw [if_neg (by intro h9; rcases h9 with h9 | h9 <;> omega)]
    have G : ∀ pT pB : Int, pT = (if s9 = 0 ∨ onP * s11 < s10 * whole then onP else s10) → pB = (if s9 = 0 ∨ onP * s11 < s10 * whole then whole else s11) → xw g M_X6_offer Q 0 0 144 [(0, vR 3), (14, vL (ofBot (d k) whole)), (16, vL (ofTop (d k) (w k) (p k) (q k) onP onQ whole))] [] n (xup f 3 (.inr (6, fX6 (k : Int) s9 pT pB s12 s13))) := by
      intro pT pB e1 e2
      have G2 : ∀ z : Int, z = ((ofTop (d k) (w k) (p k) (q k) onP onQ whole).natAbs : Int) → xw g M_X6_offer Q 0 0 159 [(0, vR 3), (14, vL (ofBot (d k) whole)), (16, vL (ofTop (d k) (w k) (p k) (q k) onP onQ whole))] [vL z] n (xup f 3 (.inr (6, fX6 (k : Int) s9 pT pB s12 s13))) := by
        intro z hz
        have G3 : ∀ z2 : Int, z2 = (s12.natAbs : Int) → xw g M_X6_offer Q 0 0 182 [(0, vR 3), (14, vL (ofBot (d k) whole)), (16, vL (ofTop (d k) (w k) (p k) (q k) onP onQ whole)), (18, vL ((ofTop (d k) (w k) (p k) (q k) onP onQ whole).natAbs : Int))] [vL z2] n (xup f 3 (.inr (6, fX6 (k : Int) s9 pT pB s12 s13))) := by
          intro z2 hz2
          subst hz2
          refine xw_lstore dX6_offer_182 (by decide) ?_
          exact xw_ls [(0, vR 3), (14, vL (ofBot (d k) whole)), (16, vL (ofTop (d k) (w k) (p k) (q k) onP onQ whole)), (18, vL ((ofTop (d k) (w k) (p k) (q k) onP onQ whole).natAbs : Int)), (20, vL (s12.natAbs : Int))] ⟨rfl, rfl, rfl, rfl, rfl, trivial⟩ (H pT pB e1 e2)
        subst hz
        refine xw_lstore dX6_offer_159 (by decide) ?_
        refine xw_aload_n dX6_offer_161 rfl ?_
        refine xw_getfield dX6_offer_162 fl_X6_105 rfl rfl ?_
        refine xw_lconst (z := 0) dX6_offer_165 (by decide) ?_
        refine xw_lcmpge (tgt := 178) dX6_offer_166 dX6_offer_167 (by decide) v12 (by unfold inL; omega) (fun c_166 => ?_) (fun c_166 => ?_)
        · skip
          refine xw_aload_n dX6_offer_178 rfl ?_
          refine xw_getfield dX6_offer_179 fl_X6_105 rfl rfl ?_
          exact xw_ls [(0, vR 3), (14, vL (ofBot (d k) whole)), (16, vL (ofTop (d k) (w k) (p k) (q k) onP onQ whole)), (18, vL ((ofTop (d k) (w k) (p k) (q k) onP onQ whole).natAbs : Int))] ⟨rfl, rfl, rfl, rfl, trivial⟩ (G3 _ (by omega))
        · skip
          refine xw_aload_n dX6_offer_170 rfl ?_
          refine xw_getfield dX6_offer_171 fl_X6_105 rfl rfl ?_
          refine xw_lneg dX6_offer_174 ?_
          refine xw_goto (tgt := 182) dX6_offer_175 (by decide) ?_
          exact xw_ls [(0, vR 3), (14, vL (ofBot (d k) whole)), (16, vL (ofTop (d k) (w k) (p k) (q k) onP onQ whole)), (18, vL ((ofTop (d k) (w k) (p k) (q k) onP onQ whole).natAbs : Int))] ⟨rfl, rfl, rfl, rfl, trivial⟩ (G3 _ (by omega))
      refine xw_lload dX6_offer_144 rfl ?_
      refine xw_lconst (z := 0) dX6_offer_146 (by decide) ?_
      refine xw_lcmpge (tgt := 157) dX6_offer_147 dX6_offer_148 (by decide) v0 (by unfold inL; omega) (fun c_147 => ?_) (fun c_147 => ?_)
      · skip
        refine xw_lload dX6_offer_157 rfl ?_
        exact G2 _ (by omega)
      · skip
        refine xw_lload dX6_offer_151 rfl ?_
        refine xw_lneg dX6_offer_153 ?_
        refine xw_goto (tgt := 159) dX6_offer_154 (by decide) ?_
        exact G2 _ (by omega)
    have F : xw g M_X6_offer Q 0 0 107 [(0, vR 3), (6, vL whole), (8, vL onP), (14, vL (ofBot (d k) whole)), (16, vL (ofTop (d k) (w k) (p k) (q k) onP onQ whole))] [] n f := by
      refine xw_aload_n dX6_offer_107 rfl ?_
      refine xw_getfield dX6_offer_108 fl_X6_115 h3 rfl ?_
      refine xw_ifeq (tgt := 132) dX6_offer_111 (by decide) (by unfold inI; omega) (fun c_111 => ?_) (fun c_111 => ?_)
      · skip
        refine xw_aload_n dX6_offer_132 rfl ?_
        refine xw_lload dX6_offer_133 rfl ?_
        refine xw_putfield dX6_offer_135 (fp_X6_98 _) h3 rfl rfl ?_
        rw [fX6_10]
        skip
        refine xw_aload_n dX6_offer_138 rfl ?_
        refine xw_lload dX6_offer_139 rfl ?_
        refine xw_putfield dX6_offer_141 (fp_X6_102 _) rfl rfl rfl ?_
        rw [fX6_11]
        rw [xup_up]
        first | exact xw_ls [(0, vR 3), (14, vL (ofBot (d k) whole)), (16, vL (ofTop (d k) (w k) (p k) (q k) onP onQ whole))] ⟨rfl, rfl, rfl, trivial⟩ (G onP whole (by rw [if_pos (by first | exact Or.inl (by omega) | exact Or.inr (by omega))]) (by rw [if_pos (by first | exact Or.inl (by omega) | exact Or.inr (by omega))])) | exact xw_eqf (xup_id h3).symm (xw_ls [(0, vR 3), (14, vL (ofBot (d k) whole)), (16, vL (ofTop (d k) (w k) (p k) (q k) onP onQ whole))] ⟨rfl, rfl, rfl, trivial⟩ (G s10 s11 (by rw [if_neg (by intro h9; rcases h9 with h9 | h9 <;> omega)]) (by rw [if_neg (by intro h9; rcases h9 with h9 | h9 <;> omega)])))
      · skip
        refine xw_lload dX6_offer_114 rfl ?_
        refine xw_aload_n dX6_offer_116 rfl ?_
        refine xw_getfield dX6_offer_117 fl_X6_102 h3 rfl ?_
        refine xw_lmul dX6_offer_120 ?_
        refine xw_aload_n dX6_offer_121 rfl ?_
        refine xw_getfield dX6_offer_122 fl_X6_98 h3 rfl ?_
        refine xw_lload dX6_offer_125 rfl ?_
        refine xw_lmul dX6_offer_127 ?_
        refine xw_lcmpge (tgt := 144) dX6_offer_128 dX6_offer_129 (by decide) (v1 c_111) (v2 c_111) (fun c_128 => ?_) (fun c_128 => ?_)
        · skip
          first | exact xw_ls [(0, vR 3), (14, vL (ofBot (d k) whole)), (16, vL (ofTop (d k) (w k) (p k) (q k) onP onQ whole))] ⟨rfl, rfl, rfl, trivial⟩ (G onP whole (by rw [if_pos (by first | exact Or.inl (by omega) | exact Or.inr (by omega))]) (by rw [if_pos (by first | exact Or.inl (by omega) | exact Or.inr (by omega))])) | exact xw_eqf (xup_id h3).symm (xw_ls [(0, vR 3), (14, vL (ofBot (d k) whole)), (16, vL (ofTop (d k) (w k) (p k) (q k) onP onQ whole))] ⟨rfl, rfl, rfl, trivial⟩ (G s10 s11 (by rw [if_neg (by intro h9; rcases h9 with h9 | h9 <;> omega)]) (by rw [if_neg (by intro h9; rcases h9 with h9 | h9 <;> omega)])))
        · skip
          refine xw_aload_n dX6_offer_132 rfl ?_
          refine xw_lload dX6_offer_133 rfl ?_
          refine xw_putfield dX6_offer_135 (fp_X6_98 _) h3 rfl rfl ?_
          rw [fX6_10]
          skip
          refine xw_aload_n dX6_offer_138 rfl ?_
          refine xw_lload dX6_offer_139 rfl ?_
          refine xw_putfield dX6_offer_141 (fp_X6_102 _) rfl rfl rfl ?_
          rw [fX6_11]
          rw [xup_up]
          first | exact xw_ls [(0, vR 3), (14, vL (ofBot (d k) whole)), (16, vL (ofTop (d k) (w k) (p k) (q k) onP onQ whole))] ⟨rfl, rfl, rfl, trivial⟩ (G onP whole (by rw [if_pos (by first | exact Or.inl (by omega) | exact Or.inr (by omega))]) (by rw [if_pos (by first | exact Or.inl (by omega) | exact Or.inr (by omega))])) | exact xw_eqf (xup_id h3).symm (xw_ls [(0, vR 3), (14, vL (ofBot (d k) whole)), (16, vL (ofTop (d k) (w k) (p k) (q k) onP onQ whole))] ⟨rfl, rfl, rfl, trivial⟩ (G s10 s11 (by rw [if_neg (by intro h9; rcases h9 with h9 | h9 <;> omega)]) (by rw [if_neg (by intro h9; rcases h9 with h9 | h9 <;> omega)])))
    have S : ∀ z : Int, z = sgn (d k) → xw g M_X6_offer Q 0 0 45 [(0, vR 3), (6, vL whole), (8, vL onP), (10, vL onQ)] [vL z] n f := by
      intro z hz
      subst hz
      refine xw_lstore dX6_offer_45 (by decide) ?_
      refine xw_lload dX6_offer_47 rfl ?_
      refine xw_lload dX6_offer_49 rfl ?_
      refine xw_lmul dX6_offer_51 ?_
      refine xw_aload_n dX6_offer_52 rfl ?_
      refine xw_getfield dX6_offer_53 fl_X6_9 h3 rfl ?_
      refine xw_aload_n dX6_offer_56 rfl ?_
      refine xw_getfield dX6_offer_57 fl_X6_36 h3 rfl ?_
      refine xw_lald dX6_offer_60 h4 (j := k) rfl hk (by decide) ?_
      refine xw_lmul dX6_offer_61 ?_
      refine xw_lstore dX6_offer_62 (by decide) ?_
      refine xw_lload dX6_offer_64 rfl ?_
      refine xw_lload dX6_offer_66 rfl ?_
      refine xw_aload_n dX6_offer_68 rfl ?_
      refine xw_getfield dX6_offer_69 fl_X6_21 h3 rfl ?_
      refine xw_aload_n dX6_offer_72 rfl ?_
      refine xw_getfield dX6_offer_73 fl_X6_36 h3 rfl ?_
      refine xw_lald dX6_offer_76 h7 (j := k) rfl hk (by decide) ?_
      refine xw_lmul dX6_offer_77 ?_
      refine xw_lload dX6_offer_78 rfl ?_
      refine xw_aload_n dX6_offer_80 rfl ?_
      refine xw_getfield dX6_offer_81 fl_X6_18 h3 rfl ?_
      refine xw_aload_n dX6_offer_84 rfl ?_
      refine xw_getfield dX6_offer_85 fl_X6_36 h3 rfl ?_
      refine xw_lald dX6_offer_88 h6 (j := k) rfl hk (by decide) ?_
      refine xw_lmul dX6_offer_89 ?_
      refine xw_ladd dX6_offer_90 ?_
      refine xw_lload dX6_offer_91 rfl ?_
      refine xw_aload_n dX6_offer_93 rfl ?_
      refine xw_getfield dX6_offer_94 fl_X6_15 h3 rfl ?_
      refine xw_aload_n dX6_offer_97 rfl ?_
      refine xw_getfield dX6_offer_98 fl_X6_36 h3 rfl ?_
      refine xw_lald dX6_offer_101 h5 (j := k) rfl hk (by decide) ?_
      refine xw_lmul dX6_offer_102 ?_
      refine xw_lsub dX6_offer_103 ?_
      refine xw_lmul dX6_offer_104 ?_
      refine xw_lstore dX6_offer_105 (by decide) ?_
      exact xw_ls [(0, vR 3), (6, vL whole), (8, vL onP), (14, vL (ofBot (d k) whole)), (16, vL (ofTop (d k) (w k) (p k) (q k) onP onQ whole))] ⟨rfl, rfl, rfl, rfl, rfl, trivial⟩ F
    refine xw_aload_n dX6_offer_24 rfl ?_
    refine xw_getfield dX6_offer_25 fl_X6_9 h3 rfl ?_
    refine xw_aload_n dX6_offer_28 rfl ?_
    refine xw_getfield dX6_offer_29 fl_X6_36 h3 rfl ?_
    refine xw_lald dX6_offer_32 h4 (j := k) rfl hk (by decide) ?_
    refine xw_lconst (z := 0) dX6_offer_33 (by decide) ?_
    refine xw_lcmpge (tgt := 44) dX6_offer_34 dX6_offer_35 (by decide) (nb_L dk (by decide)) (by unfold inL; omega) (fun c_34 => ?_) (fun c_34 => ?_)
    · skip
      refine xw_lconst (z := 1) dX6_offer_44 (by decide) ?_
      exact S _ (by unfold sgn; first | rw [if_pos (by omega)] | rw [if_neg (by omega)])
    · skip
      refine xw_ldc2 (z := -1) dX6_offer_38 kl_X6_96 (by decide) ?_
      refine xw_goto (tgt := 45) dX6_offer_41 (by decide) ?_
      exact S _ (by unfold sgn; first | rw [if_pos (by omega)] | rw [if_neg (by omega)])
  have D2 : ∀ onP : Int, onP = (if ofP = 0 then other else own) → xw g M_X6_offer Q 0 0 10 [(0, vR 3), (1, vI ofP), (2, vL own), (4, vL other), (6, vL whole)] [vL onP] n f := by
    intro onP e1
    have D3 : ∀ onQ : Int, onQ = (if ofP = 0 then own else other) → xw g M_X6_offer Q 0 0 22 [(0, vR 3), (6, vL whole), (8, vL onP)] [vL onQ] n f := by
      intro onQ e2
      refine xw_lstore dX6_offer_22 (by decide) ?_
      exact xw_ls [(0, vR 3), (6, vL whole), (8, vL onP), (10, vL onQ)] ⟨rfl, rfl, rfl, rfl, trivial⟩ (D1 onP onQ (by rw [e1]; split <;> assumption) (by rw [e2]; split <;> assumption) (by rw [e1, e2]; exact hq))
    refine xw_lstore dX6_offer_10 (by decide) ?_
    refine xw_iload_n dX6_offer_12 rfl ?_
    refine xw_ifeq (tgt := 21) dX6_offer_13 (by decide) (by unfold inI; omega) (fun c_13 => ?_) (fun c_13 => ?_)
    · skip
      refine xw_lload_n dX6_offer_21 rfl ?_
      exact xw_ls [(0, vR 3), (6, vL whole), (8, vL onP)] ⟨rfl, rfl, rfl, trivial⟩ (D3 _ (by first | rw [if_pos (by omega)] | rw [if_neg (by omega)]))
    · skip
      refine xw_lload dX6_offer_16 rfl ?_
      refine xw_goto (tgt := 22) dX6_offer_18 (by decide) ?_
      exact xw_ls [(0, vR 3), (6, vL whole), (8, vL onP)] ⟨rfl, rfl, rfl, trivial⟩ (D3 _ (by first | rw [if_pos (by omega)] | rw [if_neg (by omega)]))
  refine xw_iload_n dX6_offer_0 rfl ?_
  refine xw_ifeq (tgt := 8) dX6_offer_1 (by decide) (by unfold inI; omega) (fun c_1 => ?_) (fun c_1 => ?_)
  · skip
    refine xw_lload dX6_offer_8 rfl ?_
    exact D2 _ (by first | rw [if_pos (by omega)] | rw [if_neg (by omega)])
  · skip
    refine xw_lload_n dX6_offer_4 rfl ?_
    refine xw_goto (tgt := 10) dX6_offer_5 (by decide) ?_
    exact D2 _ (by first | rw [if_pos (by omega)] | rw [if_neg (by omega)])
end C37
