/-! the model's best place and height -/
def sgA (a b : Int) : Int := if b < 0 then -a else a
def mkp (p q t : Int) (l : Nat) (s : ofS) : ofS :=
  (1, ((if s.1 = 0 ∨ p * s.2.2.1 < s.2.1 * q then p else s.2.1), ((if s.1 = 0 ∨ p * s.2.2.1 < s.2.1 * q then q else s.2.2.1),
    ((if s.1 = 0 ∨ ((t.natAbs / Nat.gcd t.natAbs l : Nat) : Int) * s.2.2.2.2 < (s.2.2.2.1.natAbs : Int) * ((l / Nat.gcd t.natAbs l : Nat) : Int) then t.tdiv (Nat.gcd t.natAbs l : Int) else s.2.2.2.1),
     (if s.1 = 0 ∨ ((t.natAbs / Nat.gcd t.natAbs l : Nat) : Int) * s.2.2.2.2 < (s.2.2.2.1.natAbs : Int) * ((l / Nat.gcd t.natAbs l : Nat) : Int) then ((l / Nat.gcd t.natAbs l : Nat) : Int) else s.2.2.2.2)))))
def kst (m : Nat → Int) (s : ofS) : Prop := m 29 = 1 - s.1 ∧ m 25 = s.2.1 ∧ m 26 = s.2.2.1 ∧ m 27 = s.2.2.2.1 ∧ m 28 = s.2.2.2.2
/-- the numbers of a best so far are small -/
def smS (s : ofS) : Prop := nb s.2.1 400000 ∧ nb s.2.2.1 400000 ∧ nb s.2.2.2.1 2400000000 ∧ nb s.2.2.2.2 40000000
theorem sgA_n {a b : Int} {A : Nat} (h : nb a A) : nb (sgA a b) A := by unfold sgA; split; exact nb_neg h; exact h
theorem gcd_d {t : Int} {l : Nat} (hl : 0 < l) : 0 < Nat.gcd t.natAbs l ∧ Nat.gcd t.natAbs l ≤ l := ⟨Nat.gcd_pos_of_pos_right _ hl, Nat.le_of_dvd hl (Nat.gcd_dvd_right _ _)⟩
theorem tdiv_n {t : Int} {g A : Nat} (h : nb t A) : nb (t.tdiv (g : Int)) A := by
  unfold nb at *
  rw [Int.natAbs_tdiv]
  exact Nat.le_trans (Nat.div_le_self _ _) h
theorem nb_nat {a A : Nat} (h : a ≤ A) : nb (a : Int) A := by unfold nb; rw [Int.natAbs_natCast]; exact h
theorem mkp_sm {p q t : Int} {l : Nat} {s : ofS} (hs : s.1 = 0 ∨ smS s) (hp : nb p 400000) (hq : nb q 400000) (ht : nb t 2400000000) (hl : l ≤ 40000000) : smS (mkp p q t l s) := by
  unfold mkp
  refine ⟨?_, ?_, ?_, ?_⟩
  · show nb (if _ then _ else _) _
    split
    · exact hp
    · next h => rcases hs with hs | hs; exact absurd (Or.inl hs) h; exact hs.1
  · show nb (if _ then _ else _) _
    split
    · exact hq
    · next h => rcases hs with hs | hs; exact absurd (Or.inl hs) h; exact hs.2.1
  · show nb (if _ then _ else _) _
    split
    · exact tdiv_n ht
    · next h => rcases hs with hs | hs; exact absurd (Or.inl hs) h; exact hs.2.2.1
  · show nb (if _ then _ else _) _
    split
    · exact nb_nat (Nat.le_trans (Nat.div_le_self _ _) hl)
    · next h => rcases hs with hs | hs; exact absurd (Or.inl hs) h; exact hs.2.2.2
def mUp (d u v w : Nat → Int) (aU aL bU bL : Int) : Int := w (ax1 d) * aL * bL + v (ax1 d) * bU * aL - u (ax1 d) * aU * bL
def mLo (d : Nat → Int) (aL bL : Int) : Int := d (ax1 d) * aL * bL
def mMeet (d u v w : Nat → Int) (aU aL bU bL : Int) (s : ofS) : ofS := mkp (sgA aU aL) (aL.natAbs : Int) (sgA (mUp d u v w aU aL bU bL) (mLo d aL bL)) (mLo d aL bL).natAbs s
section C86
variable {g : xG} {y : xM} {Q : xP} {n : Nat} {f : xH}
set_option maxHeartbeats 4000000 in
theorem ct_mgcd {a b : Nat} (ha : a ≤ 4611686018427387904) (hb : b ≤ 4611686018427387904) (hq : Q (.inl (some (vL ((Nat.gcd a b : Nat) : Int)))) n f) : xct g M_X10_gcd 0 0 [vL (a : Int), vL (b : Int)] n f Q := by
  refine xct_of rfl rfl (Nat.le_of_ble_eq_true rfl) ?_
  obtain ⟨G, hG⟩ : ∃ G, G = Nat.gcd a b := ⟨_, rfl⟩
  rw [← hG] at hq
  have L : ∀ (k x y9 : Nat), y9 < k → x ≤ 4611686018427387904 → y9 ≤ 4611686018427387904 → Nat.gcd x y9 = G → xw g M_X10_gcd Q 0 0 6 [(4, vL (x : Int)), (6, vL (y9 : Int))] [] n f := by
    intro k
    induction k with
    | zero => intro x y9 h; omega
    | succ k ih =>
      intro x y9 hk hx hy hg
      by_cases e : y9 = 0
      · subst e
        rw [Nat.gcd_zero_right] at hg
        subst hg
        refine xw_lload dX10_gcd_6 rfl ?_
        refine xw_lconst (z := 0) dX10_gcd_8 (by decide) ?_
        refine xw_lcmpeq (tgt := 31) dX10_gcd_9 dX10_gcd_10 (by decide) (natL hy) (by unfold inL; omega) (fun c_9 => ?_) (fun c_9 => ?_)
        · skip
          refine xw_lload dX10_gcd_31 rfl ?_
          exact xw_lret dX10_gcd_33 rfl hq
        · skip
          exfalso; omega
      · have hlt : x % y9 < y9 := Nat.mod_lt _ (by omega)
        refine xw_lload dX10_gcd_6 rfl ?_
        refine xw_lconst (z := 0) dX10_gcd_8 (by decide) ?_
        refine xw_lcmpeq (tgt := 31) dX10_gcd_9 dX10_gcd_10 (by decide) (natL hy) (by unfold inL; omega) (fun c_9 => ?_) (fun c_9 => ?_)
        · skip
          exfalso; omega
        · skip
          refine xw_lload dX10_gcd_13 rfl ?_
          refine xw_lload dX10_gcd_15 rfl ?_
          refine xw_lrem dX10_gcd_17 (natL hx) (natL hy) (by omega) ?_
          refine xw_topl ((x % y9 : Nat) : Int) (Int.ofNat_tmod x y9).symm ?_
          refine xw_lstore dX10_gcd_18 (by decide) ?_
          refine xw_lload dX10_gcd_20 rfl ?_
          refine xw_lstore dX10_gcd_22 (by decide) ?_
          refine xw_lload dX10_gcd_24 rfl ?_
          refine xw_lstore dX10_gcd_26 (by decide) ?_
          refine xw_goto (tgt := 6) dX10_gcd_28 (by decide) ?_
          exact xw_ls [(4, vL (y9 : Int)), (6, vL ((x % y9 : Nat) : Int))] ⟨rfl, rfl, trivial⟩ (ih y9 (x % y9) (by omega) hy (by omega) (by rw [← hg, Nat.gcd_comm x y9, Nat.gcd_rec y9 x, Nat.gcd_comm]))
  refine xw_lload_n dX10_gcd_0 rfl ?_
  refine xw_lstore dX10_gcd_1 (by decide) ?_
  refine xw_lload_n dX10_gcd_3 rfl ?_
  refine xw_lstore dX10_gcd_4 (by decide) ?_
  exact xw_ls [(4, vL (a : Int)), (6, vL (b : Int))] ⟨rfl, rfl, trivial⟩ (L (b + 1) a b (by omega) ha hb hG.symm)
set_option maxHeartbeats 8000000 in
theorem ct_keep {m : Nat → Int} {aU aL tU tL : Int} {s : ofS} (h38 : f 38 = some (oMd m)) (hk : kst m s) (hf : s.1 = 0 ∨ s.1 = 1) (h27 : inL s.2.2.2.1) (haL : aL ≠ 0) (htL : tL ≠ 0) (ba : nb aU 2400000000) (bb : nb aL 2400000000) (bt : nb tU 48000000000) (bl : nb tL 2400000000) (hsm : s.1 = 0 ∨ (smS s ∧ nb aU 400000 ∧ nb aL 400000 ∧ nb tU 2400000000 ∧ nb tL 40000000))
    (hq : ∀ m1, kst m1 (mkp (sgA aU aL) (aL.natAbs : Int) (sgA tU tL) tL.natAbs s) → (∀ k, k < 25 ∨ 29 < k → m1 k = m k) → Q (.inl none) n (xup f 38 (oMd m1))) : xct g M_X10_keep 0 0 [vR 38, vL aU, vL aL, vL tU, vL tL] n f Q := by
  refine xct_of rfl rfl (Nat.le_of_ble_eq_true rfl) ?_
  obtain ⟨k29, k25, k26, k27, k28⟩ := id hk
  have ia := nb_L ba (by decide)
  have ib := nb_L bb (by decide)
  have it := nb_L bt (by decide)
  have il := nb_L bl (by decide)
  obtain ⟨p, hp⟩ : ∃ p, p = sgA aU aL := ⟨_, rfl⟩
  obtain ⟨q, hq9⟩ : ∃ q : Nat, q = aL.natAbs := ⟨_, rfl⟩
  obtain ⟨t, ht⟩ : ∃ t, t = sgA tU tL := ⟨_, rfl⟩
  obtain ⟨l, hl⟩ : ∃ l : Nat, l = tL.natAbs := ⟨_, rfl⟩
  rw [← hp, ← hq9, ← ht, ← hl] at hq
  have bt' : nb t 48000000000 := by rw [ht]; exact sgA_n bt
  have lp : 0 < l := by rw [hl]; omega
  have lb : l ≤ 2400000000 := by rw [hl]; exact bl
  obtain ⟨G, hG⟩ : ∃ G, G = Nat.gcd t.natAbs l := ⟨_, rfl⟩
  have hGp : 0 < G ∧ G ≤ l := by rw [hG]; exact gcd_d lp
  have i27 : inL (m 27) := by rw [k27]; exact h27
  -- the height, from 99 on
  have H2 : ∀ (m1 : Nat → Int), m1 29 = m 29 → m1 27 = m 27 → m1 28 = m 28 → (∀ k, k < 25 ∨ 29 < k → m1 k = m k) → m1 25 = (if s.1 = 0 ∨ p * s.2.2.1 < s.2.1 * (q : Int) then p else s.2.1) → m1 26 = (if s.1 = 0 ∨ p * s.2.2.1 < s.2.1 * (q : Int) then (q : Int) else s.2.2.1) → xw g M_X10_keep Q 0 0 99 [(0, vR 38), (9, vL p), (11, vL (q : Int)), (13, vL t), (15, vL (l : Int))] [] n (xup f 38 (oMd m1)) := by
    intro m1 e29 e27 e28 em e25 e26
    obtain ⟨F, hF⟩ : ∃ F, F = xup f 38 (oMd m1) := ⟨_, rfl⟩
    have F38 : F 38 = some (oMd m1) := by rw [hF, xup_s]
    rw [← hF]
    have Fin : ∀ m2, m2 29 = 0 → m2 25 = m1 25 → m2 26 = m1 26 → (∀ k, k < 25 ∨ 29 < k → m2 k = m1 k) → m2 27 = (if s.1 = 0 ∨ ((t.natAbs / Nat.gcd t.natAbs l : Nat) : Int) * s.2.2.2.2 < (s.2.2.2.1.natAbs : Int) * ((l / Nat.gcd t.natAbs l : Nat) : Int) then t.tdiv (Nat.gcd t.natAbs l : Int) else s.2.2.2.1) → m2 28 = (if s.1 = 0 ∨ ((t.natAbs / Nat.gcd t.natAbs l : Nat) : Int) * s.2.2.2.2 < (s.2.2.2.1.natAbs : Int) * ((l / Nat.gcd t.natAbs l : Nat) : Int) then ((l / Nat.gcd t.natAbs l : Nat) : Int) else s.2.2.2.2) → Q (.inl none) n (xup F 38 (oMd m2)) := by
      intro m2 d29 d25 d26 dm d27 d28
      rw [hF, xup_up]
      exact hq m2 ⟨by rw [d29]; rfl, by rw [d25, e25]; rfl, by rw [d26, e26]; rfl, d27, d28⟩ (fun k hk9 => (dm k hk9).trans (em k hk9))
    have D : ∀ (ot : Int), ot = (s.2.2.2.1.natAbs : Int) → xw g M_X10_keep Q 0 0 139 [(0, vR 38), (13, vL t), (15, vL (l : Int)), (17, vL (t.natAbs : Int)), (19, vL ot)] [] n F := by
      intro ot hot
      have W9 : (s.1 = 0 ∨ ((t.natAbs / G : Nat) : Int) * s.2.2.2.2 < (s.2.2.2.1.natAbs : Int) * ((l / G : Nat) : Int)) → xw g M_X10_keep Q 0 0 177 [(0, vR 38), (13, vL t), (15, vL (l : Int)), (21, vL (G : Int))] [] n F := by
        intro hc9
        refine xw_aload_n dX10_keep_177 rfl ?_
        refine xw_lload dX10_keep_178 rfl ?_
        refine xw_lload dX10_keep_180 rfl ?_
        refine xw_ldiv dX10_keep_182 (nb_L bt' (by decide)) (natL (by omega)) (by omega) ?_
        refine xw_putfield dX10_keep_183 (fp_X10_240 _) F38 rfl rfl ?_
        rw [xmd_27]
        refine xw_aload_n dX10_keep_186 rfl ?_
        refine xw_lload dX10_keep_187 rfl ?_
        refine xw_lload dX10_keep_189 rfl ?_
        refine xw_ldiv dX10_keep_191 (natL (by omega)) (natL (by omega)) (by omega) ?_
        refine xw_topl ((l / G : Nat) : Int) (Int.ofNat_tdiv l G).symm ?_
        refine xw_putfield dX10_keep_192 (fp_X10_247 _) rfl rfl rfl ?_
        rw [xmd_28]
        rw [xup_up]
        refine xw_aload_n dX10_keep_195 rfl ?_
        refine xw_iconst dX10_keep_196 ?_
        refine xw_putfield dX10_keep_197 (fp_X10_229 _) rfl rfl rfl ?_
        rw [xmd_29]
        rw [xup_up]
        exact xw_vret dX10_keep_200 rfl (Fin _ rfl rfl rfl (fun k hk9 => by rw [xui_n _ _ (by omega), xui_n _ _ (by omega), xui_n _ _ (by omega)]) (by rw [← hG, if_pos hc9]; rfl) (by rw [← hG, if_pos hc9]; rfl))
      have N9 : ¬ (s.1 = 0 ∨ ((t.natAbs / G : Nat) : Int) * s.2.2.2.2 < (s.2.2.2.1.natAbs : Int) * ((l / G : Nat) : Int)) → xw g M_X10_keep Q 0 0 195 [(0, vR 38)] [] n F := by
        intro hc9
        refine xw_aload_n dX10_keep_195 rfl ?_
        refine xw_iconst dX10_keep_196 ?_
        refine xw_putfield dX10_keep_197 (fp_X10_229 _) F38 rfl rfl ?_
        rw [xmd_29]
        exact xw_vret dX10_keep_200 rfl (Fin _ rfl rfl rfl (fun k hk9 => xui_n _ _ (by omega)) (by rw [← hG, if_neg hc9]; exact e27.trans k27) (by rw [← hG, if_neg hc9]; exact e28.trans k28))
      have i29 : inI (m1 29) := by rw [e29, k29]; unfold inI; omega
      refine xw_lload dX10_keep_139 rfl ?_
      refine xw_lload dX10_keep_141 rfl ?_
      refine xw_callS (rc := 0) (rs := 0) (mc2 := 0) (ms2 := 0) (As := [vL (t.natAbs : Int), vL (l : Int)]) (st := []) dX10_keep_143 ms_X10_243 rfl (by decide) (by decide) (Nat.le_of_ble_eq_true rfl) rfl (ct_mgcd (by unfold nb at bt'; omega) (by omega) ?_)
      rw [← hG]
      refine xw_lstore dX10_keep_146 (by decide) ?_
      refine xw_aload_n dX10_keep_148 rfl ?_
      refine xw_getfield dX10_keep_149 fl_X10_229 F38 rfl ?_
      refine xw_ifne (tgt := 177) dX10_keep_152 (by decide) (by exact i29) (fun c_152 => ?_) (fun c_152 => ?_)
      · skip
        first
          | exact xw_ls [(0, vR 38), (13, vL t), (15, vL (l : Int)), (21, vL (G : Int))] ⟨rfl, rfl, rfl, rfl, trivial⟩ (W9 (Or.inl (by have : ¬ m1 29 = 0 := c_152; omega)))
          | exact xw_ls [(0, vR 38), (13, vL t), (15, vL (l : Int)), (21, vL (G : Int))] ⟨rfl, rfl, rfl, rfl, trivial⟩ (W9 (Or.inr (by rw [← hot]; omega)))
      · skip
        refine xw_lload dX10_keep_155 rfl ?_
        refine xw_lload dX10_keep_157 rfl ?_
        refine xw_ldiv dX10_keep_159 (natL (by unfold nb at bt'; omega)) (natL (by omega)) (by omega) ?_
        refine xw_topl ((t.natAbs / G : Nat) : Int) (Int.ofNat_tdiv t.natAbs G).symm ?_
        refine xw_aload_n dX10_keep_160 rfl ?_
        refine xw_getfield dX10_keep_161 fl_X10_247 F38 rfl ?_
        refine xw_topl s.2.2.2.2 (e28.trans k28) ?_
        refine xw_lmul dX10_keep_164 ?_
        refine xw_lload dX10_keep_165 rfl ?_
        refine xw_lload dX10_keep_167 rfl ?_
        refine xw_lload dX10_keep_169 rfl ?_
        refine xw_ldiv dX10_keep_171 (natL (by omega)) (natL (by omega)) (by omega) ?_
        refine xw_topl ((l / G : Nat) : Int) (Int.ofNat_tdiv l G).symm ?_
        refine xw_lmul dX10_keep_172 ?_
        obtain ⟨hs1, hs2, hs3, hs4, hs5⟩ := hsm.resolve_left (fun k => by have : m1 29 = 0 := c_152; omega)
        have n1 : nb ((t.natAbs / G : Nat) : Int) 2400000000 := by
          have b9 : nb t 2400000000 := by rw [ht]; exact sgA_n hs4
          exact nb_nat (Nat.le_trans (Nat.div_le_self _ _) b9)
        have n2 : nb ((l / G : Nat) : Int) 40000000 := by
          have b9 : l ≤ 40000000 := by rw [hl]; exact hs5
          exact nb_nat (Nat.le_trans (Nat.div_le_self _ _) b9)
        have n3 : nb ot 2400000000 := by rw [hot]; exact nb_cast hs1.2.2.1
        refine xw_lcmpge (tgt := 195) dX10_keep_173 dX10_keep_174 (by decide) (nb_L (nb_mul n1 hs1.2.2.2) (by decide)) (nb_L (nb_mul n3 n2) (by decide)) (fun c_173 => ?_) (fun c_173 => ?_)
        · skip
          exact xw_ls [(0, vR 38)] ⟨rfl, trivial⟩ (N9 (fun k => by
              rcases k with k | k
              · have : m1 29 = 0 := c_152
                omega
              · rw [← hot] at k; omega))
        · skip
          first
            | exact xw_ls [(0, vR 38), (13, vL t), (15, vL (l : Int)), (21, vL (G : Int))] ⟨rfl, rfl, rfl, rfl, trivial⟩ (W9 (Or.inl (by have : ¬ m1 29 = 0 := c_152; omega)))
            | exact xw_ls [(0, vR 38), (13, vL t), (15, vL (l : Int)), (21, vL (G : Int))] ⟨rfl, rfl, rfl, rfl, trivial⟩ (W9 (Or.inr (by rw [← hot]; omega)))
    have C : xw g M_X10_keep Q 0 0 116 [(0, vR 38), (13, vL t), (15, vL (l : Int)), (17, vL (t.natAbs : Int))] [] n F := by
      have E9 : ∀ z : Int, z = (s.2.2.2.1.natAbs : Int) → xw g M_X10_keep Q 0 0 137 [(0, vR 38), (13, vL t), (15, vL (l : Int)), (17, vL (t.natAbs : Int))] [vL z] n F := by
        intro z hz
        refine xw_lstore dX10_keep_137 (by decide) ?_
        exact xw_ls [(0, vR 38), (13, vL t), (15, vL (l : Int)), (17, vL (t.natAbs : Int)), (19, vL z)] ⟨rfl, rfl, rfl, rfl, rfl, trivial⟩ (D z hz)
      have e279 : m1 27 = s.2.2.2.1 := e27.trans k27
      refine xw_aload_n dX10_keep_116 rfl ?_
      refine xw_getfield dX10_keep_117 fl_X10_240 F38 rfl ?_
      refine xw_lconst (z := 0) dX10_keep_120 (by decide) ?_
      refine xw_lcmpge (tgt := 133) dX10_keep_121 dX10_keep_122 (by decide) (by show inL (m1 27); rw [e27]; exact i27) (by unfold inL; omega) (fun c_121 => ?_) (fun c_121 => ?_)
      · skip
        refine xw_aload_n dX10_keep_133 rfl ?_
        refine xw_getfield dX10_keep_134 fl_X10_240 F38 rfl ?_
        first
          | exact E9 _ (by show -(m1 27) = _; rw [e279]; have c9 : m1 27 < 0 := c_121; omega)
          | exact E9 _ (by show m1 27 = _; rw [e279]; have c9 : ¬ m1 27 < 0 := c_121; omega)
          | exact E9 _ (by show m1 27 = _; rw [e279]; have c9 : 0 ≤ m1 27 := c_121; omega)
          | exact E9 _ (by show -(m1 27) = _; rw [e279]; have c9 : ¬ 0 ≤ m1 27 := c_121; omega)
      · skip
        refine xw_aload_n dX10_keep_125 rfl ?_
        refine xw_getfield dX10_keep_126 fl_X10_240 F38 rfl ?_
        refine xw_lneg dX10_keep_129 ?_
        refine xw_goto (tgt := 137) dX10_keep_130 (by decide) ?_
        first
          | exact E9 _ (by show -(m1 27) = _; rw [e279]; have c9 : m1 27 < 0 := c_121; omega)
          | exact E9 _ (by show m1 27 = _; rw [e279]; have c9 : ¬ m1 27 < 0 := c_121; omega)
          | exact E9 _ (by show m1 27 = _; rw [e279]; have c9 : 0 ≤ m1 27 := c_121; omega)
          | exact E9 _ (by show -(m1 27) = _; rw [e279]; have c9 : ¬ 0 ≤ m1 27 := c_121; omega)
    have E8 : ∀ z : Int, z = (t.natAbs : Int) → xw g M_X10_keep Q 0 0 114 [(0, vR 38), (13, vL t), (15, vL (l : Int))] [vL z] n F := by
      intro z hz
      subst hz
      refine xw_lstore dX10_keep_114 (by decide) ?_
      exact xw_ls [(0, vR 38), (13, vL t), (15, vL (l : Int)), (17, vL (t.natAbs : Int))] ⟨rfl, rfl, rfl, rfl, trivial⟩ C
    refine xw_lload dX10_keep_99 rfl ?_
    refine xw_lconst (z := 0) dX10_keep_101 (by decide) ?_
    refine xw_lcmpge (tgt := 112) dX10_keep_102 dX10_keep_103 (by decide) (nb_L bt' (by decide)) (by unfold inL; omega) (fun c_102 => ?_) (fun c_102 => ?_)
    · skip
      refine xw_lload dX10_keep_112 rfl ?_
      first
        | exact xw_ls [(0, vR 38), (13, vL t), (15, vL (l : Int))] ⟨rfl, rfl, rfl, trivial⟩ (E8 (-t) (by omega))
        | exact xw_ls [(0, vR 38), (13, vL t), (15, vL (l : Int))] ⟨rfl, rfl, rfl, trivial⟩ (E8 t (by omega))
    · skip
      refine xw_lload dX10_keep_106 rfl ?_
      refine xw_lneg dX10_keep_108 ?_
      refine xw_goto (tgt := 114) dX10_keep_109 (by decide) ?_
      first
        | exact xw_ls [(0, vR 38), (13, vL t), (15, vL (l : Int))] ⟨rfl, rfl, rfl, trivial⟩ (E8 (-t) (by omega))
        | exact xw_ls [(0, vR 38), (13, vL t), (15, vL (l : Int))] ⟨rfl, rfl, rfl, trivial⟩ (E8 t (by omega))
  have H1 : xw g M_X10_keep Q 0 0 62 [(0, vR 38), (9, vL p), (11, vL (q : Int)), (13, vL t), (15, vL (l : Int))] [] n f := by
    have i29 : inI (m 29) := by rw [k29]; unfold inI; omega
    have Y : (s.1 = 0 ∨ p * s.2.2.1 < s.2.1 * (q : Int)) → xw g M_X10_keep Q 0 0 87 [(0, vR 38), (9, vL p), (11, vL (q : Int)), (13, vL t), (15, vL (l : Int))] [] n f := by
      intro hc9
      refine xw_aload_n dX10_keep_87 rfl ?_
      refine xw_lload dX10_keep_88 rfl ?_
      refine xw_putfield dX10_keep_90 (fp_X10_237 _) h38 rfl rfl ?_
      rw [xmd_25]
      refine xw_aload_n dX10_keep_93 rfl ?_
      refine xw_lload dX10_keep_94 rfl ?_
      refine xw_putfield dX10_keep_96 (fp_X10_233 _) rfl rfl rfl ?_
      rw [xmd_26]
      rw [xup_up]
      exact xw_ls [(0, vR 38), (9, vL p), (11, vL (q : Int)), (13, vL t), (15, vL (l : Int))] ⟨rfl, rfl, rfl, rfl, rfl, trivial⟩ (H2 _ rfl rfl rfl (fun k hk9 => by rw [xui_n _ _ (by omega), xui_n _ _ (by omega)]) (by rw [if_pos hc9]; rfl) (by rw [if_pos hc9]; rfl))
    have N : ¬ (s.1 = 0 ∨ p * s.2.2.1 < s.2.1 * (q : Int)) → xw g M_X10_keep Q 0 0 99 [(0, vR 38), (9, vL p), (11, vL (q : Int)), (13, vL t), (15, vL (l : Int))] [] n f := by
      intro hc9
      have h9 := H2 m rfl rfl rfl (fun _ _ => rfl) (by rw [if_neg hc9]; exact k25) (by rw [if_neg hc9]; exact k26)
      rw [xup_id h38] at h9
      exact h9
    refine xw_aload_n dX10_keep_62 rfl ?_
    refine xw_getfield dX10_keep_63 fl_X10_229 h38 rfl ?_
    refine xw_ifne (tgt := 87) dX10_keep_66 (by decide) i29 (fun c_66 => ?_) (fun c_66 => ?_)
    · skip
      first
        | exact Y (Or.inl (by have : ¬ m 29 = 0 := c_66; omega))
        | exact Y (Or.inr (by omega))
    · skip
      refine xw_lload dX10_keep_69 rfl ?_
      refine xw_aload_n dX10_keep_71 rfl ?_
      refine xw_getfield dX10_keep_72 fl_X10_233 h38 rfl ?_
      refine xw_topl s.2.2.1 k26 ?_
      refine xw_lmul dX10_keep_75 ?_
      refine xw_aload_n dX10_keep_76 rfl ?_
      refine xw_getfield dX10_keep_77 fl_X10_237 h38 rfl ?_
      refine xw_topl s.2.1 k25 ?_
      refine xw_lload dX10_keep_80 rfl ?_
      refine xw_lmul dX10_keep_82 ?_
      obtain ⟨hs1, hs2, hs3, hs4, hs5⟩ := hsm.resolve_left (fun k => by have : m 29 = 0 := c_66; omega)
      have n1 : nb p 400000 := by rw [hp]; exact sgA_n hs2
      have n2 : nb (q : Int) 400000 := by rw [hq9]; exact nb_cast hs3
      refine xw_lcmpge (tgt := 99) dX10_keep_83 dX10_keep_84 (by decide) (nb_L (nb_mul n1 hs1.2.1) (by decide)) (nb_L (nb_mul hs1.1 n2) (by decide)) (fun c_83 => ?_) (fun c_83 => ?_)
      · skip
        exact N (fun k => by
            rcases k with k | k
            · have : m 29 = 0 := c_66
              omega
            · omega)
      · skip
        first
          | exact Y (Or.inl (by have : ¬ m 29 = 0 := c_66; omega))
          | exact Y (Or.inr (by omega))
  have E4 : ∀ z : Int, z = (l : Int) → xw g M_X10_keep Q 0 0 60 [(0, vR 38), (9, vL p), (11, vL (q : Int)), (13, vL t)] [vL z] n f := by
    intro z hz
    subst hz
    refine xw_lstore dX10_keep_60 (by decide) ?_
    exact xw_ls [(0, vR 38), (9, vL p), (11, vL (q : Int)), (13, vL t), (15, vL (l : Int))] ⟨rfl, rfl, rfl, rfl, rfl, trivial⟩ H1
  have E3 : ∀ z : Int, z = t → xw g M_X10_keep Q 0 0 43 [(0, vR 38), (7, vL tL), (9, vL p), (11, vL (q : Int))] [vL z] n f := by
    intro z hz
    subst hz
    refine xw_lstore dX10_keep_43 (by decide) ?_
    refine xw_lload dX10_keep_45 rfl ?_
    refine xw_lconst (z := 0) dX10_keep_47 (by decide) ?_
    refine xw_lcmpge (tgt := 58) dX10_keep_48 dX10_keep_49 (by decide) (by first | assumption | (unfold inL; omega) | (unfold inL at *; omega)) (by first | assumption | (unfold inL; omega) | (unfold inL at *; omega)) (fun c_48 => ?_) (fun c_48 => ?_)
    · skip
      refine xw_lload dX10_keep_58 rfl ?_
      first
        | exact xw_ls [(0, vR 38), (9, vL p), (11, vL (q : Int)), (13, vL z)] ⟨rfl, rfl, rfl, rfl, trivial⟩ (E4 (-tL) (by rw [hl]; omega))
        | exact xw_ls [(0, vR 38), (9, vL p), (11, vL (q : Int)), (13, vL z)] ⟨rfl, rfl, rfl, rfl, trivial⟩ (E4 tL (by rw [hl]; omega))
    · skip
      refine xw_lload dX10_keep_52 rfl ?_
      refine xw_lneg dX10_keep_54 ?_
      refine xw_goto (tgt := 60) dX10_keep_55 (by decide) ?_
      first
        | exact xw_ls [(0, vR 38), (9, vL p), (11, vL (q : Int)), (13, vL z)] ⟨rfl, rfl, rfl, rfl, trivial⟩ (E4 (-tL) (by rw [hl]; omega))
        | exact xw_ls [(0, vR 38), (9, vL p), (11, vL (q : Int)), (13, vL z)] ⟨rfl, rfl, rfl, rfl, trivial⟩ (E4 tL (by rw [hl]; omega))
  have E2 : ∀ z : Int, z = (q : Int) → xw g M_X10_keep Q 0 0 26 [(0, vR 38), (5, vL tU), (7, vL tL), (9, vL p)] [vL z] n f := by
    intro z hz
    subst hz
    refine xw_lstore dX10_keep_26 (by decide) ?_
    refine xw_lload dX10_keep_28 rfl ?_
    refine xw_lconst (z := 0) dX10_keep_30 (by decide) ?_
    refine xw_lcmpge (tgt := 41) dX10_keep_31 dX10_keep_32 (by decide) (by first | assumption | (unfold inL; omega) | (unfold inL at *; omega)) (by first | assumption | (unfold inL; omega) | (unfold inL at *; omega)) (fun c_31 => ?_) (fun c_31 => ?_)
    · skip
      refine xw_lload dX10_keep_41 rfl ?_
      first
        | exact xw_ls [(0, vR 38), (7, vL tL), (9, vL p), (11, vL (q : Int))] ⟨rfl, rfl, rfl, rfl, trivial⟩ (E3 (-tU) (by rw [ht]; unfold sgA; rw [if_pos (by omega)]))
        | exact xw_ls [(0, vR 38), (7, vL tL), (9, vL p), (11, vL (q : Int))] ⟨rfl, rfl, rfl, rfl, trivial⟩ (E3 tU (by rw [ht]; unfold sgA; rw [if_neg (by omega)]))
    · skip
      refine xw_lload dX10_keep_35 rfl ?_
      refine xw_lneg dX10_keep_37 ?_
      refine xw_goto (tgt := 43) dX10_keep_38 (by decide) ?_
      first
        | exact xw_ls [(0, vR 38), (7, vL tL), (9, vL p), (11, vL (q : Int))] ⟨rfl, rfl, rfl, rfl, trivial⟩ (E3 (-tU) (by rw [ht]; unfold sgA; rw [if_pos (by omega)]))
        | exact xw_ls [(0, vR 38), (7, vL tL), (9, vL p), (11, vL (q : Int))] ⟨rfl, rfl, rfl, rfl, trivial⟩ (E3 tU (by rw [ht]; unfold sgA; rw [if_neg (by omega)]))
  have E1 : ∀ z : Int, z = p → xw g M_X10_keep Q 0 0 12 [(0, vR 38), (3, vL aL), (5, vL tU), (7, vL tL)] [vL z] n f := by
    intro z hz
    subst hz
    refine xw_lstore dX10_keep_12 (by decide) ?_
    refine xw_lload_n dX10_keep_14 rfl ?_
    refine xw_lconst (z := 0) dX10_keep_15 (by decide) ?_
    refine xw_lcmpge (tgt := 25) dX10_keep_16 dX10_keep_17 (by decide) (by first | assumption | (unfold inL; omega) | (unfold inL at *; omega)) (by first | assumption | (unfold inL; omega) | (unfold inL at *; omega)) (fun c_16 => ?_) (fun c_16 => ?_)
    · skip
      refine xw_lload_n dX10_keep_25 rfl ?_
      first
        | exact xw_ls [(0, vR 38), (5, vL tU), (7, vL tL), (9, vL z)] ⟨rfl, rfl, rfl, rfl, trivial⟩ (E2 (-aL) (by rw [hq9]; omega))
        | exact xw_ls [(0, vR 38), (5, vL tU), (7, vL tL), (9, vL z)] ⟨rfl, rfl, rfl, rfl, trivial⟩ (E2 aL (by rw [hq9]; omega))
    · skip
      refine xw_lload_n dX10_keep_20 rfl ?_
      refine xw_lneg dX10_keep_21 ?_
      refine xw_goto (tgt := 26) dX10_keep_22 (by decide) ?_
      first
        | exact xw_ls [(0, vR 38), (5, vL tU), (7, vL tL), (9, vL z)] ⟨rfl, rfl, rfl, rfl, trivial⟩ (E2 (-aL) (by rw [hq9]; omega))
        | exact xw_ls [(0, vR 38), (5, vL tU), (7, vL tL), (9, vL z)] ⟨rfl, rfl, rfl, rfl, trivial⟩ (E2 aL (by rw [hq9]; omega))
  refine xw_lload_n dX10_keep_0 rfl ?_
  refine xw_lconst (z := 0) dX10_keep_1 (by decide) ?_
  refine xw_lcmpge (tgt := 11) dX10_keep_2 dX10_keep_3 (by decide) (by first | assumption | (unfold inL; omega) | (unfold inL at *; omega)) (by first | assumption | (unfold inL; omega) | (unfold inL at *; omega)) (fun c_2 => ?_) (fun c_2 => ?_)
  · skip
    refine xw_lload_n dX10_keep_11 rfl ?_
    first
      | exact xw_ls [(0, vR 38), (3, vL aL), (5, vL tU), (7, vL tL)] ⟨rfl, rfl, rfl, rfl, trivial⟩ (E1 (-aU) (by rw [hp]; unfold sgA; rw [if_pos (by omega)]))
      | exact xw_ls [(0, vR 38), (3, vL aL), (5, vL tU), (7, vL tL)] ⟨rfl, rfl, rfl, rfl, trivial⟩ (E1 aU (by rw [hp]; unfold sgA; rw [if_neg (by omega)]))
  · skip
    refine xw_lload_n dX10_keep_6 rfl ?_
    refine xw_lneg dX10_keep_7 ?_
    refine xw_goto (tgt := 12) dX10_keep_8 (by decide) ?_
    first
      | exact xw_ls [(0, vR 38), (3, vL aL), (5, vL tU), (7, vL tL)] ⟨rfl, rfl, rfl, rfl, trivial⟩ (E1 (-aU) (by rw [hp]; unfold sgA; rw [if_pos (by omega)]))
      | exact xw_ls [(0, vR 38), (3, vL aL), (5, vL tU), (7, vL tL)] ⟨rfl, rfl, rfl, rfl, trivial⟩ (E1 aU (by rw [hp]; unfold sgA; rw [if_neg (by omega)]))
end C86
