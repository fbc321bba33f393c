/-! the model's list of crossings -/
def mip (c : xC7) (L : Nat → xC7) : Nat → Nat
  | 0 => 0
  | k + 1 => if (L k).1 = c.1 ∧ c.2.2.2.1 * (L k).2.2.2.2.1 < (L k).2.2.2.1 * c.2.2.2.2.1 then mip c L k else k + 1
def mcA (A B C D E G H : Nat → Int) (j : Nat) : xC7 := (A j, (B j, (C j, (D j, (E j, (G j, H j))))))
def mcl (F : xH) (sz : Nat) (L : Nat → xC7) : Prop := ∃ A B C D E G H : Nat → Int, F 59 = some (aI 200 A) ∧ F 60 = some (aI 200 B) ∧ F 61 = some (aI 200 C) ∧ F 62 = some (aL 200 D) ∧ F 63 = some (aL 200 E) ∧ F 64 = some (aL 200 G) ∧ F 65 = some (aL 200 H) ∧ ∀ j, j < sz → mcA A B C D E G H j = L j
abbrev clS : List Nat := [38, 59, 60, 61, 62, 63, 64, 65]
theorem mcl_fr {F F1 : xH} {sz : Nat} {L : Nat → xC7} (h : mcl F sz L) (hf : ∀ k, 59 ≤ k → k ≤ 65 → F1 k = F k) : mcl F1 sz L := by
  obtain ⟨A, B, C, D, E, G, H, h1, h2, h3, h4, h5, h6, h7, h8⟩ := h
  exact ⟨A, B, C, D, E, G, H, (hf 59 (by omega) (by omega)).trans h1, (hf 60 (by omega) (by omega)).trans h2, (hf 61 (by omega) (by omega)).trans h3, (hf 62 (by omega) (by omega)).trans h4, (hf 63 (by omega) (by omega)).trans h5, (hf 64 (by omega) (by omega)).trans h6, (hf 65 (by omega) (by omega)).trans h7, h8⟩
theorem mip_le (c : xC7) (L : Nat → xC7) (k : Nat) : mip c L k ≤ k := by
  induction k with
  | zero => exact Nat.le_refl _
  | succ k ih => unfold mip; split; exact Nat.le_succ_of_le ih; exact Nat.le_refl _
section C92
variable {g : xG} {y : xM} {Q : xP} {n : Nat} {f : xH}
set_option maxHeartbeats 16000000 in
theorem ct_minsert {m : Nat → Int} {sz p o q : Nat} {L : Nat → xC7} {s : ofS} {c : xC7} (g38 : f 38 = some (oMd m)) (h40 : m 40 = (sz : Int)) (hsz : sz < 200) (hL : mcl f sz L) (hb : ∀ j, j < sz → inI (L j).1 ∧ nb (L j).2.2.2.1 2400000000 ∧ nb (L j).2.2.2.2.1 2400000000) (hk : kst m s) (hs1 : nb s.2.1 2400000000) (hs2 : nb s.2.2.1 2400000000) (hp : p < 2) (hc9 : c = crOf (p : Int) (o : Int) (q : Int) s) (ho : o ≤ 100) (hq9 : q ≤ 100)
    (hq : ∀ F', mcl F' (sz + 1) (insL L (mip c L sz) c) → F' 38 = some (oMd (xui m 40 ((sz + 1 : Nat) : Int))) → fr clS f F' → Q (.inl none) n F') : xct g M_X10_insert 0 0 [vR 38, vI (p : Int), vI (o : Int), vI (q : Int)] n f Q := by
  refine xct_of rfl rfl (Nat.le_of_ble_eq_true rfl) ?_
  obtain ⟨_, k25, k26, k27, k28⟩ := hk
  have c1 : c.1 = (p : Int) := by rw [hc9]; rfl
  have c2 : c.2.2.2.1 = m 25 := by rw [hc9]; exact k25.symm
  have c3 : c.2.2.2.2.1 = m 26 := by rw [hc9]; exact k26.symm
  have b25 : nb (m 25) 2400000000 := by rw [k25]; exact hs1
  have b26 : nb (m 26) 2400000000 := by rw [k26]; exact hs2
  have E : ∀ (k : Nat) (F : xH) (A B C D E G H : Nat → Int), k ≤ sz → fr clS f F → F 38 = some (oMd m) → F 59 = some (aI 200 A) → F 60 = some (aI 200 B) → F 61 = some (aI 200 C) → F 62 = some (aL 200 D) → F 63 = some (aL 200 E) → F 64 = some (aL 200 G) → F 65 = some (aL 200 H) → mip c L sz = k → (∀ j, j < k → mcA A B C D E G H j = L j) → (∀ j, k < j → j ≤ sz → mcA A B C D E G H j = L (j - 1)) → xw g M_X10_insert Q 0 0 174 [(0, vR 38), (1, vI (p : Int)), (2, vI (o : Int)), (3, vI (q : Int)), (4, vI (k : Int))] [] n F := by
    intro k F A B C D E G H hk hf h38 h59 h60 h61 h62 h63 h64 h65 hm hlo hhi
    refine xw_aload_n dX10_insert_174 rfl ?_
    refine xw_getfield dX10_insert_175 fl_X10_79 h38 rfl ?_
    refine xw_iload dX10_insert_178 rfl ?_
    refine xw_iload_n dX10_insert_180 rfl ?_
    refine xw_iast dX10_insert_181 h59 (j := k) rfl (by omega) (by decide) ?_
    refine xw_aload_n dX10_insert_182 rfl ?_
    refine xw_getfield dX10_insert_183 fl_X10_82 h38 rfl ?_
    refine xw_iload dX10_insert_186 rfl ?_
    refine xw_iload_n dX10_insert_188 rfl ?_
    refine xw_iast dX10_insert_189 h60 (j := k) rfl (by omega) (by decide) ?_
    refine xw_aload_n dX10_insert_190 rfl ?_
    refine xw_getfield dX10_insert_191 fl_X10_85 h38 rfl ?_
    refine xw_iload dX10_insert_194 rfl ?_
    refine xw_iload_n dX10_insert_196 rfl ?_
    refine xw_iast dX10_insert_197 h61 (j := k) rfl (by omega) (by decide) ?_
    refine xw_aload_n dX10_insert_198 rfl ?_
    refine xw_getfield dX10_insert_199 fl_X10_88 h38 rfl ?_
    refine xw_iload dX10_insert_202 rfl ?_
    refine xw_aload_n dX10_insert_204 rfl ?_
    refine xw_getfield dX10_insert_205 fl_X10_237 h38 rfl ?_
    refine xw_last dX10_insert_208 h62 (j := k) rfl (by omega) (by decide) ?_
    refine xw_aload_n dX10_insert_209 rfl ?_
    refine xw_getfield dX10_insert_210 fl_X10_91 h38 rfl ?_
    refine xw_iload dX10_insert_213 rfl ?_
    refine xw_aload_n dX10_insert_215 rfl ?_
    refine xw_getfield dX10_insert_216 fl_X10_233 h38 rfl ?_
    refine xw_last dX10_insert_219 h63 (j := k) rfl (by omega) (by decide) ?_
    refine xw_aload_n dX10_insert_220 rfl ?_
    refine xw_getfield dX10_insert_221 fl_X10_94 h38 rfl ?_
    refine xw_iload dX10_insert_224 rfl ?_
    refine xw_aload_n dX10_insert_226 rfl ?_
    refine xw_getfield dX10_insert_227 fl_X10_240 h38 rfl ?_
    refine xw_last dX10_insert_230 h64 (j := k) rfl (by omega) (by decide) ?_
    refine xw_aload_n dX10_insert_231 rfl ?_
    refine xw_getfield dX10_insert_232 fl_X10_97 h38 rfl ?_
    refine xw_iload dX10_insert_235 rfl ?_
    refine xw_aload_n dX10_insert_237 rfl ?_
    refine xw_getfield dX10_insert_238 fl_X10_247 h38 rfl ?_
    refine xw_last dX10_insert_241 h65 (j := k) rfl (by omega) (by decide) ?_
    refine xw_aload_n dX10_insert_242 rfl ?_
    refine xw_dup dX10_insert_243 rfl ?_
    refine xw_getfield dX10_insert_244 fl_X10_264 h38 rfl ?_
    refine xw_topi (sz : Int) h40 ?_
    refine xw_iconst dX10_insert_247 ?_
    refine xw_iadd dX10_insert_248 ?_
    refine xw_topi ((sz + 1 : Nat) : Int) (by omega) ?_
    refine xw_putfield dX10_insert_249 (fp_X10_264 _) h38 rfl rfl ?_
    rw [xmd_40]
    exact xw_vret dX10_insert_252 rfl (hq _ ⟨_, _, _, _, _, _, _, rfl, rfl, rfl, rfl, rfl, rfl, rfl, fun j hj => by
      unfold insL
      by_cases e1 : j = k
      · subst e1
        rw [if_neg (by omega), if_pos hm.symm, hc9]
        unfold mcA
        rw [xui_s, xui_s, xui_s, xui_s, xui_s, xui_s, xui_s]
        show ((p : Int), ((o : Int), ((q : Int), (m 25, (m 26, (m 27, m 28)))))) = _
        rw [k25, k26, k27, k28]; rfl
      · unfold mcA at hlo hhi ⊢
        rw [xui_n _ _ e1, xui_n _ _ e1, xui_n _ _ e1, xui_n _ _ e1, xui_n _ _ e1, xui_n _ _ e1, xui_n _ _ e1]
        by_cases e2 : j < k
        · rw [if_pos (by omega)]; exact hlo j e2
        · rw [if_neg (by omega), if_neg (by omega)]; exact hhi j (by omega) (by omega)⟩ rfl (fr_up (fr_up (fr_up (fr_up (fr_up (fr_up (fr_up (fr_up hf (by decide)) (by decide)) (by decide)) (by decide)) (by decide)) (by decide)) (by decide)) (by decide)))
  have W : ∀ (k : Nat) (F : xH) (A B C D E G H : Nat → Int), k ≤ sz → fr clS f F → F 38 = some (oMd m) → F 59 = some (aI 200 A) → F 60 = some (aI 200 B) → F 61 = some (aI 200 C) → F 62 = some (aL 200 D) → F 63 = some (aL 200 E) → F 64 = some (aL 200 G) → F 65 = some (aL 200 H) → mip c L sz = mip c L k → (∀ j, j < k → mcA A B C D E G H j = L j) → (∀ j, k < j → j ≤ sz → mcA A B C D E G H j = L (j - 1)) → xw g M_X10_insert Q 0 0 6 [(0, vR 38), (1, vI (p : Int)), (2, vI (o : Int)), (3, vI (q : Int)), (4, vI (k : Int))] [] n F := by
    intro k
    induction k with
    | zero =>
      intro F A B C D G1 G H hk hf h38 h59 h60 h61 h62 h63 h64 h65 hm hlo hhi
      refine xw_iload dX10_insert_6 rfl ?_
      refine xw_ifle (tgt := 174) dX10_insert_8 (by decide) (by first | assumption | (unfold inI; omega) | (unfold inI at *; omega)) (fun c_8 => ?_) (fun c_8 => ?_)
      · skip
        exact xw_ls [(0, vR 38), (1, vI (p : Int)), (2, vI (o : Int)), (3, vI (q : Int)), (4, vI ((0 : Nat) : Int))] ⟨rfl, rfl, rfl, rfl, rfl, trivial⟩ (E 0 F A B C D G1 G H hk hf h38 h59 h60 h61 h62 h63 h64 h65 hm hlo hhi)
      · skip
        exfalso; omega
    | succ k ih =>
      intro F A B C D G1 G H hk hf h38 h59 h60 h61 h62 h63 h64 h65 hm hlo hhi
      have hL1 := hlo k (by omega)
      have a1 : A k = (L k).1 := by rw [← hL1]; rfl
      have a4 : D k = (L k).2.2.2.1 := by rw [← hL1]; rfl
      have a5 : G1 k = (L k).2.2.2.2.1 := by rw [← hL1]; rfl
      obtain ⟨iA, iD, iE⟩ := hb k (by omega)
      rw [← a1] at iA
      rw [← a4] at iD
      rw [← a5] at iE
      have N : ¬ ((L k).1 = c.1 ∧ c.2.2.2.1 * (L k).2.2.2.2.1 < (L k).2.2.2.1 * c.2.2.2.2.1) → xw g M_X10_insert Q 0 0 174 [(0, vR 38), (1, vI (p : Int)), (2, vI (o : Int)), (3, vI (q : Int)), (4, vI ((k + 1 : Nat) : Int))] [] n F := by
        intro hn
        exact E (k + 1) F A B C D G1 G H hk hf h38 h59 h60 h61 h62 h63 h64 h65 (by rw [hm, mip, if_neg hn]) hlo hhi
      refine xw_iload dX10_insert_6 rfl ?_
      refine xw_ifle (tgt := 174) dX10_insert_8 (by decide) (by first | assumption | (unfold inI; omega) | (unfold inI at *; omega)) (fun c_8 => ?_) (fun c_8 => ?_)
      · skip
        exfalso; omega
      · skip
        refine xw_aload_n dX10_insert_11 rfl ?_
        refine xw_getfield dX10_insert_12 fl_X10_79 h38 rfl ?_
        refine xw_iload dX10_insert_15 rfl ?_
        refine xw_iconst dX10_insert_17 ?_
        refine xw_isub dX10_insert_18 ?_
        refine xw_iald dX10_insert_19 h59 (j := k) (by omega) (by omega) (by decide) ?_
        refine xw_iload_n dX10_insert_20 rfl ?_
        refine xw_icmpne (tgt := 174) dX10_insert_21 (by decide) iA (by unfold inI; omega) (fun c_21 => ?_) (fun c_21 => ?_)
        · skip
          first
            | exact xw_ls [(0, vR 38), (1, vI (p : Int)), (2, vI (o : Int)), (3, vI (q : Int)), (4, vI ((k + 1 : Nat) : Int))] ⟨rfl, rfl, rfl, rfl, rfl, trivial⟩ (N (fun k9 => by omega))
            | exact xw_ls [(0, vR 38), (1, vI (p : Int)), (2, vI (o : Int)), (3, vI (q : Int)), (4, vI ((k + 1 : Nat) : Int))] ⟨rfl, rfl, rfl, rfl, rfl, trivial⟩ (N (fun k9 => by rw [c2, c3, ← a4, ← a5] at k9; omega))
        · skip
          refine xw_aload_n dX10_insert_24 rfl ?_
          refine xw_getfield dX10_insert_25 fl_X10_237 h38 rfl ?_
          refine xw_aload_n dX10_insert_28 rfl ?_
          refine xw_getfield dX10_insert_29 fl_X10_91 h38 rfl ?_
          refine xw_iload dX10_insert_32 rfl ?_
          refine xw_iconst dX10_insert_34 ?_
          refine xw_isub dX10_insert_35 ?_
          refine xw_lald dX10_insert_36 h63 (j := k) (by omega) (by omega) (by decide) ?_
          refine xw_lmul dX10_insert_37 ?_
          refine xw_aload_n dX10_insert_38 rfl ?_
          refine xw_getfield dX10_insert_39 fl_X10_88 h38 rfl ?_
          refine xw_iload dX10_insert_42 rfl ?_
          refine xw_iconst dX10_insert_44 ?_
          refine xw_isub dX10_insert_45 ?_
          refine xw_lald dX10_insert_46 h62 (j := k) (by omega) (by omega) (by decide) ?_
          refine xw_aload_n dX10_insert_47 rfl ?_
          refine xw_getfield dX10_insert_48 fl_X10_233 h38 rfl ?_
          refine xw_lmul dX10_insert_51 ?_
          refine xw_lcmpge (tgt := 174) dX10_insert_52 dX10_insert_53 (by decide) (nb_M b25 iE) (nb_M iD b26) (fun c_52 => ?_) (fun c_52 => ?_)
          · skip
            first
              | exact xw_ls [(0, vR 38), (1, vI (p : Int)), (2, vI (o : Int)), (3, vI (q : Int)), (4, vI ((k + 1 : Nat) : Int))] ⟨rfl, rfl, rfl, rfl, rfl, trivial⟩ (N (fun k9 => by omega))
              | exact xw_ls [(0, vR 38), (1, vI (p : Int)), (2, vI (o : Int)), (3, vI (q : Int)), (4, vI ((k + 1 : Nat) : Int))] ⟨rfl, rfl, rfl, rfl, rfl, trivial⟩ (N (fun k9 => by rw [c2, c3, ← a4, ← a5] at k9; omega))
          · skip
            refine xw_aload_n dX10_insert_56 rfl ?_
            refine xw_getfield dX10_insert_57 fl_X10_79 h38 rfl ?_
            refine xw_iload dX10_insert_60 rfl ?_
            refine xw_aload_n dX10_insert_62 rfl ?_
            refine xw_getfield dX10_insert_63 fl_X10_79 h38 rfl ?_
            refine xw_iload dX10_insert_66 rfl ?_
            refine xw_iconst dX10_insert_68 ?_
            refine xw_isub dX10_insert_69 ?_
            refine xw_iald dX10_insert_70 h59 (j := k) (by omega) (by omega) (by decide) ?_
            refine xw_iast dX10_insert_71 h59 (j := k + 1) rfl (by omega) (by decide) ?_
            refine xw_aload_n dX10_insert_72 rfl ?_
            refine xw_getfield dX10_insert_73 fl_X10_82 h38 rfl ?_
            refine xw_iload dX10_insert_76 rfl ?_
            refine xw_aload_n dX10_insert_78 rfl ?_
            refine xw_getfield dX10_insert_79 fl_X10_82 h38 rfl ?_
            refine xw_iload dX10_insert_82 rfl ?_
            refine xw_iconst dX10_insert_84 ?_
            refine xw_isub dX10_insert_85 ?_
            refine xw_iald dX10_insert_86 h60 (j := k) (by omega) (by omega) (by decide) ?_
            refine xw_iast dX10_insert_87 h60 (j := k + 1) rfl (by omega) (by decide) ?_
            refine xw_aload_n dX10_insert_88 rfl ?_
            refine xw_getfield dX10_insert_89 fl_X10_85 h38 rfl ?_
            refine xw_iload dX10_insert_92 rfl ?_
            refine xw_aload_n dX10_insert_94 rfl ?_
            refine xw_getfield dX10_insert_95 fl_X10_85 h38 rfl ?_
            refine xw_iload dX10_insert_98 rfl ?_
            refine xw_iconst dX10_insert_100 ?_
            refine xw_isub dX10_insert_101 ?_
            refine xw_iald dX10_insert_102 h61 (j := k) (by omega) (by omega) (by decide) ?_
            refine xw_iast dX10_insert_103 h61 (j := k + 1) rfl (by omega) (by decide) ?_
            refine xw_aload_n dX10_insert_104 rfl ?_
            refine xw_getfield dX10_insert_105 fl_X10_88 h38 rfl ?_
            refine xw_iload dX10_insert_108 rfl ?_
            refine xw_aload_n dX10_insert_110 rfl ?_
            refine xw_getfield dX10_insert_111 fl_X10_88 h38 rfl ?_
            refine xw_iload dX10_insert_114 rfl ?_
            refine xw_iconst dX10_insert_116 ?_
            refine xw_isub dX10_insert_117 ?_
            refine xw_lald dX10_insert_118 h62 (j := k) (by omega) (by omega) (by decide) ?_
            refine xw_last dX10_insert_119 h62 (j := k + 1) rfl (by omega) (by decide) ?_
            refine xw_aload_n dX10_insert_120 rfl ?_
            refine xw_getfield dX10_insert_121 fl_X10_91 h38 rfl ?_
            refine xw_iload dX10_insert_124 rfl ?_
            refine xw_aload_n dX10_insert_126 rfl ?_
            refine xw_getfield dX10_insert_127 fl_X10_91 h38 rfl ?_
            refine xw_iload dX10_insert_130 rfl ?_
            refine xw_iconst dX10_insert_132 ?_
            refine xw_isub dX10_insert_133 ?_
            refine xw_lald dX10_insert_134 h63 (j := k) (by omega) (by omega) (by decide) ?_
            refine xw_last dX10_insert_135 h63 (j := k + 1) rfl (by omega) (by decide) ?_
            refine xw_aload_n dX10_insert_136 rfl ?_
            refine xw_getfield dX10_insert_137 fl_X10_94 h38 rfl ?_
            refine xw_iload dX10_insert_140 rfl ?_
            refine xw_aload_n dX10_insert_142 rfl ?_
            refine xw_getfield dX10_insert_143 fl_X10_94 h38 rfl ?_
            refine xw_iload dX10_insert_146 rfl ?_
            refine xw_iconst dX10_insert_148 ?_
            refine xw_isub dX10_insert_149 ?_
            refine xw_lald dX10_insert_150 h64 (j := k) (by omega) (by omega) (by decide) ?_
            refine xw_last dX10_insert_151 h64 (j := k + 1) rfl (by omega) (by decide) ?_
            refine xw_aload_n dX10_insert_152 rfl ?_
            refine xw_getfield dX10_insert_153 fl_X10_97 h38 rfl ?_
            refine xw_iload dX10_insert_156 rfl ?_
            refine xw_aload_n dX10_insert_158 rfl ?_
            refine xw_getfield dX10_insert_159 fl_X10_97 h38 rfl ?_
            refine xw_iload dX10_insert_162 rfl ?_
            refine xw_iconst dX10_insert_164 ?_
            refine xw_isub dX10_insert_165 ?_
            refine xw_lald dX10_insert_166 h65 (j := k) (by omega) (by omega) (by decide) ?_
            refine xw_last dX10_insert_167 h65 (j := k + 1) rfl (by omega) (by decide) ?_
            refine xw_ls [(0, vR 38), (1, vI (p : Int)), (2, vI (o : Int)), (3, vI (q : Int)), (4, vI ((k + 1 : Nat) : Int))] ⟨rfl, rfl, rfl, rfl, rfl, trivial⟩ ?_
            refine xw_iinc dX10_insert_168 rfl (by decide) ?_
            refine xw_goto (tgt := 6) dX10_insert_171 (by decide) ?_
            exact xw_ls [(0, vR 38), (1, vI (p : Int)), (2, vI (o : Int)), (3, vI (q : Int)), (4, vI (k : Int))] ⟨rfl, rfl, rfl, rfl, congrArg (fun z => some (vI z)) (by omega : (((k + 1 : Nat) : Int) + -1) = (k : Int)), trivial⟩ (ih _ _ _ _ _ _ _ _ (by omega) (fr_up (fr_up (fr_up (fr_up (fr_up (fr_up (fr_up hf (by decide)) (by decide)) (by decide)) (by decide)) (by decide)) (by decide)) (by decide)) h38 rfl rfl rfl rfl rfl rfl rfl (by rw [hm, mip, if_pos ⟨by omega, by rw [c2, c3, ← a4, ← a5]; omega⟩]) (fun j hj => by
                unfold mcA at hlo ⊢
                have e1 : j ≠ k + 1 := by omega
                rw [xui_n _ _ e1, xui_n _ _ e1, xui_n _ _ e1, xui_n _ _ e1, xui_n _ _ e1, xui_n _ _ e1, xui_n _ _ e1]
                exact hlo j (by omega)) (fun j hj hj2 => by
                unfold mcA at hlo hhi ⊢
                by_cases e1 : j = k + 1
                · subst e1
                  rw [xui_s, xui_s, xui_s, xui_s, xui_s, xui_s, xui_s]
                  exact hlo k (by omega)
                · rw [xui_n _ _ e1, xui_n _ _ e1, xui_n _ _ e1, xui_n _ _ e1, xui_n _ _ e1, xui_n _ _ e1, xui_n _ _ e1]
                  exact hhi j (by omega) hj2))
  obtain ⟨A, B, C, D, E9, G, H, h59, h60, h61, h62, h63, h64, h65, hj⟩ := hL
  refine xw_aload_n dX10_insert_0 rfl ?_
  refine xw_getfield dX10_insert_1 fl_X10_264 g38 rfl ?_
  refine xw_topi (sz : Int) h40 ?_
  refine xw_istore dX10_insert_4 (by decide) ?_
  exact xw_ls [(0, vR 38), (1, vI (p : Int)), (2, vI (o : Int)), (3, vI (q : Int)), (4, vI (sz : Int))] ⟨rfl, rfl, rfl, rfl, rfl, trivial⟩ (W sz f A B C D E9 G H (Nat.le_refl _) (fr_rf _ _) g38 h59 h60 h61 h62 h63 h64 h65 rfl hj (fun j h1 h2 => by omega))
end C92
