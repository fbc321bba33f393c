/-! the model's touching -/
section C79
variable {g : xG} {y : xM} {Q : xP} {n : Nat} {f : xH}
set_option maxHeartbeats 4000000 in
theorem ct_mtouch {m u v w : Nat → Int} (h38 : f 38 = some (oMd m)) (h48 : f 48 = some (aL 3 u)) (h49 : f 49 = some (aL 3 v)) (h50 : f 50 = some (aL 3 w)) (bu : bd u 2000) (bv : bd v 2000) (bw : bd w 2000) (h1 : tchM u v w → Q (.inl (some (vI 1))) n f) (h2 : ¬ tchM u v w → Q (.inl (some (vI 0))) n f) : xct g M_X10_touch 0 0 [vR 38] n f Q := by
  refine xct_of rfl rfl (Nat.le_of_ble_eq_true rfl) ?_
  have cuv : bd (cr u v) 8000000 := bd_cr bu bv (by decide)
  have cuw : bd (cr u w) 8000000 := bd_cr bu bw (by decide)
  have cwv : bd (cr w v) 8000000 := bd_cr bw bv (by decide)
  have cwu : bd (cr w u) 8000000 := bd_cr bw bu (by decide)
  have duu : nb (dt u u) 12000000 := bd_dt bu bu
  have dwu : nb (dt w u) 12000000 := bd_dt bw bu
  have dvu : nb (dt v u) 12000000 := bd_dt bv bu
  have dsum : nb (dt w u + dt v u) 24000000 := nb_add dwu dvu
  have ddet : nb (de u v w) 48000000000 := bd_de bu bv bw
  have E : z3 (cr u v) → z3 (cr u w) → ∀ le mo : Int, le = (if dt w u < dt w u + dt v u then dt w u else dt w u + dt v u) → mo = (if dt w u < dt w u + dt v u then dt w u + dt v u else dt w u) → inL le → inL mo → xw g M_X10_touch Q 0 0 99 [(0, vR 38), (1, vL (dt u u)), (7, vL le), (9, vL mo)] [] n f := by
    intro q1 q2 le mo hle hmo il im
    refine xw_lload dX10_touch_99 rfl ?_
    refine xw_lconst (z := 0) dX10_touch_101 (by decide) ?_
    refine xw_lcmplt (tgt := 117) dX10_touch_102 dX10_touch_103 (by decide) im (by unfold inL; omega) (fun c_102 => ?_) (fun c_102 => ?_)
    · skip
      refine xw_iconst dX10_touch_117 ?_
      exact xw_zret dX10_touch_118 rfl rfl (by first | exact h1 (Or.inl ⟨q1, q2, by rw [← hmo]; omega, by rw [← hle]; omega⟩) | exact h2 (fun q => by rcases q with ⟨_, _, k1, k2⟩ | ⟨k1, _⟩; rw [← hmo] at k1; rw [← hle] at k2; omega; exact k1 q1))
    · skip
      refine xw_lload dX10_touch_106 rfl ?_
      refine xw_lload_n dX10_touch_108 rfl ?_
      refine xw_lcmpgt (tgt := 117) dX10_touch_109 dX10_touch_110 (by decide) il (nb_L duu (by decide)) (fun c_109 => ?_) (fun c_109 => ?_)
      · skip
        refine xw_iconst dX10_touch_117 ?_
        exact xw_zret dX10_touch_118 rfl rfl (by first | exact h1 (Or.inl ⟨q1, q2, by rw [← hmo]; omega, by rw [← hle]; omega⟩) | exact h2 (fun q => by rcases q with ⟨_, _, k1, k2⟩ | ⟨k1, _⟩; rw [← hmo] at k1; rw [← hle] at k2; omega; exact k1 q1))
      · skip
        refine xw_iconst dX10_touch_113 ?_
        refine xw_goto (tgt := 118) dX10_touch_114 (by decide) ?_
        exact xw_zret dX10_touch_118 rfl rfl (by first | exact h1 (Or.inl ⟨q1, q2, by rw [← hmo]; omega, by rw [← hle]; omega⟩) | exact h2 (fun q => by rcases q with ⟨_, _, k1, k2⟩ | ⟨k1, _⟩; rw [← hmo] at k1; rw [← hle] at k2; omega; exact k1 q1))
  have A : ¬ z3 (cr u v) → de u v w = 0 → ∀ ax : Nat, ax = ax1 (cr u v) → ax < 3 → xw g M_X10_touch Q 0 0 184 [(0, vR 38)] [vI (ax : Int)] n f := by
    intro q1 q2 ax hax h3
    refine xw_istore_n dX10_touch_184 (by decide) ?_
    refine xw_aload_n dX10_touch_185 rfl ?_
    refine xw_getfield dX10_touch_186 fl_X10_46 h38 rfl ?_
    refine xw_aload_n dX10_touch_189 rfl ?_
    refine xw_getfield dX10_touch_190 fl_X10_49 h38 rfl ?_
    refine xw_iload_n dX10_touch_193 rfl ?_
    refine xw_callS (rc := 0) (rs := 0) (mc2 := 0) (ms2 := 0) (As := [vR 48, vR 49, vI (ax : Int)]) (st := []) dX10_touch_194 ms_X10_161 rfl (by decide) (by decide) (Nat.le_of_ble_eq_true rfl) rfl (ct_mcross h48 h49 h3 ?_)
    refine xw_lstore_n dX10_touch_197 (by decide) ?_
    refine xw_aload_n dX10_touch_198 rfl ?_
    refine xw_getfield dX10_touch_199 fl_X10_52 h38 rfl ?_
    refine xw_aload_n dX10_touch_202 rfl ?_
    refine xw_getfield dX10_touch_203 fl_X10_49 h38 rfl ?_
    refine xw_iload_n dX10_touch_206 rfl ?_
    refine xw_callS (rc := 0) (rs := 0) (mc2 := 0) (ms2 := 0) (As := [vR 50, vR 49, vI (ax : Int)]) (st := []) dX10_touch_207 ms_X10_161 rfl (by decide) (by decide) (Nat.le_of_ble_eq_true rfl) rfl (ct_mcross h50 h49 h3 ?_)
    refine xw_lload_n dX10_touch_210 rfl ?_
    refine xw_callS (rc := 0) (rs := 0) (mc2 := 0) (ms2 := 0) (As := [vL (cr w v ax), vL (cr u v ax)]) (st := []) dX10_touch_211 ms_X10_177 rfl (by decide) (by decide) (Nat.le_of_ble_eq_true rfl) rfl (ct_mPart (nb_L (nb_bd cwv h3) (by decide)) (nb_L (nb_bd cuv h3) (by decide)) (fun k1 => ?_) (fun k1 => ?_))
    · skip
      refine xw_ifeq (tgt := 240) dX10_touch_214 (by decide) (by unfold inI; omega) (fun c => absurd c (by decide)) (fun _ => ?_)
      refine xw_aload_n dX10_touch_217 rfl ?_
      refine xw_getfield dX10_touch_218 fl_X10_52 h38 rfl ?_
      refine xw_aload_n dX10_touch_221 rfl ?_
      refine xw_getfield dX10_touch_222 fl_X10_46 h38 rfl ?_
      refine xw_iload_n dX10_touch_225 rfl ?_
      refine xw_callS (rc := 0) (rs := 0) (mc2 := 0) (ms2 := 0) (As := [vR 50, vR 48, vI (ax : Int)]) (st := []) dX10_touch_226 ms_X10_161 rfl (by decide) (by decide) (Nat.le_of_ble_eq_true rfl) rfl (ct_mcross h50 h48 h3 ?_)
      refine xw_lload_n dX10_touch_229 rfl ?_
      refine xw_callS (rc := 0) (rs := 0) (mc2 := 0) (ms2 := 0) (As := [vL (cr w u ax), vL (cr u v ax)]) (st := []) dX10_touch_230 ms_X10_177 rfl (by decide) (by decide) (Nat.le_of_ble_eq_true rfl) rfl (ct_mPart (nb_L (nb_bd cwu h3) (by decide)) (nb_L (nb_bd cuv h3) (by decide)) (fun k2 => ?_) (fun k2 => ?_))
      · skip
        refine xw_ifeq (tgt := 240) dX10_touch_233 (by decide) (by unfold inI; omega) (fun c => absurd c (by decide)) (fun _ => ?_)
        refine xw_iconst dX10_touch_236 ?_
        refine xw_goto (tgt := 241) dX10_touch_237 (by decide) ?_
        exact xw_zret dX10_touch_241 rfl rfl (by first | exact h1 (Or.inr ⟨q1, q2, by rw [← hax]; exact k1, by rw [← hax]; exact k2⟩) | exact h2 (fun q => by rcases q with ⟨k9, _⟩ | ⟨_, _, k8, k9⟩; exact q1 k9; rw [← hax] at k9; exact k2 k9) | exact h2 (fun q => by rcases q with ⟨k9, _⟩ | ⟨_, _, k8, k9⟩; exact q1 k9; rw [← hax] at k8; exact k1 k8))
      · skip
        refine xw_ifeq (tgt := 240) dX10_touch_233 (by decide) (by unfold inI; omega) (fun _ => ?_) (fun c => absurd c (by decide))
        refine xw_iconst dX10_touch_240 ?_
        exact xw_zret dX10_touch_241 rfl rfl (by first | exact h1 (Or.inr ⟨q1, q2, by rw [← hax]; exact k1, by rw [← hax]; exact k2⟩) | exact h2 (fun q => by rcases q with ⟨k9, _⟩ | ⟨_, _, k8, k9⟩; exact q1 k9; rw [← hax] at k9; exact k2 k9) | exact h2 (fun q => by rcases q with ⟨k9, _⟩ | ⟨_, _, k8, k9⟩; exact q1 k9; rw [← hax] at k8; exact k1 k8))
    · skip
      refine xw_ifeq (tgt := 240) dX10_touch_214 (by decide) (by unfold inI; omega) (fun _ => ?_) (fun c => absurd c (by decide))
      refine xw_iconst dX10_touch_240 ?_
      exact xw_zret dX10_touch_241 rfl rfl (by first | exact h1 (Or.inr ⟨q1, q2, by rw [← hax]; exact k1, by rw [← hax]; exact k2⟩) | exact h2 (fun q => by rcases q with ⟨k9, _⟩ | ⟨_, _, k8, k9⟩; exact q1 k9; rw [← hax] at k9; exact k2 k9) | exact h2 (fun q => by rcases q with ⟨k9, _⟩ | ⟨_, _, k8, k9⟩; exact q1 k9; rw [← hax] at k8; exact k1 k8))
  refine xw_aload_n dX10_touch_0 rfl ?_
  refine xw_getfield dX10_touch_1 fl_X10_46 h38 rfl ?_
  refine xw_aload_n dX10_touch_4 rfl ?_
  refine xw_getfield dX10_touch_5 fl_X10_49 h38 rfl ?_
  refine xw_callS (rc := 0) (rs := 0) (mc2 := 0) (ms2 := 0) (As := [vR 48, vR 49]) (st := []) dX10_touch_8 ms_X10_165 rfl (by decide) (by decide) (Nat.le_of_ble_eq_true rfl) rfl (ct_isAlong h48 h49 (bd_3 cuv (by decide)) (fun q1 => ?_) (fun q1 => ?_))
  · skip
    refine xw_ifeq (tgt := 119) dX10_touch_11 (by decide) (by unfold inI; omega) (fun c => absurd c (by decide)) (fun _ => ?_)
    refine xw_aload_n dX10_touch_14 rfl ?_
    refine xw_getfield dX10_touch_15 fl_X10_46 h38 rfl ?_
    refine xw_aload_n dX10_touch_18 rfl ?_
    refine xw_getfield dX10_touch_19 fl_X10_52 h38 rfl ?_
    refine xw_callS (rc := 0) (rs := 0) (mc2 := 0) (ms2 := 0) (As := [vR 48, vR 50]) (st := []) dX10_touch_22 ms_X10_165 rfl (by decide) (by decide) (Nat.le_of_ble_eq_true rfl) rfl (ct_isAlong h48 h50 (bd_3 cuw (by decide)) (fun q2 => ?_) (fun q2 => ?_))
    · skip
      refine xw_ifne (tgt := 30) dX10_touch_25 (by decide) (by unfold inI; omega) (fun _ => ?_) (fun c => absurd c (by decide))
      refine xw_aload_n dX10_touch_30 rfl ?_
      refine xw_getfield dX10_touch_31 fl_X10_46 h38 rfl ?_
      refine xw_aload_n dX10_touch_34 rfl ?_
      refine xw_getfield dX10_touch_35 fl_X10_46 h38 rfl ?_
      refine xw_callS (rc := 0) (rs := 0) (mc2 := 0) (ms2 := 0) (As := [vR 48, vR 48]) (st := []) dX10_touch_38 ms_X10_169 rfl (by decide) (by decide) (Nat.le_of_ble_eq_true rfl) rfl (ct_mdot h48 h48 ?_)
      refine xw_lstore_n dX10_touch_41 (by decide) ?_
      refine xw_aload_n dX10_touch_42 rfl ?_
      refine xw_getfield dX10_touch_43 fl_X10_52 h38 rfl ?_
      refine xw_aload_n dX10_touch_46 rfl ?_
      refine xw_getfield dX10_touch_47 fl_X10_46 h38 rfl ?_
      refine xw_callS (rc := 0) (rs := 0) (mc2 := 0) (ms2 := 0) (As := [vR 50, vR 48]) (st := []) dX10_touch_50 ms_X10_169 rfl (by decide) (by decide) (Nat.le_of_ble_eq_true rfl) rfl (ct_mdot h50 h48 ?_)
      refine xw_lstore_n dX10_touch_53 (by decide) ?_
      refine xw_lload_n dX10_touch_54 rfl ?_
      refine xw_aload_n dX10_touch_55 rfl ?_
      refine xw_getfield dX10_touch_56 fl_X10_49 h38 rfl ?_
      refine xw_aload_n dX10_touch_59 rfl ?_
      refine xw_getfield dX10_touch_60 fl_X10_46 h38 rfl ?_
      refine xw_callS (rc := 0) (rs := 0) (mc2 := 0) (ms2 := 0) (As := [vR 49, vR 48]) (st := [vL (dt w u)]) dX10_touch_63 ms_X10_169 rfl (by decide) (by decide) (Nat.le_of_ble_eq_true rfl) rfl (ct_mdot h49 h48 ?_)
      refine xw_ladd dX10_touch_66 ?_
      refine xw_lstore dX10_touch_67 (by decide) ?_
      refine xw_lload_n dX10_touch_69 rfl ?_
      refine xw_lload dX10_touch_70 rfl ?_
      refine xw_lcmpge (tgt := 80) dX10_touch_72 dX10_touch_73 (by decide) (nb_L dwu (by decide)) (nb_L dsum (by decide)) (fun c_72 => ?_) (fun c_72 => ?_)
      · skip
        refine xw_lload dX10_touch_80 rfl ?_
        refine xw_lstore dX10_touch_82 (by decide) ?_
        refine xw_lload_n dX10_touch_84 rfl ?_
        refine xw_lload dX10_touch_85 rfl ?_
        refine xw_lcmpge (tgt := 96) dX10_touch_87 dX10_touch_88 (by decide) (nb_L dwu (by decide)) (nb_L dsum (by decide)) (fun c_87 => ?_) (fun c_87 => ?_)
        · skip
          refine xw_lload_n dX10_touch_96 rfl ?_
          refine xw_lstore dX10_touch_97 (by decide) ?_
          first
            | exact xw_ls [(0, vR 38), (1, vL (dt u u)), (7, vL (dt w u)), (9, vL (dt w u + dt v u))] ⟨rfl, rfl, rfl, rfl, trivial⟩ (E q1 q2 _ _ (by rw [if_pos (by omega)]) (by rw [if_pos (by omega)]) (nb_L dwu (by decide)) (nb_L dsum (by decide)))
            | exact xw_ls [(0, vR 38), (1, vL (dt u u)), (7, vL (dt w u + dt v u)), (9, vL (dt w u))] ⟨rfl, rfl, rfl, rfl, trivial⟩ (E q1 q2 _ _ (by rw [if_neg (by omega)]) (by rw [if_neg (by omega)]) (nb_L dsum (by decide)) (nb_L dwu (by decide)))
            | (exfalso; omega)
        · skip
          refine xw_lload dX10_touch_91 rfl ?_
          refine xw_goto (tgt := 97) dX10_touch_93 (by decide) ?_
          refine xw_lstore dX10_touch_97 (by decide) ?_
          first
            | exact xw_ls [(0, vR 38), (1, vL (dt u u)), (7, vL (dt w u)), (9, vL (dt w u + dt v u))] ⟨rfl, rfl, rfl, rfl, trivial⟩ (E q1 q2 _ _ (by rw [if_pos (by omega)]) (by rw [if_pos (by omega)]) (nb_L dwu (by decide)) (nb_L dsum (by decide)))
            | exact xw_ls [(0, vR 38), (1, vL (dt u u)), (7, vL (dt w u + dt v u)), (9, vL (dt w u))] ⟨rfl, rfl, rfl, rfl, trivial⟩ (E q1 q2 _ _ (by rw [if_neg (by omega)]) (by rw [if_neg (by omega)]) (nb_L dsum (by decide)) (nb_L dwu (by decide)))
            | (exfalso; omega)
      · skip
        refine xw_lload_n dX10_touch_76 rfl ?_
        refine xw_goto (tgt := 82) dX10_touch_77 (by decide) ?_
        refine xw_lstore dX10_touch_82 (by decide) ?_
        refine xw_lload_n dX10_touch_84 rfl ?_
        refine xw_lload dX10_touch_85 rfl ?_
        refine xw_lcmpge (tgt := 96) dX10_touch_87 dX10_touch_88 (by decide) (nb_L dwu (by decide)) (nb_L dsum (by decide)) (fun c_87 => ?_) (fun c_87 => ?_)
        · skip
          refine xw_lload_n dX10_touch_96 rfl ?_
          refine xw_lstore dX10_touch_97 (by decide) ?_
          first
            | exact xw_ls [(0, vR 38), (1, vL (dt u u)), (7, vL (dt w u)), (9, vL (dt w u + dt v u))] ⟨rfl, rfl, rfl, rfl, trivial⟩ (E q1 q2 _ _ (by rw [if_pos (by omega)]) (by rw [if_pos (by omega)]) (nb_L dwu (by decide)) (nb_L dsum (by decide)))
            | exact xw_ls [(0, vR 38), (1, vL (dt u u)), (7, vL (dt w u + dt v u)), (9, vL (dt w u))] ⟨rfl, rfl, rfl, rfl, trivial⟩ (E q1 q2 _ _ (by rw [if_neg (by omega)]) (by rw [if_neg (by omega)]) (nb_L dsum (by decide)) (nb_L dwu (by decide)))
            | (exfalso; omega)
        · skip
          refine xw_lload dX10_touch_91 rfl ?_
          refine xw_goto (tgt := 97) dX10_touch_93 (by decide) ?_
          refine xw_lstore dX10_touch_97 (by decide) ?_
          first
            | exact xw_ls [(0, vR 38), (1, vL (dt u u)), (7, vL (dt w u)), (9, vL (dt w u + dt v u))] ⟨rfl, rfl, rfl, rfl, trivial⟩ (E q1 q2 _ _ (by rw [if_pos (by omega)]) (by rw [if_pos (by omega)]) (nb_L dwu (by decide)) (nb_L dsum (by decide)))
            | exact xw_ls [(0, vR 38), (1, vL (dt u u)), (7, vL (dt w u + dt v u)), (9, vL (dt w u))] ⟨rfl, rfl, rfl, rfl, trivial⟩ (E q1 q2 _ _ (by rw [if_neg (by omega)]) (by rw [if_neg (by omega)]) (nb_L dsum (by decide)) (nb_L dwu (by decide)))
            | (exfalso; omega)
    · skip
      refine xw_ifne (tgt := 30) dX10_touch_25 (by decide) (by unfold inI; omega) (fun c => absurd c (by decide)) (fun _ => ?_)
      refine xw_iconst dX10_touch_28 ?_
      exact xw_zret dX10_touch_29 rfl rfl (h2 (fun q => by rcases q with ⟨_, k, _⟩ | ⟨k, _⟩; exact q2 k; exact k q1))
  · skip
    refine xw_ifeq (tgt := 119) dX10_touch_11 (by decide) (by unfold inI; omega) (fun _ => ?_) (fun c => absurd c (by decide))
    refine xw_aload_n dX10_touch_119 rfl ?_
    refine xw_getfield dX10_touch_120 fl_X10_46 h38 rfl ?_
    refine xw_aload_n dX10_touch_123 rfl ?_
    refine xw_getfield dX10_touch_124 fl_X10_49 h38 rfl ?_
    refine xw_aload_n dX10_touch_127 rfl ?_
    refine xw_getfield dX10_touch_128 fl_X10_52 h38 rfl ?_
    refine xw_callS (rc := 0) (rs := 0) (mc2 := 0) (ms2 := 0) (As := [vR 48, vR 49, vR 50]) (st := []) dX10_touch_131 ms_X10_173 rfl (by decide) (by decide) (Nat.le_of_ble_eq_true rfl) rfl (ct_mdet h48 h49 h50 ?_)
    refine xw_lconst (z := 0) dX10_touch_134 (by decide) ?_
    refine xw_lcmpeq (tgt := 141) dX10_touch_135 dX10_touch_136 (by decide) (nb_L ddet (by decide)) (by unfold inL; omega) (fun c_135 => ?_) (fun c_135 => ?_)
    · skip
      refine xw_aload_n dX10_touch_141 rfl ?_
      refine xw_getfield dX10_touch_142 fl_X10_46 h38 rfl ?_
      refine xw_aload_n dX10_touch_145 rfl ?_
      refine xw_getfield dX10_touch_146 fl_X10_49 h38 rfl ?_
      refine xw_iconst dX10_touch_149 ?_
      refine xw_callS (rc := 0) (rs := 0) (mc2 := 0) (ms2 := 0) (As := [vR 48, vR 49, vI ((0 : Nat) : Int)]) (st := []) dX10_touch_150 ms_X10_161 rfl (by decide) (by decide) (Nat.le_of_ble_eq_true rfl) rfl (ct_mcross h48 h49 (by decide) ?_)
      refine xw_lconst (z := 0) dX10_touch_153 (by decide) ?_
      refine xw_lcmpeq (tgt := 162) dX10_touch_154 dX10_touch_155 (by decide) (nb_L (nb_bd cuv (by decide)) (by decide)) (by unfold inL; omega) (fun c_154 => ?_) (fun c_154 => ?_)
      · skip
        refine xw_aload_n dX10_touch_162 rfl ?_
        refine xw_getfield dX10_touch_163 fl_X10_46 h38 rfl ?_
        refine xw_aload_n dX10_touch_166 rfl ?_
        refine xw_getfield dX10_touch_167 fl_X10_49 h38 rfl ?_
        refine xw_iconst dX10_touch_170 ?_
        refine xw_callS (rc := 0) (rs := 0) (mc2 := 0) (ms2 := 0) (As := [vR 48, vR 49, vI ((1 : Nat) : Int)]) (st := []) dX10_touch_171 ms_X10_161 rfl (by decide) (by decide) (Nat.le_of_ble_eq_true rfl) rfl (ct_mcross h48 h49 (by decide) ?_)
        refine xw_lconst (z := 0) dX10_touch_174 (by decide) ?_
        refine xw_lcmpeq (tgt := 183) dX10_touch_175 dX10_touch_176 (by decide) (nb_L (nb_bd cuv (by decide)) (by decide)) (by unfold inL; omega) (fun c_175 => ?_) (fun c_175 => ?_)
        · skip
          refine xw_iconst dX10_touch_183 ?_
          first
            | exact xw_ls [(0, vR 38)] ⟨rfl, trivial⟩ (A q1 c_135 0 (by unfold ax1; rw [if_pos c_154]) (by decide))
            | exact xw_ls [(0, vR 38)] ⟨rfl, trivial⟩ (A q1 c_135 1 (by unfold ax1; rw [if_neg (fun k => k c_154), if_pos c_175]) (by decide))
            | exact xw_ls [(0, vR 38)] ⟨rfl, trivial⟩ (A q1 c_135 2 (by unfold ax1; rw [if_neg (fun k => k c_154), if_neg (fun k => k c_175)]) (by decide))
        · skip
          refine xw_iconst dX10_touch_179 ?_
          refine xw_goto (tgt := 184) dX10_touch_180 (by decide) ?_
          first
            | exact xw_ls [(0, vR 38)] ⟨rfl, trivial⟩ (A q1 c_135 0 (by unfold ax1; rw [if_pos c_154]) (by decide))
            | exact xw_ls [(0, vR 38)] ⟨rfl, trivial⟩ (A q1 c_135 1 (by unfold ax1; rw [if_neg (fun k => k c_154), if_pos c_175]) (by decide))
            | exact xw_ls [(0, vR 38)] ⟨rfl, trivial⟩ (A q1 c_135 2 (by unfold ax1; rw [if_neg (fun k => k c_154), if_neg (fun k => k c_175)]) (by decide))
      · skip
        refine xw_iconst dX10_touch_158 ?_
        refine xw_goto (tgt := 184) dX10_touch_159 (by decide) ?_
        first
          | exact xw_ls [(0, vR 38)] ⟨rfl, trivial⟩ (A q1 c_135 0 (by unfold ax1; rw [if_pos c_154]) (by decide))
          | exact xw_ls [(0, vR 38)] ⟨rfl, trivial⟩ (A q1 c_135 1 (by unfold ax1; rw [if_neg (fun k => k c_154), if_pos c_175]) (by decide))
          | exact xw_ls [(0, vR 38)] ⟨rfl, trivial⟩ (A q1 c_135 2 (by unfold ax1; rw [if_neg (fun k => k c_154), if_neg (fun k => k c_175)]) (by decide))
    · skip
      refine xw_iconst dX10_touch_139 ?_
      exact xw_zret dX10_touch_140 rfl rfl (h2 (fun q => by rcases q with ⟨k, _⟩ | ⟨_, k, _⟩; exact q1 k; exact c_135 k))
/-- the sticks as the model has them -/
def mRaw (f : xH) (K P Z : Nat → Int) : Prop := f 43 = some (aI 101 K) ∧ f 46 = some (aI 909 P) ∧ f 47 = some (aZ 101 Z) ∧ ∃ U V W D : Nat → Int, f 48 = some (aL 3 U) ∧ f 49 = some (aL 3 V) ∧ f 50 = some (aL 3 W) ∧ f 51 = some (aL 3 D)
theorem mRaw_fr {f f1 : xH} {K P Z : Nat → Int} (h : mRaw f K P Z) (hf : ∀ k, (43 ≤ k ∧ k ≤ 47) ∨ (48 ≤ k ∧ k ≤ 51) → f1 k = f k) : mRaw f1 K P Z := by
  obtain ⟨h1, h2, h3, U, V, W, D, h4, h5, h6, h7⟩ := h
  exact ⟨(hf 43 (by omega)).trans h1, (hf 46 (by omega)).trans h2, (hf 47 (by omega)).trans h3, U, V, W, D, (hf 48 (by omega)).trans h4, (hf 49 (by omega)).trans h5, (hf 50 (by omega)).trans h6, (hf 51 (by omega)).trans h7⟩
set_option maxHeartbeats 4000000 in
theorem ct_touched {m K P Z : Nat → Int} {gn s : Nat} (h38 : f 38 = some (oMd m)) (hr : mRaw f K P Z) (h6 : m 6 = (gn : Int)) (hgn : gn ≤ 100) (hs : s ≤ gn) (hK : ∀ t, (t < gn ∨ t = s) → inI (K t)) (hP : ∀ t, (t < gn ∨ t = s) → ∀ j, j < 9 → nr (P (9 * t + j))) (hZ : ∀ t, t < 101 → Z t = 0 ∨ Z t = 1) (hd : nb (m 13) 100 ∧ nb (m 14) 100 ∧ nb (m 15) 100)
    (hq : ∀ f1 r, fr vcS f f1 → mRaw f1 K P Z → ltM gn K P Z s r → Q (.inl (some (vI r))) n f1) : xct g M_X10_touched 0 0 [vR 38, vI (s : Int)] n f Q := by
  refine xct_of rfl rfl (Nat.le_of_ble_eq_true rfl) ?_
  have J : ∀ (o : Nat), o < gn → Z o = 1 → o ≠ s → (∀ t, t < o → Z t = 1 → t ≠ s → ¬ tMS K P s t) → (∀ f2, fr vcS f f2 → mRaw f2 K P Z → ¬ tMS K P s o → xw g M_X10_touched Q 0 0 81 [(0, vR 38), (1, vI (s : Int)), (2, vI (o : Int))] [] n f2) →
      ∀ (mp p : Nat) (f1 : xH), p + mp = pcz (K s) → fr vcS f f1 → mRaw f1 K P Z → (∀ p' q', p' < p → q' < pcz (K o) → ¬ tchM (dv (Ps P s) p') (dv (Ps P o) q') (gv (Ps P s) p' (Ps P o) q')) → xw g M_X10_touched Q 0 0 29 [(0, vR 38), (1, vI (s : Int)), (2, vI (o : Int)), (3, vI (p : Int))] [] n f1 := by
    intro o ho hZo hos hbef C mp
    have p2s := pcz_2 (K s)
    have p2o := pcz_2 (K o)
    induction mp with
    | zero =>
      intro p f1 hp hf hr1 hi
      have e38 : f1 38 = some (oMd m) := fr_at hf h38 (by decide)
      refine xw_iload_n dX10_touched_29 rfl ?_
      refine xw_aload_n dX10_touched_30 rfl ?_
      refine xw_iload_n dX10_touched_31 rfl ?_
      refine xw_callV (rc := 0) (rs := 0) (mc2 := 0) (ms2 := 0) (a := 38) (As := [vI (s : Int)]) (st := [vI (p : Int)]) dX10_touched_32 mv_X10_184 e38 rfl rfl (by decide) (by decide) (Nat.le_of_ble_eq_true rfl) rfl (ct_pieces e38 hr1.1 (by omega) (hK s (Or.inr rfl)) ?_)
      refine xw_icmpge (tgt := 81) dX10_touched_35 (by decide) (by first | assumption | (unfold inI; omega) | (unfold inI at *; omega)) (by first | assumption | (unfold inI; omega) | (unfold inI at *; omega)) (fun c_35 => ?_) (fun c_35 => ?_)
      · skip
        exact xw_ls [(0, vR 38), (1, vI (s : Int)), (2, vI (o : Int))] ⟨rfl, rfl, rfl, trivial⟩ (C f1 hf hr1 (fun ⟨p', q', k1, k2, k3⟩ => hi p' q' (by omega) k2 k3))
      · skip
        exfalso; omega
    | succ mp ihp =>
      intro p f1 hp hf hr1 hi
      have L : ∀ (mq q : Nat) (f1 : xH), q + mq = pcz (K o) → fr vcS f f1 → mRaw f1 K P Z → (∀ q', q' < q → ¬ tchM (dv (Ps P s) p) (dv (Ps P o) q') (gv (Ps P s) p (Ps P o) q')) → xw g M_X10_touched Q 0 0 41 [(0, vR 38), (1, vI (s : Int)), (2, vI (o : Int)), (3, vI (p : Int)), (4, vI (q : Int))] [] n f1 := by
        intro mq
        induction mq with
        | zero =>
          intro q f1 hq9 hf hr1 hj
          have e38 : f1 38 = some (oMd m) := fr_at hf h38 (by decide)
          refine xw_iload dX10_touched_41 rfl ?_
          refine xw_aload_n dX10_touched_43 rfl ?_
          refine xw_iload_n dX10_touched_44 rfl ?_
          refine xw_callV (rc := 0) (rs := 0) (mc2 := 0) (ms2 := 0) (a := 38) (As := [vI (o : Int)]) (st := [vI (q : Int)]) dX10_touched_45 mv_X10_184 e38 rfl rfl (by decide) (by decide) (Nat.le_of_ble_eq_true rfl) rfl (ct_pieces e38 hr1.1 (by omega) (hK o (Or.inl ho)) ?_)
          refine xw_icmpge (tgt := 75) dX10_touched_48 (by decide) (by first | assumption | (unfold inI; omega) | (unfold inI at *; omega)) (by first | assumption | (unfold inI; omega) | (unfold inI at *; omega)) (fun c_48 => ?_) (fun c_48 => ?_)
          · skip
            refine xw_iinc dX10_touched_75 rfl (by decide) ?_
            refine xw_goto (tgt := 29) dX10_touched_78 (by decide) ?_
            exact xw_ls [(0, vR 38), (1, vI (s : Int)), (2, vI (o : Int)), (3, vI ((p + 1 : Nat) : Int))] ⟨rfl, rfl, rfl, rfl, trivial⟩ (ihp (p + 1) f1 (by omega) hf hr1 (fun p' q' k1 k2 => by
                by_cases e : p' = p
                · subst e; exact hj q' (by omega)
                · exact hi p' q' (by omega) k2))
          · skip
            exfalso; omega
        | succ mq ihq =>
          intro q f1 hq9 hf hr1 hj
          have e38 : f1 38 = some (oMd m) := fr_at hf h38 (by decide)
          obtain ⟨k43, k46, k47, U, V, W, D, k48, k49, k50, k51⟩ := id hr1
          refine xw_iload dX10_touched_41 rfl ?_
          refine xw_aload_n dX10_touched_43 rfl ?_
          refine xw_iload_n dX10_touched_44 rfl ?_
          refine xw_callV (rc := 0) (rs := 0) (mc2 := 0) (ms2 := 0) (a := 38) (As := [vI (o : Int)]) (st := [vI (q : Int)]) dX10_touched_45 mv_X10_184 e38 rfl rfl (by decide) (by decide) (Nat.le_of_ble_eq_true rfl) rfl (ct_pieces e38 k43 (by omega) (hK o (Or.inl ho)) ?_)
          refine xw_icmpge (tgt := 75) dX10_touched_48 (by decide) (by first | assumption | (unfold inI; omega) | (unfold inI at *; omega)) (by first | assumption | (unfold inI; omega) | (unfold inI at *; omega)) (fun c_48 => ?_) (fun c_48 => ?_)
          · skip
            exfalso; omega
          · skip
            refine xw_aload_n dX10_touched_51 rfl ?_
            refine xw_iload_n dX10_touched_52 rfl ?_
            refine xw_iload_n dX10_touched_53 rfl ?_
            refine xw_iload_n dX10_touched_54 rfl ?_
            refine xw_iload dX10_touched_55 rfl ?_
            refine xw_callV (rc := 0) (rs := 0) (mc2 := 0) (ms2 := 0) (a := 38) (As := [vI (s : Int), vI (p : Int), vI (o : Int), vI (q : Int)]) (st := []) dX10_touched_57 mv_X10_188 e38 rfl rfl (by decide) (by decide) (Nat.le_of_ble_eq_true rfl) rfl (ct_setPieces e38 k46 k48 k49 k50 k51 (by omega) (by omega) (by omega) (by omega) (hP s (Or.inr rfl)) (hP o (Or.inl ho)) hd (fun f2 hf2 j48 j49 j50 j51 => ?_))
            have j38 : f2 38 = some (oMd m) := fr_at hf2 e38 (by decide)
            have hr2 : mRaw f2 K P Z := ⟨fr_at hf2 k43 (by decide), fr_at hf2 k46 (by decide), fr_at hf2 k47 (by decide), _, _, _, _, j48, j49, j50, j51⟩
            refine xw_aload_n dX10_touched_60 rfl ?_
            refine xw_callV (rc := 0) (rs := 0) (mc2 := 0) (ms2 := 0) (a := 38) (As := []) (st := []) dX10_touched_61 mv_X10_192 j38 rfl rfl (by decide) (by decide) (Nat.le_of_ble_eq_true rfl) rfl (ct_mtouch j38 j48 j49 j50 (bd_dv (hP s (Or.inr rfl)) (by omega)) (bd_dv (hP o (Or.inl ho)) (by omega)) (bd_gv (hP s (Or.inr rfl)) (hP o (Or.inl ho)) (by omega) (by omega)) (fun k1 => ?_) (fun k1 => ?_))
            · skip
              refine xw_ifeq (tgt := 69) dX10_touched_64 (by decide) (by unfold inI; omega) (fun c => absurd c (by decide)) (fun _ => ?_)
              refine xw_iload_n dX10_touched_67 rfl ?_
              exact xw_iret dX10_touched_68 rfl (hq f2 o (fr_tr hf hf2) hr2 (Or.inr ⟨o, ho, rfl, hZo, hos, ⟨p, q, by omega, by omega, k1⟩, hbef⟩))
            · skip
              refine xw_ifeq (tgt := 69) dX10_touched_64 (by decide) (by unfold inI; omega) (fun _ => ?_) (fun c => absurd c (by decide))
              refine xw_iinc dX10_touched_69 rfl (by decide) ?_
              refine xw_goto (tgt := 41) dX10_touched_72 (by decide) ?_
              exact xw_ls [(0, vR 38), (1, vI (s : Int)), (2, vI (o : Int)), (3, vI (p : Int)), (4, vI ((q + 1 : Nat) : Int))] ⟨rfl, rfl, rfl, rfl, rfl, trivial⟩ (ihq (q + 1) f2 (by omega) (fr_tr hf hf2) hr2 (fun q' k2 => by
                  by_cases e : q' = q
                  · subst e; exact k1
                  · exact hj q' (by omega)))
      have e38 : f1 38 = some (oMd m) := fr_at hf h38 (by decide)
      refine xw_iload_n dX10_touched_29 rfl ?_
      refine xw_aload_n dX10_touched_30 rfl ?_
      refine xw_iload_n dX10_touched_31 rfl ?_
      refine xw_callV (rc := 0) (rs := 0) (mc2 := 0) (ms2 := 0) (a := 38) (As := [vI (s : Int)]) (st := [vI (p : Int)]) dX10_touched_32 mv_X10_184 e38 rfl rfl (by decide) (by decide) (Nat.le_of_ble_eq_true rfl) rfl (ct_pieces e38 hr1.1 (by omega) (hK s (Or.inr rfl)) ?_)
      refine xw_icmpge (tgt := 81) dX10_touched_35 (by decide) (by first | assumption | (unfold inI; omega) | (unfold inI at *; omega)) (by first | assumption | (unfold inI; omega) | (unfold inI at *; omega)) (fun c_35 => ?_) (fun c_35 => ?_)
      · skip
        exfalso; omega
      · skip
        refine xw_iconst dX10_touched_38 ?_
        refine xw_istore dX10_touched_39 (by decide) ?_
        exact xw_ls [(0, vR 38), (1, vI (s : Int)), (2, vI (o : Int)), (3, vI (p : Int)), (4, vI ((0 : Nat) : Int))] ⟨rfl, rfl, rfl, rfl, rfl, trivial⟩ (L (pcz (K o)) 0 f1 (by omega) hf hr1 (fun q' k => absurd k (Nat.not_lt_zero _)))
  have O : ∀ (mo o : Nat) (f1 : xH), o + mo = gn → fr vcS f f1 → mRaw f1 K P Z → (∀ t, t < o → Z t = 1 → t ≠ s → ¬ tMS K P s t) → xw g M_X10_touched Q 0 0 2 [(0, vR 38), (1, vI (s : Int)), (2, vI (o : Int))] [] n f1 := by
    intro mo
    induction mo with
    | zero =>
      intro o f1 ho hf hr1 hi
      have e38 : f1 38 = some (oMd m) := fr_at hf h38 (by decide)
      refine xw_iload_n dX10_touched_2 rfl ?_
      refine xw_aload_n dX10_touched_3 rfl ?_
      refine xw_getfield dX10_touched_4 fl_X10_181 e38 rfl ?_
      refine xw_topi (gn : Int) h6 ?_
      refine xw_icmpge (tgt := 87) dX10_touched_7 (by decide) (by first | assumption | (unfold inI; omega) | (unfold inI at *; omega)) (by first | assumption | (unfold inI; omega) | (unfold inI at *; omega)) (fun c_7 => ?_) (fun c_7 => ?_)
      · skip
        refine xw_iconst dX10_touched_87 ?_
        exact xw_iret dX10_touched_88 rfl (hq f1 (-1) hf hr1 (Or.inl ⟨rfl, fun t ht => hi t (by omega)⟩))
      · skip
        exfalso; omega
    | succ mo ih =>
      intro o f1 ho hf hr1 hi
      have e38 : f1 38 = some (oMd m) := fr_at hf h38 (by decide)
      have hzo := hZ o (by omega)
      have C : ∀ f2, fr vcS f f2 → mRaw f2 K P Z → (Z o = 1 → o ≠ s → ¬ tMS K P s o) → xw g M_X10_touched Q 0 0 81 [(0, vR 38), (1, vI (s : Int)), (2, vI (o : Int))] [] n f2 := by
        intro f2 hf2 hr2 hn
        refine xw_iinc dX10_touched_81 rfl (by decide) ?_
        refine xw_goto (tgt := 2) dX10_touched_84 (by decide) ?_
        exact xw_ls [(0, vR 38), (1, vI (s : Int)), (2, vI ((o + 1 : Nat) : Int))] ⟨rfl, rfl, rfl, trivial⟩ (ih (o + 1) f2 (by omega) hf2 hr2 (fun t ht => by
            by_cases e : t = o
            · subst e; exact hn
            · exact hi t (by omega)))
      refine xw_iload_n dX10_touched_2 rfl ?_
      refine xw_aload_n dX10_touched_3 rfl ?_
      refine xw_getfield dX10_touched_4 fl_X10_181 e38 rfl ?_
      refine xw_topi (gn : Int) h6 ?_
      refine xw_icmpge (tgt := 87) dX10_touched_7 (by decide) (by first | assumption | (unfold inI; omega) | (unfold inI at *; omega)) (by first | assumption | (unfold inI; omega) | (unfold inI at *; omega)) (fun c_7 => ?_) (fun c_7 => ?_)
      · skip
        exfalso; omega
      · skip
        refine xw_aload_n dX10_touched_10 rfl ?_
        refine xw_getfield dX10_touched_11 fl_X10_39 e38 rfl ?_
        refine xw_iload_n dX10_touched_14 rfl ?_
        refine xw_zald dX10_touched_15 hr1.2.2.1 (j := o) rfl (by omega) (by decide) ?_
        refine xw_ifeq (tgt := 81) dX10_touched_16 (by decide) (by unfold inI; omega) (fun c_16 => ?_) (fun c_16 => ?_)
        · skip
          first
            | exact xw_ls [(0, vR 38), (1, vI (s : Int)), (2, vI (o : Int))] ⟨rfl, rfl, rfl, trivial⟩ (C f1 hf hr1 (fun q _ => by omega))
            | exact xw_ls [(0, vR 38), (1, vI (s : Int)), (2, vI (o : Int))] ⟨rfl, rfl, rfl, trivial⟩ (C f1 hf hr1 (fun _ q => absurd (by omega) q))
        · skip
          refine xw_iload_n dX10_touched_19 rfl ?_
          refine xw_iload_n dX10_touched_20 rfl ?_
          refine xw_icmpne (tgt := 27) dX10_touched_21 (by decide) (by first | assumption | (unfold inI; omega) | (unfold inI at *; omega)) (by first | assumption | (unfold inI; omega) | (unfold inI at *; omega)) (fun c_21 => ?_) (fun c_21 => ?_)
          · skip
            refine xw_iconst dX10_touched_27 ?_
            refine xw_istore_n dX10_touched_28 (by decide) ?_
            exact xw_ls [(0, vR 38), (1, vI (s : Int)), (2, vI (o : Int)), (3, vI ((0 : Nat) : Int))] ⟨rfl, rfl, rfl, rfl, trivial⟩ (J o (by omega) (by omega) (by omega) hi (fun f2 a1 a2 a3 => C f2 a1 a2 (fun _ _ => a3)) (pcz (K s)) 0 f1 (by omega) hf hr1 (fun p' q' k => absurd k (Nat.not_lt_zero _)))
          · skip
            refine xw_goto (tgt := 81) dX10_touched_24 (by decide) ?_
            first
              | exact xw_ls [(0, vR 38), (1, vI (s : Int)), (2, vI (o : Int))] ⟨rfl, rfl, rfl, trivial⟩ (C f1 hf hr1 (fun q _ => by omega))
              | exact xw_ls [(0, vR 38), (1, vI (s : Int)), (2, vI (o : Int))] ⟨rfl, rfl, rfl, trivial⟩ (C f1 hf hr1 (fun _ q => absurd (by omega) q))
  refine xw_iconst dX10_touched_0 ?_
  refine xw_istore_n dX10_touched_1 (by decide) ?_
  exact xw_ls [(0, vR 38), (1, vI (s : Int)), (2, vI ((0 : Nat) : Int))] ⟨rfl, rfl, rfl, trivial⟩ (O gn 0 f (by omega) (fr_rf _ f) hr (fun t ht => absurd ht (Nat.not_lt_zero t)))
end C79
