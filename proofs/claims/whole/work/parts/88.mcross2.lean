/-! the model's crosses: the method -/
theorem mkp_0 {p q t : Int} {l : Nat} {s : ofS} (h : s.1 = 0) : mkp p q t l s = mkp p q t l s00 := by
  unfold mkp
  rw [if_pos (Or.inl h), if_pos (Or.inl h), if_pos (Or.inl h), if_pos (Or.inl h), if_pos (Or.inl rfl), if_pos (Or.inl rfl), if_pos (Or.inl rfl), if_pos (Or.inl rfl)]
theorem fold_0 {L : List cnd} {s : ofS} (h : s.1 = 0) (hL : L ≠ []) : L.foldl mkpC s = L.foldl mkpC s00 := by
  cases L with
  | nil => exact absurd rfl hL
  | cons c L => rw [List.foldl_cons, List.foldl_cons]; unfold mkpC; rw [mkp_0 h]
noncomputable def mcV (d u v w : Nat → Int) : ofS := (mCs d u v w).foldl mkpC s00
theorem nb_1 : nb 1 400000 := nb_c 1 (by decide)
theorem prtM_n {a b : Int} {A : Nat} (h : prtM a b) (hb : nb b A) : nb a A := by unfold prtM at h; unfold nb at *; omega
theorem crcr_0 (u v d : Nat → Int) : cr (cr u d) (cr v d) 0 = d 0 * de u v d := by show (u 2 * d 0 - u 0 * d 2) * (v 0 * d 1 - v 1 * d 0) - (u 0 * d 1 - u 1 * d 0) * (v 2 * d 0 - v 0 * d 2) = d 0 * de u v d; unfold de; grind
theorem crcr_1 (u v d : Nat → Int) : cr (cr u d) (cr v d) 1 = d 1 * de u v d := by show (u 0 * d 1 - u 1 * d 0) * (v 1 * d 2 - v 2 * d 1) - (u 1 * d 2 - u 2 * d 1) * (v 0 * d 1 - v 1 * d 0) = d 1 * de u v d; unfold de; grind
theorem crcr_2 (u v d : Nat → Int) : cr (cr u d) (cr v d) 2 = d 2 * de u v d := by show (u 1 * d 2 - u 2 * d 1) * (v 2 * d 0 - v 0 * d 2) - (u 2 * d 0 - u 0 * d 2) * (v 1 * d 2 - v 2 * d 1) = d 2 * de u v d; unfold de; grind
theorem crcr_z {u v d : Nat → Int} (h : de u v d = 0) : z3 (cr (cr u d) (cr v d)) := ⟨by rw [crcr_0, h, Int.mul_zero], by rw [crcr_1, h, Int.mul_zero], by rw [crcr_2, h, Int.mul_zero]⟩
theorem par_ne {a b : Nat → Int} {i : Nat} (hi : i < 3) (hz : z3 (cr a b)) (ha : a i ≠ 0) (hb : ¬ z3 b) : b i ≠ 0 := by
  intro e
  obtain ⟨z0, z1, z2⟩ := hz
  have z0' : a 1 * b 2 - a 2 * b 1 = 0 := z0
  have z1' : a 2 * b 0 - a 0 * b 2 = 0 := z1
  have z2' : a 0 * b 1 - a 1 * b 0 = 0 := z2
  apply hb
  rcases lt3 hi with rfl | rfl | rfl
  · rw [e, Int.mul_zero] at z1' z2'
    refine ⟨e, ?_, ?_⟩
    · rcases Int.mul_eq_zero.1 (by omega : a 0 * b 1 = 0) with k | k; exact absurd k ha; exact k
    · rcases Int.mul_eq_zero.1 (by omega : a 0 * b 2 = 0) with k | k; exact absurd k ha; exact k
  · rw [e, Int.mul_zero] at z0' z2'
    refine ⟨?_, e, ?_⟩
    · rcases Int.mul_eq_zero.1 (by omega : a 1 * b 0 = 0) with k | k; exact absurd k ha; exact k
    · rcases Int.mul_eq_zero.1 (by omega : a 1 * b 2 = 0) with k | k; exact absurd k ha; exact k
  · rw [e, Int.mul_zero] at z0' z1'
    refine ⟨?_, ?_, e⟩
    · rcases Int.mul_eq_zero.1 (by omega : a 2 * b 0 = 0) with k | k; exact absurd k ha; exact k
    · rcases Int.mul_eq_zero.1 (by omega : a 2 * b 1 = 0) with k | k; exact absurd k ha; exact k
section C88
variable {g : xG} {y : xM} {Q : xP} {n : Nat} {f : xH}
set_option maxHeartbeats 16000000 in
theorem ct_crosses {m P u v w d : Nat → Int} {s p o q : Nat} (h38 : f 38 = some (oMd m)) (h46 : f 46 = some (aI 909 P)) (hv : mVc f) (hs : s < 101) (ho : o < 101) (hp : p < 2) (hq9 : q < 2) (hns : ∀ j, j < 9 → nr (P (9 * s + j))) (hno : ∀ j, j < 9 → nr (P (9 * o + j))) (hu : u = dv (Ps P s) p) (hv9 : v = dv (Ps P o) q) (hw : w = gv (Ps P s) p (Ps P o) q) (hd9 : d = v3 (m 13) (m 14) (m 15)) (hd : bd d 100) (hz : ¬ z3 d)
    (h1 : ∀ f1 m1, mCs d u v w ≠ [] → crF f f1 m m1 → kst m1 (mcV d u v w) → Q (.inl (some (vI 1))) n f1) (h0 : ∀ f1 m1, mCs d u v w = [] → crF f f1 m m1 → Q (.inl (some (vI 0))) n f1) : xct g M_X10_crosses 0 0 [vR 38, vI (s : Int), vI (p : Int), vI (o : Int), vI (q : Int)] n f Q := by
  refine xct_of rfl rfl (Nat.le_of_ble_eq_true rfl) ?_
  have bu : bd u 2000 := by rw [hu]; exact bd_dv hns hp
  have bv : bd v 2000 := by rw [hv9]; exact bd_dv hno hq9
  have bw : bd w 2000 := by rw [hw]; exact bd_gv hns hno hp hq9
  have bsu : bd (cr u d) 400000 := bd_cr bu hd (by decide)
  have bsv : bd (cr v d) 400000 := bd_cr bv hd (by decide)
  have bsw : bd (cr w d) 400000 := bd_cr bw hd (by decide)
  have blo : nb (de u v d) 2400000000 := nb_le (bd_de bu bv hd) (by decide)
  have bwv : nb (de w v d) 2400000000 := nb_le (bd_de bw bv hd) (by decide)
  have buw : nb (de u w d) 2400000000 := nb_le (bd_de bu bw hd) (by decide)
  have buvw : nb (de u v w) 48000000000 := nb_le (bd_de bu bv bw) (by decide)
  obtain ⟨s9, hs9⟩ : ∃ s9 : ofS, s9 = mcV d u v w := ⟨_, rfl⟩
  -- all behind the shades
  have B : de u v d = 0 → ∀ (F : xH) (m2 : Nat → Int) (s0 : ofS), s0.1 = 0 → cI m F s0 F m2 → fr crS f F → F 48 = some (aL 3 u) → F 49 = some (aL 3 v) → F 50 = some (aL 3 w) → F 51 = some (aL 3 d) → F 56 = some (aL 3 (cr u d)) → F 57 = some (aL 3 (cr v d)) → F 58 = some (aL 3 (cr w d)) → xw g M_X10_crosses Q 0 0 197 [(0, vR 38)] [] n F := by
    intro low F m2 s0 hs0 hI hf F48 F49 F50 F51 F56 F57 F58
    obtain ⟨SF, hSF⟩ : ∃ SF, SF = (mCs d u v w).foldl mkpC s0 := ⟨_, rfl⟩
    have toF : ∀ s1 F1 m3, cI m F s1 F1 m3 → crF f F1 m m3 := by
      intro s1 F1 m3 h
      obtain ⟨_, _, _, _, a1, a2, a3⟩ := h
      exact ⟨fun k hk => (a3 k (fun q => hk (by rcases List.mem_singleton.1 q with rfl; decide))).trans (hf k hk), a1, a2, u, v, w, d, _, _, _, fr_at a3 F48 (by decide), fr_at a3 F49 (by decide), fr_at a3 F50 (by decide), fr_at a3 F51 (by decide), fr_at a3 F56 (by decide), fr_at a3 F57 (by decide), fr_at a3 F58 (by decide)⟩
    have FY : ∀ F1 m3, cI m F SF F1 m3 → mCs d u v w ≠ [] → Q (.inl (some (vI 1))) n F1 := by
      intro F1 m3 h hne
      exact h1 F1 m3 hne (toF _ _ _ h) (by rw [mcV, ← fold_0 hs0 hne, ← hSF]; exact h.1)
    have FN : mCs d u v w = [] → Q (.inl (some (vI 0))) n F := fun e => h0 F m2 e (toF _ _ _ hI)
    have F38 : F 38 = some (oMd m2) := hI.2.2.2.2.1
    by_cases zu : z3 (cr u d)
    · by_cases zv : z3 (cr v d)
      · have eC : mCs d u v w = cite (z3 (cr w d)) (ups (fun a => ups (fun b => [mC d u v w a 1 b 1]) 2 0) 2 0) [] := by
          unfold mCs; rw [cite_f (fun k => k low), cite_t zu, cite_t zv]
        by_cases zw : z3 (cr w d)
        · rw [cite_t zw] at eC
          have ne : mCs d u v w ≠ [] := by rw [eC]; intro k; cases k
          have LB : ∀ (j b a : Nat) (s1 s2 : ofS) (F1 : xH) (m3 : Nat → Int), b + j = 2 → a < 2 → cI m F s1 F1 m3 → (ups (fun b => [mC d u v w a 1 b 1]) j b).foldl mkpC s1 = s2 → (∀ F2 m4, cI m F s2 F2 m4 → xw g M_X10_crosses Q 0 0 243 [(0, vR 38), (9, vI ((a + 1 : Nat) : Int))] [] n F2) → xw g M_X10_crosses Q 0 0 252 [(0, vR 38), (9, vI (a : Int)), (10, vI (b : Int))] [] n F1 := by
            intro j
            induction j with
            | zero =>
              intro b a s1 s2 F1 m3 hb ha hI1 hs2 K
              refine xw_iload dX10_crosses_252 rfl ?_
              refine xw_iconst dX10_crosses_254 ?_
              refine xw_icmpge (tgt := 276) dX10_crosses_255 (by decide) (by first | assumption | (unfold inI; omega) | (unfold inI at *; omega)) (by first | assumption | (unfold inI; omega) | (unfold inI at *; omega)) (fun c_255 => ?_) (fun c_255 => ?_)
              · skip
                refine xw_iinc dX10_crosses_276 rfl (by decide) ?_
                refine xw_goto (tgt := 243) dX10_crosses_279 (by decide) ?_
                exact xw_ls [(0, vR 38), (9, vI ((a + 1 : Nat) : Int))] ⟨rfl, rfl, trivial⟩ (K F1 m3 (by rw [← hs2]; exact hI1))
              · skip
                exfalso; omega
            | succ j ih =>
              intro b a s1 s2 F1 m3 hb ha hI1 hs2 K
              have e38 : F1 38 = some (oMd m3) := hI1.2.2.2.2.1
              refine xw_iload dX10_crosses_252 rfl ?_
              refine xw_iconst dX10_crosses_254 ?_
              refine xw_icmpge (tgt := 276) dX10_crosses_255 (by decide) (by first | assumption | (unfold inI; omega) | (unfold inI at *; omega)) (by first | assumption | (unfold inI; omega) | (unfold inI at *; omega)) (fun c_255 => ?_) (fun c_255 => ?_)
              · skip
                exfalso; omega
              · skip
                refine xw_aload_n dX10_crosses_258 rfl ?_
                refine xw_iload dX10_crosses_259 rfl ?_
                refine xw_i2l dX10_crosses_261 (by first | assumption | (unfold inI; omega) | (unfold inI at *; omega)) ?_
                refine xw_lconst (z := 1) dX10_crosses_262 (by decide) ?_
                refine xw_iload dX10_crosses_263 rfl ?_
                refine xw_i2l dX10_crosses_265 (by first | assumption | (unfold inI; omega) | (unfold inI at *; omega)) ?_
                refine xw_lconst (z := 1) dX10_crosses_266 (by decide) ?_
                refine xw_callV (rc := 0) (rs := 0) (mc2 := 0) (ms2 := 0) (a := 38) (As := [vL (a : Int), vL 1, vL (b : Int), vL 1]) (st := []) dX10_crosses_267 mv_X10_254 e38 rfl rfl (by decide) (by decide) (Nat.le_of_ble_eq_true rfl) rfl (ct_meet hI1 F48 F49 F50 F51 bu bv bw hd hz (by decide) (by decide) (nb_nat (by omega)) nb_1 (nb_nat (by omega)) nb_1 (Or.inl ⟨rfl, nb_nat (by omega)⟩) (fun F2 m4 hI2 => ?_))
                refine xw_iinc dX10_crosses_270 rfl (by decide) ?_
                refine xw_goto (tgt := 252) dX10_crosses_273 (by decide) ?_
                exact xw_ls [(0, vR 38), (9, vI (a : Int)), (10, vI ((b + 1 : Nat) : Int))] ⟨rfl, rfl, rfl, trivial⟩ (ih (b + 1) a _ s2 F2 m4 (by omega) ha hI2 (by rw [← hs2]; rfl) K)
          have LA : ∀ (j a : Nat) (s1 : ofS) (F1 : xH) (m3 : Nat → Int), a + j = 2 → cI m F s1 F1 m3 → (ups (fun a => ups (fun b => [mC d u v w a 1 b 1]) 2 0) j a).foldl mkpC s1 = SF → xw g M_X10_crosses Q 0 0 243 [(0, vR 38), (9, vI (a : Int))] [] n F1 := by
            intro j
            induction j with
            | zero =>
              intro a s1 F1 m3 ha hI1 hs2
              refine xw_iload dX10_crosses_243 rfl ?_
              refine xw_iconst dX10_crosses_245 ?_
              refine xw_icmpge (tgt := 282) dX10_crosses_246 (by decide) (by first | assumption | (unfold inI; omega) | (unfold inI at *; omega)) (by first | assumption | (unfold inI; omega) | (unfold inI at *; omega)) (fun c_246 => ?_) (fun c_246 => ?_)
              · skip
                refine xw_iconst dX10_crosses_282 ?_
                exact xw_zret dX10_crosses_283 rfl rfl (FY F1 m3 (by rw [← hs2]; exact hI1) ne)
              · skip
                exfalso; omega
            | succ j ih =>
              intro a s1 F1 m3 ha hI1 hs2
              refine xw_iload dX10_crosses_243 rfl ?_
              refine xw_iconst dX10_crosses_245 ?_
              refine xw_icmpge (tgt := 282) dX10_crosses_246 (by decide) (by first | assumption | (unfold inI; omega) | (unfold inI at *; omega)) (by first | assumption | (unfold inI; omega) | (unfold inI at *; omega)) (fun c_246 => ?_) (fun c_246 => ?_)
              · skip
                exfalso; omega
              · skip
                refine xw_iconst dX10_crosses_249 ?_
                refine xw_istore dX10_crosses_250 (by decide) ?_
                exact xw_ls [(0, vR 38), (9, vI (a : Int)), (10, vI ((0 : Nat) : Int))] ⟨rfl, rfl, rfl, trivial⟩ (LB 2 0 a s1 _ F1 m3 (by omega) (by omega) hI1 rfl (fun F2 m4 hI2 => ih (a + 1) _ F2 m4 (by omega) hI2 (by rw [← hs2]; show _ = List.foldl mkpC s1 (_ ++ _); rw [List.foldl_append])))
          refine xw_aload_n dX10_crosses_197 rfl ?_
          refine xw_getfield dX10_crosses_198 fl_X10_70 F38 rfl ?_
          refine xw_callS (rc := 0) (rs := 0) (mc2 := 0) (ms2 := 0) (As := [vR 56]) (st := []) dX10_crosses_201 ms_X10_250 rfl (by decide) (by decide) (Nat.le_of_ble_eq_true rfl) rfl (ct_axisOf F56 (bd_3 bsu (by decide)) (fun _ => ?_) (fun k => absurd zu k))
          refine xw_istore dX10_crosses_204 (by decide) ?_
          refine xw_aload_n dX10_crosses_206 rfl ?_
          refine xw_getfield dX10_crosses_207 fl_X10_73 F38 rfl ?_
          refine xw_callS (rc := 0) (rs := 0) (mc2 := 0) (ms2 := 0) (As := [vR 57]) (st := []) dX10_crosses_210 ms_X10_250 rfl (by decide) (by decide) (Nat.le_of_ble_eq_true rfl) rfl (ct_axisOf F57 (bd_3 bsv (by decide)) (fun _ => ?_) (fun k => absurd zv k))
          refine xw_istore dX10_crosses_213 (by decide) ?_
          refine xw_iload dX10_crosses_215 rfl ?_
          refine xw_iconst dX10_crosses_217 ?_
          refine xw_icmpne (tgt := 284) dX10_crosses_218 (by decide) (by first | assumption | (unfold inI; omega) | (unfold inI at *; omega)) (by first | assumption | (unfold inI; omega) | (unfold inI at *; omega)) (fun c_218 => ?_) (fun c_218 => ?_)
          · skip
            exfalso; omega
          · skip
            refine xw_iload dX10_crosses_221 rfl ?_
            refine xw_iconst dX10_crosses_223 ?_
            refine xw_icmpne (tgt := 284) dX10_crosses_224 (by decide) (by first | assumption | (unfold inI; omega) | (unfold inI at *; omega)) (by first | assumption | (unfold inI; omega) | (unfold inI at *; omega)) (fun c_224 => ?_) (fun c_224 => ?_)
            · skip
              exfalso; omega
            · skip
              refine xw_aload_n dX10_crosses_227 rfl ?_
              refine xw_getfield dX10_crosses_228 fl_X10_76 F38 rfl ?_
              refine xw_callS (rc := 0) (rs := 0) (mc2 := 0) (ms2 := 0) (As := [vR 58]) (st := []) dX10_crosses_231 ms_X10_250 rfl (by decide) (by decide) (Nat.le_of_ble_eq_true rfl) rfl (ct_axisOf F58 (bd_3 bsw (by decide)) (fun _ => ?_) (fun k => absurd zw k))
              refine xw_iconst dX10_crosses_234 ?_
              refine xw_icmpeq (tgt := 240) dX10_crosses_235 (by decide) (by first | assumption | (unfold inI; omega) | (unfold inI at *; omega)) (by first | assumption | (unfold inI; omega) | (unfold inI at *; omega)) (fun c_235 => ?_) (fun c_235 => ?_)
              · skip
                refine xw_iconst dX10_crosses_240 ?_
                refine xw_istore dX10_crosses_241 (by decide) ?_
                exact xw_ls [(0, vR 38), (9, vI ((0 : Nat) : Int))] ⟨rfl, rfl, trivial⟩ (LA 2 0 s0 F m2 (by omega) hI (by rw [hSF, eC]))
              · skip
                exfalso; omega
        · rw [cite_f zw] at eC
          have q9 := FN eC
          have xw3 := (ax1_ne zw).2
          refine xw_aload_n dX10_crosses_197 rfl ?_
          refine xw_getfield dX10_crosses_198 fl_X10_70 F38 rfl ?_
          refine xw_callS (rc := 0) (rs := 0) (mc2 := 0) (ms2 := 0) (As := [vR 56]) (st := []) dX10_crosses_201 ms_X10_250 rfl (by decide) (by decide) (Nat.le_of_ble_eq_true rfl) rfl (ct_axisOf F56 (bd_3 bsu (by decide)) (fun _ => ?_) (fun k => absurd zu k))
          refine xw_istore dX10_crosses_204 (by decide) ?_
          refine xw_aload_n dX10_crosses_206 rfl ?_
          refine xw_getfield dX10_crosses_207 fl_X10_73 F38 rfl ?_
          refine xw_callS (rc := 0) (rs := 0) (mc2 := 0) (ms2 := 0) (As := [vR 57]) (st := []) dX10_crosses_210 ms_X10_250 rfl (by decide) (by decide) (Nat.le_of_ble_eq_true rfl) rfl (ct_axisOf F57 (bd_3 bsv (by decide)) (fun _ => ?_) (fun k => absurd zv k))
          refine xw_istore dX10_crosses_213 (by decide) ?_
          refine xw_iload dX10_crosses_215 rfl ?_
          refine xw_iconst dX10_crosses_217 ?_
          refine xw_icmpne (tgt := 284) dX10_crosses_218 (by decide) (by first | assumption | (unfold inI; omega) | (unfold inI at *; omega)) (by first | assumption | (unfold inI; omega) | (unfold inI at *; omega)) (fun c_218 => ?_) (fun c_218 => ?_)
          · skip
            exfalso; omega
          · skip
            refine xw_iload dX10_crosses_221 rfl ?_
            refine xw_iconst dX10_crosses_223 ?_
            refine xw_icmpne (tgt := 284) dX10_crosses_224 (by decide) (by first | assumption | (unfold inI; omega) | (unfold inI at *; omega)) (by first | assumption | (unfold inI; omega) | (unfold inI at *; omega)) (fun c_224 => ?_) (fun c_224 => ?_)
            · skip
              exfalso; omega
            · skip
              refine xw_aload_n dX10_crosses_227 rfl ?_
              refine xw_getfield dX10_crosses_228 fl_X10_76 F38 rfl ?_
              refine xw_callS (rc := 0) (rs := 0) (mc2 := 0) (ms2 := 0) (As := [vR 58]) (st := []) dX10_crosses_231 ms_X10_250 rfl (by decide) (by decide) (Nat.le_of_ble_eq_true rfl) rfl (ct_axisOf F58 (bd_3 bsw (by decide)) (fun k => absurd k zw) (fun _ => ?_))
              refine xw_iconst dX10_crosses_234 ?_
              refine xw_icmpeq (tgt := 240) dX10_crosses_235 (by decide) (by first | assumption | (unfold inI; omega) | (unfold inI at *; omega)) (by first | assumption | (unfold inI; omega) | (unfold inI at *; omega)) (fun c_235 => ?_) (fun c_235 => ?_)
              · skip
                exfalso; omega
              · skip
                refine xw_iconst dX10_crosses_238 ?_
                exact xw_zret dX10_crosses_239 rfl rfl q9
      · obtain ⟨xv0, xv3⟩ := ax1_ne zv
        have eC : mCs d u v w = cite (z3 (cr (cr w d) (cr v d)) ∧ prtM (-cr w d (ax1 (cr v d))) (cr v d (ax1 (cr v d)))) (ups (fun a => [mC d u v w a 1 (-cr w d (ax1 (cr v d))) (cr v d (ax1 (cr v d)))]) 2 0) [] := by
          unfold mCs; rw [cite_f (fun k => k low), cite_t zu, cite_f zv]
        obtain ⟨ax, hax⟩ : ∃ ax, ax = ax1 (cr v d) := ⟨_, rfl⟩
        rw [← hax] at eC xv0 xv3
        have nv := nb_bd bsv xv3
        have nw := nb_bd bsw xv3
        have L : prtM (-cr w d ax) (cr v d ax) → mCs d u v w = ups (fun a => [mC d u v w a 1 (-cr w d ax) (cr v d ax)]) 2 0 → ∀ (j a : Nat) (s1 : ofS) (F1 : xH) (m3 : Nat → Int), a + j = 2 → cI m F s1 F1 m3 → (ups (fun a => [mC d u v w a 1 (-cr w d ax) (cr v d ax)]) j a).foldl mkpC s1 = SF → xw g M_X10_crosses Q 0 0 330 [(0, vR 38), (8, vI (ax : Int)), (9, vI (a : Int))] [] n F1 := by
          intro pr eC j
          have ne : mCs d u v w ≠ [] := by rw [eC]; intro k; cases k
          induction j with
          | zero =>
            intro a s1 F1 m3 ha hI1 hs2
            refine xw_iload dX10_crosses_330 rfl ?_
            refine xw_iconst dX10_crosses_332 ?_
            refine xw_icmpge (tgt := 365) dX10_crosses_333 (by decide) (by first | assumption | (unfold inI; omega) | (unfold inI at *; omega)) (by first | assumption | (unfold inI; omega) | (unfold inI at *; omega)) (fun c_333 => ?_) (fun c_333 => ?_)
            · skip
              refine xw_iconst dX10_crosses_365 ?_
              exact xw_zret dX10_crosses_366 rfl rfl (FY F1 m3 (by rw [← hs2]; exact hI1) ne)
            · skip
              exfalso; omega
          | succ j ih =>
            intro a s1 F1 m3 ha hI1 hs2
            have e38 : F1 38 = some (oMd m3) := hI1.2.2.2.2.1
            have e57 : F1 57 = _ := fr_at hI1.2.2.2.2.2.2 F57 (by decide)
            have e58 : F1 58 = _ := fr_at hI1.2.2.2.2.2.2 F58 (by decide)
            refine xw_iload dX10_crosses_330 rfl ?_
            refine xw_iconst dX10_crosses_332 ?_
            refine xw_icmpge (tgt := 365) dX10_crosses_333 (by decide) (by first | assumption | (unfold inI; omega) | (unfold inI at *; omega)) (by first | assumption | (unfold inI; omega) | (unfold inI at *; omega)) (fun c_333 => ?_) (fun c_333 => ?_)
            · skip
              exfalso; omega
            · skip
              refine xw_aload_n dX10_crosses_336 rfl ?_
              refine xw_iload dX10_crosses_337 rfl ?_
              refine xw_i2l dX10_crosses_339 (by first | assumption | (unfold inI; omega) | (unfold inI at *; omega)) ?_
              refine xw_lconst (z := 1) dX10_crosses_340 (by decide) ?_
              refine xw_aload_n dX10_crosses_341 rfl ?_
              refine xw_getfield dX10_crosses_342 fl_X10_76 e38 rfl ?_
              refine xw_iload dX10_crosses_345 rfl ?_
              refine xw_lald dX10_crosses_347 e58 (j := ax) rfl xv3 (by decide) ?_
              refine xw_lneg dX10_crosses_348 ?_
              refine xw_aload_n dX10_crosses_349 rfl ?_
              refine xw_getfield dX10_crosses_350 fl_X10_73 e38 rfl ?_
              refine xw_iload dX10_crosses_353 rfl ?_
              refine xw_lald dX10_crosses_355 e57 (j := ax) rfl xv3 (by decide) ?_
              refine xw_callV (rc := 0) (rs := 0) (mc2 := 0) (ms2 := 0) (a := 38) (As := [vL (a : Int), vL 1, vL (-cr w d ax), vL (cr v d ax)]) (st := []) dX10_crosses_356 mv_X10_254 e38 rfl rfl (by decide) (by decide) (Nat.le_of_ble_eq_true rfl) rfl (ct_meet hI1 F48 F49 F50 F51 bu bv bw hd hz (by decide) xv0 (nb_nat (by omega)) nb_1 (nb_neg nw) nv (Or.inl ⟨rfl, nb_nat (by omega)⟩) (fun F2 m4 hI2 => ?_))
              refine xw_iinc dX10_crosses_359 rfl (by decide) ?_
              refine xw_goto (tgt := 330) dX10_crosses_362 (by decide) ?_
              exact xw_ls [(0, vR 38), (8, vI (ax : Int)), (9, vI ((a + 1 : Nat) : Int))] ⟨rfl, rfl, rfl, trivial⟩ (ih (a + 1) _ F2 m4 (by omega) hI2 (by rw [← hs2]; rfl))
        refine xw_aload_n dX10_crosses_197 rfl ?_
        refine xw_getfield dX10_crosses_198 fl_X10_70 F38 rfl ?_
        refine xw_callS (rc := 0) (rs := 0) (mc2 := 0) (ms2 := 0) (As := [vR 56]) (st := []) dX10_crosses_201 ms_X10_250 rfl (by decide) (by decide) (Nat.le_of_ble_eq_true rfl) rfl (ct_axisOf F56 (bd_3 bsu (by decide)) (fun _ => ?_) (fun k => absurd zu k))
        refine xw_istore dX10_crosses_204 (by decide) ?_
        refine xw_aload_n dX10_crosses_206 rfl ?_
        refine xw_getfield dX10_crosses_207 fl_X10_73 F38 rfl ?_
        refine xw_callS (rc := 0) (rs := 0) (mc2 := 0) (ms2 := 0) (As := [vR 57]) (st := []) dX10_crosses_210 ms_X10_250 rfl (by decide) (by decide) (Nat.le_of_ble_eq_true rfl) rfl (ct_axisOf F57 (bd_3 bsv (by decide)) (fun k => absurd k zv) (fun _ => ?_))
        rw [← hax]
        refine xw_istore dX10_crosses_213 (by decide) ?_
        refine xw_iload dX10_crosses_215 rfl ?_
        refine xw_iconst dX10_crosses_217 ?_
        refine xw_icmpne (tgt := 284) dX10_crosses_218 (by decide) (by first | assumption | (unfold inI; omega) | (unfold inI at *; omega)) (by first | assumption | (unfold inI; omega) | (unfold inI at *; omega)) (fun c_218 => ?_) (fun c_218 => ?_)
        · skip
          exfalso; omega
        · skip
          refine xw_iload dX10_crosses_221 rfl ?_
          refine xw_iconst dX10_crosses_223 ?_
          refine xw_icmpne (tgt := 284) dX10_crosses_224 (by decide) (by first | assumption | (unfold inI; omega) | (unfold inI at *; omega)) (by first | assumption | (unfold inI; omega) | (unfold inI at *; omega)) (fun c_224 => ?_) (fun c_224 => ?_)
          · skip
            refine xw_iload dX10_crosses_284 rfl ?_
            refine xw_iconst dX10_crosses_286 ?_
            refine xw_icmpne (tgt := 367) dX10_crosses_287 (by decide) (by first | assumption | (unfold inI; omega) | (unfold inI at *; omega)) (by first | assumption | (unfold inI; omega) | (unfold inI at *; omega)) (fun c_287 => ?_) (fun c_287 => ?_)
            · skip
              exfalso; omega
            · skip
              refine xw_aload_n dX10_crosses_290 rfl ?_
              refine xw_getfield dX10_crosses_291 fl_X10_76 F38 rfl ?_
              refine xw_aload_n dX10_crosses_294 rfl ?_
              refine xw_getfield dX10_crosses_295 fl_X10_73 F38 rfl ?_
              refine xw_callS (rc := 0) (rs := 0) (mc2 := 0) (ms2 := 0) (As := [vR 58, vR 57]) (st := []) dX10_crosses_298 ms_X10_165 rfl (by decide) (by decide) (Nat.le_of_ble_eq_true rfl) rfl (ct_isAlong F58 F57 (bd_3 (bd_cr bsw bsv (C := 320000000000) (by decide)) (by decide)) (fun q1 => ?_) (fun q1 => ?_))
              · skip
                refine xw_ifeq (tgt := 325) dX10_crosses_301 (by decide) (by unfold inI; omega) (fun c => absurd c (by decide)) (fun _ => ?_)
                refine xw_aload_n dX10_crosses_304 rfl ?_
                refine xw_getfield dX10_crosses_305 fl_X10_76 F38 rfl ?_
                refine xw_iload dX10_crosses_308 rfl ?_
                refine xw_lald dX10_crosses_310 F58 (j := ax) rfl xv3 (by decide) ?_
                refine xw_lneg dX10_crosses_311 ?_
                refine xw_aload_n dX10_crosses_312 rfl ?_
                refine xw_getfield dX10_crosses_313 fl_X10_73 F38 rfl ?_
                refine xw_iload dX10_crosses_316 rfl ?_
                refine xw_lald dX10_crosses_318 F57 (j := ax) rfl xv3 (by decide) ?_
                refine xw_callS (rc := 0) (rs := 0) (mc2 := 0) (ms2 := 0) (As := [vL (-cr w d ax), vL (cr v d ax)]) (st := []) dX10_crosses_319 ms_X10_177 rfl (by decide) (by decide) (Nat.le_of_ble_eq_true rfl) rfl (ct_mPart (nb_L (nb_neg nw) (by decide)) (nb_L nv (by decide)) (fun q2 => ?_) (fun q2 => ?_))
                · skip
                  refine xw_ifne (tgt := 327) dX10_crosses_322 (by decide) (by unfold inI; omega) (fun _ => ?_) (fun c => absurd c (by decide))
                  refine xw_iconst dX10_crosses_327 ?_
                  refine xw_istore dX10_crosses_328 (by decide) ?_
                  exact xw_ls [(0, vR 38), (8, vI (ax : Int)), (9, vI ((0 : Nat) : Int))] ⟨rfl, rfl, rfl, trivial⟩ (L q2 (by rw [eC, cite_t ⟨q1, q2⟩]) 2 0 s0 F m2 (by omega) hI (by rw [hSF, eC, cite_t ⟨q1, q2⟩]))
                · skip
                  refine xw_ifne (tgt := 327) dX10_crosses_322 (by decide) (by unfold inI; omega) (fun c => absurd c (by decide)) (fun _ => ?_)
                  refine xw_iconst dX10_crosses_325 ?_
                  exact xw_zret dX10_crosses_326 rfl rfl (FN (by rw [eC]; first | exact cite_f (fun k => q1 k.1) | exact cite_f (fun k => q2 k.2)))
              · skip
                refine xw_ifeq (tgt := 325) dX10_crosses_301 (by decide) (by unfold inI; omega) (fun _ => ?_) (fun c => absurd c (by decide))
                refine xw_iconst dX10_crosses_325 ?_
                exact xw_zret dX10_crosses_326 rfl rfl (FN (by rw [eC]; first | exact cite_f (fun k => q1 k.1) | exact cite_f (fun k => q2 k.2)))
          · skip
            exfalso; omega
    · obtain ⟨xu0, xu3⟩ := ax1_ne zu
      have eC : mCs d u v w = cite (z3 (cr (cr w d) (cr u d))) (cite (z3 (cr v d)) (cite (prtM (cr w d (ax1 (cr u d))) (cr u d (ax1 (cr u d)))) (ups (fun b => [mC d u v w (cr w d (ax1 (cr u d))) (cr u d (ax1 (cr u d))) b 1]) 2 0) [])
        (ups (fun a => cite (prtM (a * cr u d (ax1 (cr u d)) - cr w d (ax1 (cr u d))) (cr v d (ax1 (cr u d)))) [mC d u v w a 1 (a * cr u d (ax1 (cr u d)) - cr w d (ax1 (cr u d))) (cr v d (ax1 (cr u d)))] []) 2 0 ++
         ups (fun b => cite (prtM (cr w d (ax1 (cr u d)) + b * cr v d (ax1 (cr u d))) (cr u d (ax1 (cr u d)))) [mC d u v w (cr w d (ax1 (cr u d)) + b * cr v d (ax1 (cr u d))) (cr u d (ax1 (cr u d))) b 1] []) 2 0)) [] := by
        unfold mCs; rw [cite_f (fun k => k low), cite_f zu]
      have yne : ¬ z3 (cr v d) → cr v d (ax1 (cr u d)) ≠ 0 := fun k => par_ne xu3 (crcr_z low) xu0 k
      obtain ⟨ax, hax⟩ : ∃ ax, ax = ax1 (cr u d) := ⟨_, rfl⟩
      rw [← hax] at eC xu0 xu3 yne
      have nu := nb_bd bsu xu3
      have nv := nb_bd bsv xu3
      have nw := nb_bd bsw xu3
      by_cases al : z3 (cr (cr w d) (cr u d))
      · rw [cite_t al] at eC
        by_cases zv : z3 (cr v d)
        · rw [cite_t zv] at eC
          have L : prtM (cr w d ax) (cr u d ax) → mCs d u v w = ups (fun b => [mC d u v w (cr w d ax) (cr u d ax) b 1]) 2 0 → ∀ (j a : Nat) (s1 : ofS) (F1 : xH) (m3 : Nat → Int), a + j = 2 → cI m F s1 F1 m3 → (ups (fun b => [mC d u v w (cr w d ax) (cr u d ax) b 1]) j a).foldl mkpC s1 = SF → xw g M_X10_crosses Q 0 0 414 [(0, vR 38), (7, vI (ax : Int)), (9, vI (a : Int))] [] n F1 := by
            intro pr eC j
            have ne : mCs d u v w ≠ [] := by rw [eC]; intro k; cases k
            induction j with
            | zero =>
              intro a s1 F1 m3 ha hI1 hs2
              refine xw_iload dX10_crosses_414 rfl ?_
              refine xw_iconst dX10_crosses_416 ?_
              refine xw_icmpge (tgt := 448) dX10_crosses_417 (by decide) (by first | assumption | (unfold inI; omega) | (unfold inI at *; omega)) (by first | assumption | (unfold inI; omega) | (unfold inI at *; omega)) (fun c_417 => ?_) (fun c_417 => ?_)
              · skip
                refine xw_iconst dX10_crosses_448 ?_
                exact xw_zret dX10_crosses_449 rfl rfl (FY F1 m3 (by rw [← hs2]; exact hI1) ne)
              · skip
                exfalso; omega
            | succ j ih =>
              intro a s1 F1 m3 ha hI1 hs2
              have e38 : F1 38 = some (oMd m3) := hI1.2.2.2.2.1
              have e56 : F1 56 = _ := fr_at hI1.2.2.2.2.2.2 F56 (by decide)
              have e58 : F1 58 = _ := fr_at hI1.2.2.2.2.2.2 F58 (by decide)
              refine xw_iload dX10_crosses_414 rfl ?_
              refine xw_iconst dX10_crosses_416 ?_
              refine xw_icmpge (tgt := 448) dX10_crosses_417 (by decide) (by first | assumption | (unfold inI; omega) | (unfold inI at *; omega)) (by first | assumption | (unfold inI; omega) | (unfold inI at *; omega)) (fun c_417 => ?_) (fun c_417 => ?_)
              · skip
                exfalso; omega
              · skip
                refine xw_aload_n dX10_crosses_420 rfl ?_
                refine xw_aload_n dX10_crosses_421 rfl ?_
                refine xw_getfield dX10_crosses_422 fl_X10_76 e38 rfl ?_
                refine xw_iload dX10_crosses_425 rfl ?_
                refine xw_lald dX10_crosses_427 e58 (j := ax) rfl xu3 (by decide) ?_
                refine xw_aload_n dX10_crosses_428 rfl ?_
                refine xw_getfield dX10_crosses_429 fl_X10_70 e38 rfl ?_
                refine xw_iload dX10_crosses_432 rfl ?_
                refine xw_lald dX10_crosses_434 e56 (j := ax) rfl xu3 (by decide) ?_
                refine xw_iload dX10_crosses_435 rfl ?_
                refine xw_i2l dX10_crosses_437 (by first | assumption | (unfold inI; omega) | (unfold inI at *; omega)) ?_
                refine xw_lconst (z := 1) dX10_crosses_438 (by decide) ?_
                refine xw_callV (rc := 0) (rs := 0) (mc2 := 0) (ms2 := 0) (a := 38) (As := [vL (cr w d ax), vL (cr u d ax), vL (a : Int), vL 1]) (st := []) dX10_crosses_439 mv_X10_254 e38 rfl rfl (by decide) (by decide) (Nat.le_of_ble_eq_true rfl) rfl (ct_meet hI1 F48 F49 F50 F51 bu bv bw hd hz xu0 (by decide) nw nu (nb_nat (by omega)) nb_1 (Or.inr ⟨rfl, nb_nat (by omega)⟩) (fun F2 m4 hI2 => ?_))
                refine xw_iinc dX10_crosses_442 rfl (by decide) ?_
                refine xw_goto (tgt := 414) dX10_crosses_445 (by decide) ?_
                exact xw_ls [(0, vR 38), (7, vI (ax : Int)), (9, vI ((a + 1 : Nat) : Int))] ⟨rfl, rfl, rfl, trivial⟩ (ih (a + 1) _ F2 m4 (by omega) hI2 (by rw [← hs2]; rfl))
          refine xw_aload_n dX10_crosses_197 rfl ?_
          refine xw_getfield dX10_crosses_198 fl_X10_70 F38 rfl ?_
          refine xw_callS (rc := 0) (rs := 0) (mc2 := 0) (ms2 := 0) (As := [vR 56]) (st := []) dX10_crosses_201 ms_X10_250 rfl (by decide) (by decide) (Nat.le_of_ble_eq_true rfl) rfl (ct_axisOf F56 (bd_3 bsu (by decide)) (fun k => absurd k zu) (fun _ => ?_))
          rw [← hax]
          refine xw_istore dX10_crosses_204 (by decide) ?_
          refine xw_aload_n dX10_crosses_206 rfl ?_
          refine xw_getfield dX10_crosses_207 fl_X10_73 F38 rfl ?_
          refine xw_callS (rc := 0) (rs := 0) (mc2 := 0) (ms2 := 0) (As := [vR 57]) (st := []) dX10_crosses_210 ms_X10_250 rfl (by decide) (by decide) (Nat.le_of_ble_eq_true rfl) rfl (ct_axisOf F57 (bd_3 bsv (by decide)) (fun _ => ?_) (fun k => absurd zv k))
          refine xw_istore dX10_crosses_213 (by decide) ?_
          refine xw_iload dX10_crosses_215 rfl ?_
          refine xw_iconst dX10_crosses_217 ?_
          refine xw_icmpne (tgt := 284) dX10_crosses_218 (by decide) (by first | assumption | (unfold inI; omega) | (unfold inI at *; omega)) (by first | assumption | (unfold inI; omega) | (unfold inI at *; omega)) (fun c_218 => ?_) (fun c_218 => ?_)
          · skip
            refine xw_iload dX10_crosses_284 rfl ?_
            refine xw_iconst dX10_crosses_286 ?_
            refine xw_icmpne (tgt := 367) dX10_crosses_287 (by decide) (by first | assumption | (unfold inI; omega) | (unfold inI at *; omega)) (by first | assumption | (unfold inI; omega) | (unfold inI at *; omega)) (fun c_287 => ?_) (fun c_287 => ?_)
            · skip
              refine xw_aload_n dX10_crosses_367 rfl ?_
              refine xw_getfield dX10_crosses_368 fl_X10_76 F38 rfl ?_
              refine xw_aload_n dX10_crosses_371 rfl ?_
              refine xw_getfield dX10_crosses_372 fl_X10_70 F38 rfl ?_
              refine xw_callS (rc := 0) (rs := 0) (mc2 := 0) (ms2 := 0) (As := [vR 58, vR 56]) (st := []) dX10_crosses_375 ms_X10_165 rfl (by decide) (by decide) (Nat.le_of_ble_eq_true rfl) rfl (ct_isAlong F58 F56 (bd_3 (bd_cr bsw bsu (C := 320000000000) (by decide)) (by decide)) (fun q1 => ?_) (fun q1 => absurd al q1))
              refine xw_ifne (tgt := 383) dX10_crosses_378 (by decide) (by unfold inI; omega) (fun _ => ?_) (fun c => absurd c (by decide))
              refine xw_iload dX10_crosses_383 rfl ?_
              refine xw_iconst dX10_crosses_385 ?_
              refine xw_icmpne (tgt := 450) dX10_crosses_386 (by decide) (by first | assumption | (unfold inI; omega) | (unfold inI at *; omega)) (by first | assumption | (unfold inI; omega) | (unfold inI at *; omega)) (fun c_386 => ?_) (fun c_386 => ?_)
              · skip
                exfalso; omega
              · skip
                refine xw_aload_n dX10_crosses_389 rfl ?_
                refine xw_getfield dX10_crosses_390 fl_X10_76 F38 rfl ?_
                refine xw_iload dX10_crosses_393 rfl ?_
                refine xw_lald dX10_crosses_395 F58 (j := ax) rfl xu3 (by decide) ?_
                refine xw_aload_n dX10_crosses_396 rfl ?_
                refine xw_getfield dX10_crosses_397 fl_X10_70 F38 rfl ?_
                refine xw_iload dX10_crosses_400 rfl ?_
                refine xw_lald dX10_crosses_402 F56 (j := ax) rfl xu3 (by decide) ?_
                refine xw_callS (rc := 0) (rs := 0) (mc2 := 0) (ms2 := 0) (As := [vL (cr w d ax), vL (cr u d ax)]) (st := []) dX10_crosses_403 ms_X10_177 rfl (by decide) (by decide) (Nat.le_of_ble_eq_true rfl) rfl (ct_mPart (nb_L nw (by decide)) (nb_L nu (by decide)) (fun q2 => ?_) (fun q2 => ?_))
                · skip
                  refine xw_ifne (tgt := 411) dX10_crosses_406 (by decide) (by unfold inI; omega) (fun _ => ?_) (fun c => absurd c (by decide))
                  refine xw_iconst dX10_crosses_411 ?_
                  refine xw_istore dX10_crosses_412 (by decide) ?_
                  exact xw_ls [(0, vR 38), (7, vI (ax : Int)), (9, vI ((0 : Nat) : Int))] ⟨rfl, rfl, rfl, trivial⟩ (L q2 (by rw [eC, cite_t q2]) 2 0 s0 F m2 (by omega) hI (by rw [hSF, eC, cite_t q2]))
                · skip
                  refine xw_ifne (tgt := 411) dX10_crosses_406 (by decide) (by unfold inI; omega) (fun c => absurd c (by decide)) (fun _ => ?_)
                  refine xw_iconst dX10_crosses_409 ?_
                  exact xw_zret dX10_crosses_410 rfl rfl (FN (by rw [eC]; exact cite_f q2))
            · skip
              exfalso; omega
          · skip
            exfalso; omega
        · rw [cite_f zv] at eC
          have y0 := yne zv
          obtain ⟨L1, hL1⟩ : ∃ L1 : Nat → List cnd, L1 = (fun a : Nat => cite (prtM (a * cr u d ax - cr w d ax) (cr v d ax)) [mC d u v w a 1 (a * cr u d ax - cr w d ax) (cr v d ax)] []) := ⟨_, rfl⟩
          obtain ⟨L2, hL2⟩ : ∃ L2 : Nat → List cnd, L2 = (fun b : Nat => cite (prtM (cr w d ax + b * cr v d ax) (cr u d ax)) [mC d u v w (cr w d ax + b * cr v d ax) (cr u d ax) b 1] []) := ⟨_, rfl⟩
          have hl1 : ∀ a, L1 a = cite (prtM (a * cr u d ax - cr w d ax) (cr v d ax)) [mC d u v w a 1 (a * cr u d ax - cr w d ax) (cr v d ax)] [] := fun a => by rw [hL1]
          have hl2 : ∀ b, L2 b = cite (prtM (cr w d ax + b * cr v d ax) (cr u d ax)) [mC d u v w (cr w d ax + b * cr v d ax) (cr u d ax) b 1] [] := fun b => by rw [hL2]
          have xv3 := (ax1_ne zv).2
          rw [← hL1, ← hL2] at eC
          have XB : ∀ (j a : Nat) (s1 : ofS) (F1 : xH) (m3 : Nat → Int), a + j = 2 → cI m F s1 F1 m3 → (ups L2 j a).foldl mkpC s1 = SF → xw g M_X10_crosses Q 0 0 531 [(0, vR 38), (9, vL (cr u d ax)), (11, vL (cr v d ax)), (13, vL (cr w d ax)), (15, vI (a : Int))] [] n F1 := by
            intro j
            induction j with
            | zero =>
              intro a s1 F1 m3 ha hI1 hs2
              have e38 : F1 38 = some (oMd m3) := hI1.2.2.2.2.1
              have e1 : s1 = SF := hs2
              subst e1
              have e9 : m3 29 = 1 - s1.1 := hI1.1.1
              have e8 : s1.1 = if mCs d u v w = [] then 0 else 1 := by rw [hSF, mkpC_1, hs0]
              have i29 : inI (m3 29) := by rw [e9, e8]; unfold inI; split <;> omega
              refine xw_iload dX10_crosses_531 rfl ?_
              refine xw_iconst dX10_crosses_533 ?_
              refine xw_icmpge (tgt := 579) dX10_crosses_534 (by decide) (by first | assumption | (unfold inI; omega) | (unfold inI at *; omega)) (by first | assumption | (unfold inI; omega) | (unfold inI at *; omega)) (fun c_534 => ?_) (fun c_534 => ?_)
              · skip
                refine xw_aload_n dX10_crosses_579 rfl ?_
                refine xw_getfield dX10_crosses_580 fl_X10_229 e38 rfl ?_
                refine xw_ifne (tgt := 590) dX10_crosses_583 (by decide) (by exact i29) (fun c_583 => ?_) (fun c_583 => ?_)
                · skip
                  refine xw_iconst dX10_crosses_590 ?_
                  exact xw_zret dX10_crosses_591 rfl rfl (by first
                    | exact h0 F1 m3 (by refine Classical.byContradiction (fun k => ?_); rw [if_neg k] at e8; exact c_583 (by show m3 29 = 0; omega)) (toF _ _ _ hI1)
                    | exact FY F1 m3 hI1 (fun k => by rw [if_pos k] at e8; have : m3 29 = 0 := (by first | exact c_583 | exact Classical.byContradiction c_583); omega))
                · skip
                  refine xw_iconst dX10_crosses_586 ?_
                  refine xw_goto (tgt := 591) dX10_crosses_587 (by decide) ?_
                  exact xw_zret dX10_crosses_591 rfl rfl (by first
                    | exact h0 F1 m3 (by refine Classical.byContradiction (fun k => ?_); rw [if_neg k] at e8; exact c_583 (by show m3 29 = 0; omega)) (toF _ _ _ hI1)
                    | exact FY F1 m3 hI1 (fun k => by rw [if_pos k] at e8; have : m3 29 = 0 := (by first | exact c_583 | exact Classical.byContradiction c_583); omega))
              · skip
                exfalso; omega
            | succ j ih =>
              intro a s1 F1 m3 ha hI1 hs2
              have e38 : F1 38 = some (oMd m3) := hI1.2.2.2.2.1
              have na : nb (cr w d ax + (a : Int) * cr v d ax) 800000 := nb_le (nb_add nw (nb_mul (nb_nat (A := 1) (by omega)) nv)) (by decide)
              refine xw_iload dX10_crosses_531 rfl ?_
              refine xw_iconst dX10_crosses_533 ?_
              refine xw_icmpge (tgt := 579) dX10_crosses_534 (by decide) (by first | assumption | (unfold inI; omega) | (unfold inI at *; omega)) (by first | assumption | (unfold inI; omega) | (unfold inI at *; omega)) (fun c_534 => ?_) (fun c_534 => ?_)
              · skip
                exfalso; omega
              · skip
                refine xw_lload dX10_crosses_537 rfl ?_
                refine xw_iload dX10_crosses_539 rfl ?_
                refine xw_i2l dX10_crosses_541 (by first | assumption | (unfold inI; omega) | (unfold inI at *; omega)) ?_
                refine xw_lload dX10_crosses_542 rfl ?_
                refine xw_lmul dX10_crosses_544 ?_
                refine xw_ladd dX10_crosses_545 ?_
                refine xw_lload dX10_crosses_546 rfl ?_
                refine xw_callS (rc := 0) (rs := 0) (mc2 := 0) (ms2 := 0) (As := [vL (cr w d ax + (a : Int) * cr v d ax), vL (cr u d ax)]) (st := []) dX10_crosses_548 ms_X10_177 rfl (by decide) (by decide) (Nat.le_of_ble_eq_true rfl) rfl (ct_mPart (nb_L na (by decide)) (nb_L nu (by decide)) (fun q2 => ?_) (fun q2 => ?_))
                · skip
                  refine xw_ifeq (tgt := 573) dX10_crosses_551 (by decide) (by unfold inI; omega) (fun c => absurd c (by decide)) (fun _ => ?_)
                  refine xw_aload_n dX10_crosses_554 rfl ?_
                  refine xw_lload dX10_crosses_555 rfl ?_
                  refine xw_iload dX10_crosses_557 rfl ?_
                  refine xw_i2l dX10_crosses_559 (by first | assumption | (unfold inI; omega) | (unfold inI at *; omega)) ?_
                  refine xw_lload dX10_crosses_560 rfl ?_
                  refine xw_lmul dX10_crosses_562 ?_
                  refine xw_ladd dX10_crosses_563 ?_
                  refine xw_lload dX10_crosses_564 rfl ?_
                  refine xw_iload dX10_crosses_566 rfl ?_
                  refine xw_i2l dX10_crosses_568 (by first | assumption | (unfold inI; omega) | (unfold inI at *; omega)) ?_
                  refine xw_lconst (z := 1) dX10_crosses_569 (by decide) ?_
                  refine xw_callV (rc := 0) (rs := 0) (mc2 := 0) (ms2 := 0) (a := 38) (As := [vL (cr w d ax + (a : Int) * cr v d ax), vL (cr u d ax), vL (a : Int), vL 1]) (st := []) dX10_crosses_570 mv_X10_254 e38 rfl rfl (by decide) (by decide) (Nat.le_of_ble_eq_true rfl) rfl (ct_meet hI1 F48 F49 F50 F51 bu bv bw hd hz xu0 (by decide) (prtM_n q2 nu) nu (nb_nat (by omega)) nb_1 (Or.inr ⟨rfl, nb_nat (by omega)⟩) (fun F2 m4 hI2 => ?_))
                  refine xw_iinc dX10_crosses_573 rfl (by decide) ?_
                  refine xw_goto (tgt := 531) dX10_crosses_576 (by decide) ?_
                  first
                    | exact xw_ls [(0, vR 38), (9, vL (cr u d ax)), (11, vL (cr v d ax)), (13, vL (cr w d ax)), (15, vI ((a + 1 : Nat) : Int))] ⟨rfl, rfl, rfl, rfl, rfl, trivial⟩ (ih (a + 1) _ F2 m4 (by omega) hI2 (by rw [← hs2]; show _ = List.foldl mkpC s1 (L2 a ++ _); rw [hl2 a, cite_t q2]; rfl))
                    | exact xw_ls [(0, vR 38), (9, vL (cr u d ax)), (11, vL (cr v d ax)), (13, vL (cr w d ax)), (15, vI ((a + 1 : Nat) : Int))] ⟨rfl, rfl, rfl, rfl, rfl, trivial⟩ (ih (a + 1) _ F1 m3 (by omega) hI1 (by rw [← hs2]; show _ = List.foldl mkpC s1 (L2 a ++ _); rw [hl2 a, cite_f q2]; rfl))
                · skip
                  refine xw_ifeq (tgt := 573) dX10_crosses_551 (by decide) (by unfold inI; omega) (fun _ => ?_) (fun c => absurd c (by decide))
                  refine xw_iinc dX10_crosses_573 rfl (by decide) ?_
                  refine xw_goto (tgt := 531) dX10_crosses_576 (by decide) ?_
                  first
                    | exact xw_ls [(0, vR 38), (9, vL (cr u d ax)), (11, vL (cr v d ax)), (13, vL (cr w d ax)), (15, vI ((a + 1 : Nat) : Int))] ⟨rfl, rfl, rfl, rfl, rfl, trivial⟩ (ih (a + 1) _ F2 m4 (by omega) hI2 (by rw [← hs2]; show _ = List.foldl mkpC s1 (L2 a ++ _); rw [hl2 a, cite_t q2]; rfl))
                    | exact xw_ls [(0, vR 38), (9, vL (cr u d ax)), (11, vL (cr v d ax)), (13, vL (cr w d ax)), (15, vI ((a + 1 : Nat) : Int))] ⟨rfl, rfl, rfl, rfl, rfl, trivial⟩ (ih (a + 1) _ F1 m3 (by omega) hI1 (by rw [← hs2]; show _ = List.foldl mkpC s1 (L2 a ++ _); rw [hl2 a, cite_f q2]; rfl))
          have XA : ∀ (j a : Nat) (s1 : ofS) (F1 : xH) (m3 : Nat → Int), a + j = 2 → cI m F s1 F1 m3 → (ups L1 j a ++ ups L2 2 0).foldl mkpC s1 = SF → xw g M_X10_crosses Q 0 0 480 [(0, vR 38), (9, vL (cr u d ax)), (11, vL (cr v d ax)), (13, vL (cr w d ax)), (15, vI (a : Int))] [] n F1 := by
            intro j
            induction j with
            | zero =>
              intro a s1 F1 m3 ha hI1 hs2
              refine xw_iload dX10_crosses_480 rfl ?_
              refine xw_iconst dX10_crosses_482 ?_
              refine xw_icmpge (tgt := 528) dX10_crosses_483 (by decide) (by first | assumption | (unfold inI; omega) | (unfold inI at *; omega)) (by first | assumption | (unfold inI; omega) | (unfold inI at *; omega)) (fun c_483 => ?_) (fun c_483 => ?_)
              · skip
                refine xw_iconst dX10_crosses_528 ?_
                refine xw_istore dX10_crosses_529 (by decide) ?_
                exact xw_ls [(0, vR 38), (9, vL (cr u d ax)), (11, vL (cr v d ax)), (13, vL (cr w d ax)), (15, vI ((0 : Nat) : Int))] ⟨rfl, rfl, rfl, rfl, rfl, trivial⟩ (XB 2 0 s1 F1 m3 (by omega) hI1 hs2)
              · skip
                exfalso; omega
            | succ j ih =>
              intro a s1 F1 m3 ha hI1 hs2
              have e38 : F1 38 = some (oMd m3) := hI1.2.2.2.2.1
              have na : nb ((a : Int) * cr u d ax - cr w d ax) 800000 := nb_le (nb_sub (nb_mul (nb_nat (A := 1) (by omega)) nu) nw) (by decide)
              refine xw_iload dX10_crosses_480 rfl ?_
              refine xw_iconst dX10_crosses_482 ?_
              refine xw_icmpge (tgt := 528) dX10_crosses_483 (by decide) (by first | assumption | (unfold inI; omega) | (unfold inI at *; omega)) (by first | assumption | (unfold inI; omega) | (unfold inI at *; omega)) (fun c_483 => ?_) (fun c_483 => ?_)
              · skip
                exfalso; omega
              · skip
                refine xw_iload dX10_crosses_486 rfl ?_
                refine xw_i2l dX10_crosses_488 (by first | assumption | (unfold inI; omega) | (unfold inI at *; omega)) ?_
                refine xw_lload dX10_crosses_489 rfl ?_
                refine xw_lmul dX10_crosses_491 ?_
                refine xw_lload dX10_crosses_492 rfl ?_
                refine xw_lsub dX10_crosses_494 ?_
                refine xw_lload dX10_crosses_495 rfl ?_
                refine xw_callS (rc := 0) (rs := 0) (mc2 := 0) (ms2 := 0) (As := [vL ((a : Int) * cr u d ax - cr w d ax), vL (cr v d ax)]) (st := []) dX10_crosses_497 ms_X10_177 rfl (by decide) (by decide) (Nat.le_of_ble_eq_true rfl) rfl (ct_mPart (nb_L na (by decide)) (nb_L nv (by decide)) (fun q2 => ?_) (fun q2 => ?_))
                · skip
                  refine xw_ifeq (tgt := 522) dX10_crosses_500 (by decide) (by unfold inI; omega) (fun c => absurd c (by decide)) (fun _ => ?_)
                  refine xw_aload_n dX10_crosses_503 rfl ?_
                  refine xw_iload dX10_crosses_504 rfl ?_
                  refine xw_i2l dX10_crosses_506 (by first | assumption | (unfold inI; omega) | (unfold inI at *; omega)) ?_
                  refine xw_lconst (z := 1) dX10_crosses_507 (by decide) ?_
                  refine xw_iload dX10_crosses_508 rfl ?_
                  refine xw_i2l dX10_crosses_510 (by first | assumption | (unfold inI; omega) | (unfold inI at *; omega)) ?_
                  refine xw_lload dX10_crosses_511 rfl ?_
                  refine xw_lmul dX10_crosses_513 ?_
                  refine xw_lload dX10_crosses_514 rfl ?_
                  refine xw_lsub dX10_crosses_516 ?_
                  refine xw_lload dX10_crosses_517 rfl ?_
                  refine xw_callV (rc := 0) (rs := 0) (mc2 := 0) (ms2 := 0) (a := 38) (As := [vL (a : Int), vL 1, vL ((a : Int) * cr u d ax - cr w d ax), vL (cr v d ax)]) (st := []) dX10_crosses_519 mv_X10_254 e38 rfl rfl (by decide) (by decide) (Nat.le_of_ble_eq_true rfl) rfl (ct_meet hI1 F48 F49 F50 F51 bu bv bw hd hz (by decide) y0 (nb_nat (by omega)) nb_1 (prtM_n q2 nv) nv (Or.inl ⟨rfl, nb_nat (by omega)⟩) (fun F2 m4 hI2 => ?_))
                  refine xw_iinc dX10_crosses_522 rfl (by decide) ?_
                  refine xw_goto (tgt := 480) dX10_crosses_525 (by decide) ?_
                  first
                    | exact xw_ls [(0, vR 38), (9, vL (cr u d ax)), (11, vL (cr v d ax)), (13, vL (cr w d ax)), (15, vI ((a + 1 : Nat) : Int))] ⟨rfl, rfl, rfl, rfl, rfl, trivial⟩ (ih (a + 1) _ F2 m4 (by omega) hI2 (by rw [← hs2]; show _ = List.foldl mkpC s1 ((L1 a ++ _) ++ _); rw [hl1 a, cite_t q2]; rfl))
                    | exact xw_ls [(0, vR 38), (9, vL (cr u d ax)), (11, vL (cr v d ax)), (13, vL (cr w d ax)), (15, vI ((a + 1 : Nat) : Int))] ⟨rfl, rfl, rfl, rfl, rfl, trivial⟩ (ih (a + 1) _ F1 m3 (by omega) hI1 (by rw [← hs2]; show _ = List.foldl mkpC s1 ((L1 a ++ _) ++ _); rw [hl1 a, cite_f q2]; rfl))
                · skip
                  refine xw_ifeq (tgt := 522) dX10_crosses_500 (by decide) (by unfold inI; omega) (fun _ => ?_) (fun c => absurd c (by decide))
                  refine xw_iinc dX10_crosses_522 rfl (by decide) ?_
                  refine xw_goto (tgt := 480) dX10_crosses_525 (by decide) ?_
                  first
                    | exact xw_ls [(0, vR 38), (9, vL (cr u d ax)), (11, vL (cr v d ax)), (13, vL (cr w d ax)), (15, vI ((a + 1 : Nat) : Int))] ⟨rfl, rfl, rfl, rfl, rfl, trivial⟩ (ih (a + 1) _ F2 m4 (by omega) hI2 (by rw [← hs2]; show _ = List.foldl mkpC s1 ((L1 a ++ _) ++ _); rw [hl1 a, cite_t q2]; rfl))
                    | exact xw_ls [(0, vR 38), (9, vL (cr u d ax)), (11, vL (cr v d ax)), (13, vL (cr w d ax)), (15, vI ((a + 1 : Nat) : Int))] ⟨rfl, rfl, rfl, rfl, rfl, trivial⟩ (ih (a + 1) _ F1 m3 (by omega) hI1 (by rw [← hs2]; show _ = List.foldl mkpC s1 ((L1 a ++ _) ++ _); rw [hl1 a, cite_f q2]; rfl))
          refine xw_aload_n dX10_crosses_197 rfl ?_
          refine xw_getfield dX10_crosses_198 fl_X10_70 F38 rfl ?_
          refine xw_callS (rc := 0) (rs := 0) (mc2 := 0) (ms2 := 0) (As := [vR 56]) (st := []) dX10_crosses_201 ms_X10_250 rfl (by decide) (by decide) (Nat.le_of_ble_eq_true rfl) rfl (ct_axisOf F56 (bd_3 bsu (by decide)) (fun k => absurd k zu) (fun _ => ?_))
          rw [← hax]
          refine xw_istore dX10_crosses_204 (by decide) ?_
          refine xw_aload_n dX10_crosses_206 rfl ?_
          refine xw_getfield dX10_crosses_207 fl_X10_73 F38 rfl ?_
          refine xw_callS (rc := 0) (rs := 0) (mc2 := 0) (ms2 := 0) (As := [vR 57]) (st := []) dX10_crosses_210 ms_X10_250 rfl (by decide) (by decide) (Nat.le_of_ble_eq_true rfl) rfl (ct_axisOf F57 (bd_3 bsv (by decide)) (fun k => absurd k zv) (fun _ => ?_))
          refine xw_istore dX10_crosses_213 (by decide) ?_
          refine xw_iload dX10_crosses_215 rfl ?_
          refine xw_iconst dX10_crosses_217 ?_
          refine xw_icmpne (tgt := 284) dX10_crosses_218 (by decide) (by first | assumption | (unfold inI; omega) | (unfold inI at *; omega)) (by first | assumption | (unfold inI; omega) | (unfold inI at *; omega)) (fun c_218 => ?_) (fun c_218 => ?_)
          · skip
            refine xw_iload dX10_crosses_284 rfl ?_
            refine xw_iconst dX10_crosses_286 ?_
            refine xw_icmpne (tgt := 367) dX10_crosses_287 (by decide) (by first | assumption | (unfold inI; omega) | (unfold inI at *; omega)) (by first | assumption | (unfold inI; omega) | (unfold inI at *; omega)) (fun c_287 => ?_) (fun c_287 => ?_)
            · skip
              refine xw_aload_n dX10_crosses_367 rfl ?_
              refine xw_getfield dX10_crosses_368 fl_X10_76 F38 rfl ?_
              refine xw_aload_n dX10_crosses_371 rfl ?_
              refine xw_getfield dX10_crosses_372 fl_X10_70 F38 rfl ?_
              refine xw_callS (rc := 0) (rs := 0) (mc2 := 0) (ms2 := 0) (As := [vR 58, vR 56]) (st := []) dX10_crosses_375 ms_X10_165 rfl (by decide) (by decide) (Nat.le_of_ble_eq_true rfl) rfl (ct_isAlong F58 F56 (bd_3 (bd_cr bsw bsu (C := 320000000000) (by decide)) (by decide)) (fun q1 => ?_) (fun q1 => absurd al q1))
              refine xw_ifne (tgt := 383) dX10_crosses_378 (by decide) (by unfold inI; omega) (fun _ => ?_) (fun c => absurd c (by decide))
              refine xw_iload dX10_crosses_383 rfl ?_
              refine xw_iconst dX10_crosses_385 ?_
              refine xw_icmpne (tgt := 450) dX10_crosses_386 (by decide) (by first | assumption | (unfold inI; omega) | (unfold inI at *; omega)) (by first | assumption | (unfold inI; omega) | (unfold inI at *; omega)) (fun c_386 => ?_) (fun c_386 => ?_)
              · skip
                refine xw_aload_n dX10_crosses_450 rfl ?_
                refine xw_getfield dX10_crosses_451 fl_X10_70 F38 rfl ?_
                refine xw_iload dX10_crosses_454 rfl ?_
                refine xw_lald dX10_crosses_456 F56 (j := ax) rfl xu3 (by decide) ?_
                refine xw_lstore dX10_crosses_457 (by decide) ?_
                refine xw_aload_n dX10_crosses_459 rfl ?_
                refine xw_getfield dX10_crosses_460 fl_X10_73 F38 rfl ?_
                refine xw_iload dX10_crosses_463 rfl ?_
                refine xw_lald dX10_crosses_465 F57 (j := ax) rfl xu3 (by decide) ?_
                refine xw_lstore dX10_crosses_466 (by decide) ?_
                refine xw_aload_n dX10_crosses_468 rfl ?_
                refine xw_getfield dX10_crosses_469 fl_X10_76 F38 rfl ?_
                refine xw_iload dX10_crosses_472 rfl ?_
                refine xw_lald dX10_crosses_474 F58 (j := ax) rfl xu3 (by decide) ?_
                refine xw_lstore dX10_crosses_475 (by decide) ?_
                refine xw_iconst dX10_crosses_477 ?_
                refine xw_istore dX10_crosses_478 (by decide) ?_
                exact xw_ls [(0, vR 38), (9, vL (cr u d ax)), (11, vL (cr v d ax)), (13, vL (cr w d ax)), (15, vI ((0 : Nat) : Int))] ⟨rfl, rfl, rfl, rfl, rfl, trivial⟩ (XA 2 0 s0 F m2 (by omega) hI (by rw [hSF, eC]))
              · skip
                exfalso; omega
            · skip
              exfalso; omega
          · skip
            exfalso; omega
      · rw [cite_f al] at eC
        have q9 := FN eC
        have V9 : ∀ z : Int, inI z → xw g M_X10_crosses Q 0 0 213 [(0, vR 38), (7, vI (ax : Int))] [vI z] n F := by
          intro z iz
          refine xw_istore dX10_crosses_213 (by decide) ?_
          refine xw_iload dX10_crosses_215 rfl ?_
          refine xw_iconst dX10_crosses_217 ?_
          refine xw_icmpne (tgt := 284) dX10_crosses_218 (by decide) (by first | assumption | (unfold inI; omega) | (unfold inI at *; omega)) (by first | assumption | (unfold inI; omega) | (unfold inI at *; omega)) (fun c_218 => ?_) (fun c_218 => ?_)
          · skip
            refine xw_iload dX10_crosses_284 rfl ?_
            refine xw_iconst dX10_crosses_286 ?_
            refine xw_icmpne (tgt := 367) dX10_crosses_287 (by decide) (by first | assumption | (unfold inI; omega) | (unfold inI at *; omega)) (by first | assumption | (unfold inI; omega) | (unfold inI at *; omega)) (fun c_287 => ?_) (fun c_287 => ?_)
            · skip
              refine xw_aload_n dX10_crosses_367 rfl ?_
              refine xw_getfield dX10_crosses_368 fl_X10_76 F38 rfl ?_
              refine xw_aload_n dX10_crosses_371 rfl ?_
              refine xw_getfield dX10_crosses_372 fl_X10_70 F38 rfl ?_
              refine xw_callS (rc := 0) (rs := 0) (mc2 := 0) (ms2 := 0) (As := [vR 58, vR 56]) (st := []) dX10_crosses_375 ms_X10_165 rfl (by decide) (by decide) (Nat.le_of_ble_eq_true rfl) rfl (ct_isAlong F58 F56 (bd_3 (bd_cr bsw bsu (C := 320000000000) (by decide)) (by decide)) (fun q1 => absurd q1 al) (fun q1 => ?_))
              refine xw_ifne (tgt := 383) dX10_crosses_378 (by decide) (by unfold inI; omega) (fun c => absurd c (by decide)) (fun _ => ?_)
              refine xw_iconst dX10_crosses_381 ?_
              exact xw_zret dX10_crosses_382 rfl rfl q9
            · skip
              exfalso; omega
          · skip
            exfalso; omega
        refine xw_aload_n dX10_crosses_197 rfl ?_
        refine xw_getfield dX10_crosses_198 fl_X10_70 F38 rfl ?_
        refine xw_callS (rc := 0) (rs := 0) (mc2 := 0) (ms2 := 0) (As := [vR 56]) (st := []) dX10_crosses_201 ms_X10_250 rfl (by decide) (by decide) (Nat.le_of_ble_eq_true rfl) rfl (ct_axisOf F56 (bd_3 bsu (by decide)) (fun k => absurd k zu) (fun _ => ?_))
        rw [← hax]
        refine xw_istore dX10_crosses_204 (by decide) ?_
        refine xw_aload_n dX10_crosses_206 rfl ?_
        refine xw_getfield dX10_crosses_207 fl_X10_73 F38 rfl ?_
        refine xw_callS (rc := 0) (rs := 0) (mc2 := 0) (ms2 := 0) (As := [vR 57]) (st := []) dX10_crosses_210 ms_X10_250 rfl (by decide) (by decide) (Nat.le_of_ble_eq_true rfl) rfl (ct_axisOf F57 (bd_3 bsv (by decide)) (fun k => ?_) (fun k => ?_))
        · exact xw_ls [(0, vR 38), (7, vI (ax : Int))] ⟨rfl, rfl, trivial⟩ (V9 (-1) (by unfold inI; omega))
        · have := (ax1_ne k).2
          exact xw_ls [(0, vR 38), (7, vI (ax : Int))] ⟨rfl, rfl, trivial⟩ (V9 (ax1 (cr v d) : Int) (by unfold inI; omega))
  have A : ∀ (F : xH) (m2 : Nat → Int) (s0 : ofS), s0.1 = 0 → cI m F s0 F m2 → fr crS f F → F 48 = some (aL 3 u) → F 49 = some (aL 3 v) → F 50 = some (aL 3 w) → F 51 = some (aL 3 d) → ∀ A0 B0 C0 : Nat → Int, F 56 = some (aL 3 A0) → F 57 = some (aL 3 B0) → F 58 = some (aL 3 C0) → xw g M_X10_crosses Q 0 0 14 [(0, vR 38)] [] n F := by
    intro F m2 s0 hs0 hI hf F48 F49 F50 F51 A0 B0 C0 F56 F57 F58
    have F38 : F 38 = some (oMd m2) := hI.2.2.2.2.1
    have tof : crF f F m m2 := ⟨hf, F38, hI.2.2.2.2.2.1, u, v, w, d, A0, B0, C0, F48, F49, F50, F51, F56, F57, F58⟩
    have L : de u v d = 0 → ∀ (j t : Nat) (F1 : xH) (A1 B1 C1 : Nat → Int), t + j = 3 → fr crS f F1 → F1 38 = some (oMd m2) → F1 48 = some (aL 3 u) → F1 49 = some (aL 3 v) → F1 50 = some (aL 3 w) → F1 51 = some (aL 3 d) → F1 56 = some (aL 3 A1) → F1 57 = some (aL 3 B1) → F1 58 = some (aL 3 C1) → (∀ i, i < t → A1 i = cr u d i ∧ B1 i = cr v d i ∧ C1 i = cr w d i) → xw g M_X10_crosses Q 0 0 125 [(0, vR 38), (7, vI (t : Int))] [] n F1 := by
      intro low j
      induction j with
      | zero =>
        intro t F1 A1 B1 C1 ht hf1 e38 e48 e49 e50 e51 e56 e57 e58 hi
        obtain rfl : t = 3 := by omega
        refine xw_reL e56 (c1 := cr u d) (fun k hk => (hi k hk).1) ?_
        refine xw_reL (a := 57) ((xup_n _ _ (by decide)).trans e57) (c1 := cr v d) (fun k hk => (hi k hk).2.1) ?_
        refine xw_reL (a := 58) ((xup_n _ _ (by decide)).trans ((xup_n _ _ (by decide)).trans e58)) (c1 := cr w d) (fun k hk => (hi k hk).2.2) ?_
        refine xw_iload dX10_crosses_125 rfl ?_
        refine xw_iconst dX10_crosses_127 ?_
        refine xw_icmpge (tgt := 197) dX10_crosses_128 (by decide) (by first | assumption | (unfold inI; omega) | (unfold inI at *; omega)) (by first | assumption | (unfold inI; omega) | (unfold inI at *; omega)) (fun c_128 => ?_) (fun c_128 => ?_)
        · skip
          exact xw_ls [(0, vR 38)] ⟨rfl, trivial⟩ (B low _ m2 s0 hs0 ⟨hI.1, hI.2.1, hI.2.2.1, hI.2.2.2.1, e38, hI.2.2.2.2.2.1, fr_rf _ _⟩ (fr_up (fr_up (fr_up hf1 (by decide)) (by decide)) (by decide)) e48 e49 e50 e51 rfl rfl rfl)
        · skip
          exfalso; omega
      | succ j ih =>
        intro t F1 A1 B1 C1 ht hf1 e38 e48 e49 e50 e51 e56 e57 e58 hi
        refine xw_iload dX10_crosses_125 rfl ?_
        refine xw_iconst dX10_crosses_127 ?_
        refine xw_icmpge (tgt := 197) dX10_crosses_128 (by decide) (by first | assumption | (unfold inI; omega) | (unfold inI at *; omega)) (by first | assumption | (unfold inI; omega) | (unfold inI at *; omega)) (fun c_128 => ?_) (fun c_128 => ?_)
        · skip
          exfalso; omega
        · skip
          refine xw_aload_n dX10_crosses_131 rfl ?_
          refine xw_getfield dX10_crosses_132 fl_X10_70 e38 rfl ?_
          refine xw_iload dX10_crosses_135 rfl ?_
          refine xw_aload_n dX10_crosses_137 rfl ?_
          refine xw_getfield dX10_crosses_138 fl_X10_46 e38 rfl ?_
          refine xw_aload_n dX10_crosses_141 rfl ?_
          refine xw_getfield dX10_crosses_142 fl_X10_55 e38 rfl ?_
          refine xw_iload dX10_crosses_145 rfl ?_
          refine xw_callS (rc := 0) (rs := 0) (mc2 := 0) (ms2 := 0) (As := [vR 48, vR 51, vI (t : Int)]) (st := [vI (t : Int), vR 56]) dX10_crosses_147 ms_X10_161 rfl (by decide) (by decide) (Nat.le_of_ble_eq_true rfl) rfl (ct_mcross e48 e51 (by omega) ?_)
          refine xw_last dX10_crosses_150 e56 (j := t) rfl (by omega) (by decide) ?_
          refine xw_aload_n dX10_crosses_151 rfl ?_
          refine xw_getfield dX10_crosses_152 fl_X10_73 (by exact e38) rfl ?_
          refine xw_iload dX10_crosses_155 rfl ?_
          refine xw_aload_n dX10_crosses_157 rfl ?_
          refine xw_getfield dX10_crosses_158 fl_X10_49 (by exact e38) rfl ?_
          refine xw_aload_n dX10_crosses_161 rfl ?_
          refine xw_getfield dX10_crosses_162 fl_X10_55 (by exact e38) rfl ?_
          refine xw_iload dX10_crosses_165 rfl ?_
          refine xw_callS (rc := 0) (rs := 0) (mc2 := 0) (ms2 := 0) (As := [vR 49, vR 51, vI (t : Int)]) (st := [vI (t : Int), vR 57]) dX10_crosses_167 ms_X10_161 rfl (by decide) (by decide) (Nat.le_of_ble_eq_true rfl) rfl (ct_mcross (by exact e49) (by exact e51) (by omega) ?_)
          refine xw_last dX10_crosses_170 (by exact e57) (j := t) rfl (by omega) (by decide) ?_
          refine xw_aload_n dX10_crosses_171 rfl ?_
          refine xw_getfield dX10_crosses_172 fl_X10_76 (by exact e38) rfl ?_
          refine xw_iload dX10_crosses_175 rfl ?_
          refine xw_aload_n dX10_crosses_177 rfl ?_
          refine xw_getfield dX10_crosses_178 fl_X10_52 (by exact e38) rfl ?_
          refine xw_aload_n dX10_crosses_181 rfl ?_
          refine xw_getfield dX10_crosses_182 fl_X10_55 (by exact e38) rfl ?_
          refine xw_iload dX10_crosses_185 rfl ?_
          refine xw_callS (rc := 0) (rs := 0) (mc2 := 0) (ms2 := 0) (As := [vR 50, vR 51, vI (t : Int)]) (st := [vI (t : Int), vR 58]) dX10_crosses_187 ms_X10_161 rfl (by decide) (by decide) (Nat.le_of_ble_eq_true rfl) rfl (ct_mcross (by exact e50) (by exact e51) (by omega) ?_)
          refine xw_last dX10_crosses_190 (by exact e58) (j := t) rfl (by omega) (by decide) ?_
          refine xw_iinc dX10_crosses_191 rfl (by decide) ?_
          refine xw_goto (tgt := 125) dX10_crosses_194 (by decide) ?_
          exact xw_ls [(0, vR 38), (7, vI ((t + 1 : Nat) : Int))] ⟨rfl, rfl, trivial⟩ (ih (t + 1) _ _ _ _ (by omega) (fr_up (fr_up (fr_up hf1 (by decide)) (by decide)) (by decide)) e38 e48 e49 e50 e51 rfl rfl rfl (fun i hi9 => by
              by_cases e : i = t
              · subst e; rw [xui_s, xui_s, xui_s]; exact ⟨rfl, rfl, rfl⟩
              · rw [xui_n _ _ e, xui_n _ _ e, xui_n _ _ e]; exact hi i (by omega)))
    refine xw_aload_n dX10_crosses_14 rfl ?_
    refine xw_getfield dX10_crosses_15 fl_X10_46 F38 rfl ?_
    refine xw_aload_n dX10_crosses_18 rfl ?_
    refine xw_getfield dX10_crosses_19 fl_X10_49 F38 rfl ?_
    refine xw_aload_n dX10_crosses_22 rfl ?_
    refine xw_getfield dX10_crosses_23 fl_X10_55 F38 rfl ?_
    refine xw_callS (rc := 0) (rs := 0) (mc2 := 0) (ms2 := 0) (As := [vR 48, vR 49, vR 51]) (st := []) dX10_crosses_26 ms_X10_173 rfl (by decide) (by decide) (Nat.le_of_ble_eq_true rfl) rfl (ct_mdet F48 F49 F51 ?_)
    refine xw_lstore dX10_crosses_29 (by decide) ?_
    refine xw_lload dX10_crosses_31 rfl ?_
    refine xw_lconst (z := 0) dX10_crosses_33 (by decide) ?_
    refine xw_lcmpeq (tgt := 122) dX10_crosses_34 dX10_crosses_35 (by decide) (nb_L blo (by decide)) (by unfold inL; omega) (fun c_34 => ?_) (fun c_34 => ?_)
    · skip
      refine xw_iconst dX10_crosses_122 ?_
      refine xw_istore dX10_crosses_123 (by decide) ?_
      exact xw_ls [(0, vR 38), (7, vI ((0 : Nat) : Int))] ⟨rfl, rfl, trivial⟩ (L c_34 3 0 F A0 B0 C0 (by omega) hf F38 F48 F49 F50 F51 F56 F57 F58 (fun i hi => absurd hi (Nat.not_lt_zero i)))
    · skip
      refine xw_aload_n dX10_crosses_38 rfl ?_
      refine xw_getfield dX10_crosses_39 fl_X10_52 F38 rfl ?_
      refine xw_aload_n dX10_crosses_42 rfl ?_
      refine xw_getfield dX10_crosses_43 fl_X10_49 F38 rfl ?_
      refine xw_aload_n dX10_crosses_46 rfl ?_
      refine xw_getfield dX10_crosses_47 fl_X10_55 F38 rfl ?_
      refine xw_callS (rc := 0) (rs := 0) (mc2 := 0) (ms2 := 0) (As := [vR 50, vR 49, vR 51]) (st := []) dX10_crosses_50 ms_X10_173 rfl (by decide) (by decide) (Nat.le_of_ble_eq_true rfl) rfl (ct_mdet F50 F49 F51 ?_)
      refine xw_lstore dX10_crosses_53 (by decide) ?_
      refine xw_aload_n dX10_crosses_55 rfl ?_
      refine xw_getfield dX10_crosses_56 fl_X10_46 F38 rfl ?_
      refine xw_aload_n dX10_crosses_59 rfl ?_
      refine xw_getfield dX10_crosses_60 fl_X10_52 F38 rfl ?_
      refine xw_aload_n dX10_crosses_63 rfl ?_
      refine xw_getfield dX10_crosses_64 fl_X10_55 F38 rfl ?_
      refine xw_callS (rc := 0) (rs := 0) (mc2 := 0) (ms2 := 0) (As := [vR 48, vR 50, vR 51]) (st := []) dX10_crosses_67 ms_X10_173 rfl (by decide) (by decide) (Nat.le_of_ble_eq_true rfl) rfl (ct_mdet F48 F50 F51 ?_)
      refine xw_lneg dX10_crosses_70 ?_
      refine xw_lstore dX10_crosses_71 (by decide) ?_
      refine xw_lload dX10_crosses_73 rfl ?_
      refine xw_lload dX10_crosses_75 rfl ?_
      refine xw_callS (rc := 0) (rs := 0) (mc2 := 0) (ms2 := 0) (As := [vL (de w v d), vL (de u v d)]) (st := []) dX10_crosses_77 ms_X10_177 rfl (by decide) (by decide) (Nat.le_of_ble_eq_true rfl) rfl (ct_mPart (nb_L bwv (by decide)) (nb_L blo (by decide)) (fun q1 => ?_) (fun q1 => ?_))
      · skip
        refine xw_ifeq (tgt := 93) dX10_crosses_80 (by decide) (by unfold inI; omega) (fun c => absurd c (by decide)) (fun _ => ?_)
        refine xw_lload dX10_crosses_83 rfl ?_
        refine xw_lload dX10_crosses_85 rfl ?_
        refine xw_callS (rc := 0) (rs := 0) (mc2 := 0) (ms2 := 0) (As := [vL (-de u w d), vL (de u v d)]) (st := []) dX10_crosses_87 ms_X10_177 rfl (by decide) (by decide) (Nat.le_of_ble_eq_true rfl) rfl (ct_mPart (nb_L (nb_neg buw) (by decide)) (nb_L blo (by decide)) (fun q2 => ?_) (fun q2 => ?_))
        · skip
          refine xw_ifne (tgt := 95) dX10_crosses_90 (by decide) (by unfold inI; omega) (fun _ => ?_) (fun c => absurd c (by decide))
          refine xw_aload_n dX10_crosses_95 rfl ?_
          refine xw_lload dX10_crosses_96 rfl ?_
          refine xw_lload dX10_crosses_98 rfl ?_
          refine xw_aload_n dX10_crosses_100 rfl ?_
          refine xw_getfield dX10_crosses_101 fl_X10_46 F38 rfl ?_
          refine xw_aload_n dX10_crosses_104 rfl ?_
          refine xw_getfield dX10_crosses_105 fl_X10_49 F38 rfl ?_
          refine xw_aload_n dX10_crosses_108 rfl ?_
          refine xw_getfield dX10_crosses_109 fl_X10_52 F38 rfl ?_
          refine xw_callS (rc := 0) (rs := 0) (mc2 := 0) (ms2 := 0) (As := [vR 48, vR 49, vR 50]) (st := [vL (de u v d), vL (de w v d), vR 38]) dX10_crosses_112 ms_X10_173 rfl (by decide) (by decide) (Nat.le_of_ble_eq_true rfl) rfl (ct_mdet F48 F49 F50 ?_)
          refine xw_lload dX10_crosses_115 rfl ?_
          refine xw_callV (rc := 0) (rs := 0) (mc2 := 0) (ms2 := 0) (a := 38) (As := [vL (de w v d), vL (de u v d), vL (de u v w), vL (de u v d)]) (st := []) dX10_crosses_117 mv_X10_225 F38 rfl rfl (by decide) (by decide) (Nat.le_of_ble_eq_true rfl) rfl (ct_keep F38 hI.1 hI.2.1 hI.2.2.1 c_34 c_34 bwv blo buvw blo (Or.inl hs0) (fun m3 hk3 hm3 => ?_))
          refine xw_iconst dX10_crosses_120 ?_
          exact xw_zret dX10_crosses_121 rfl rfl (by
            have eC : mCs d u v w = [(sgA (de w v d) (de u v d), (((de u v d).natAbs : Int), (sgA (de u v w) (de u v d), ((de u v d).natAbs : Int))))] := by unfold mCs; rw [cite_t c_34, cite_t ⟨q1, q2⟩]
            refine h1 _ m3 (by rw [eC]; intro k; cases k) ⟨fr_up hf (by decide), xup_s _ _ _, fun k hk => (hm3 k hk).trans (hI.2.2.2.2.2.1 k hk), u, v, w, d, A0, B0, C0, F48, F49, F50, F51, F56, F57, F58⟩ ?_
            rw [mkp_0 hs0] at hk3
            unfold mcV
            rw [eC]
            exact hk3)
        · skip
          refine xw_ifne (tgt := 95) dX10_crosses_90 (by decide) (by unfold inI; omega) (fun c => absurd c (by decide)) (fun _ => ?_)
          refine xw_iconst dX10_crosses_93 ?_
          exact xw_zret dX10_crosses_94 rfl rfl (h0 F m2 (by unfold mCs; rw [cite_t c_34]; first | exact cite_f (fun k => q1 k.1) | exact cite_f (fun k => q2 k.2)) tof)
      · skip
        refine xw_ifeq (tgt := 93) dX10_crosses_80 (by decide) (by unfold inI; omega) (fun _ => ?_) (fun c => absurd c (by decide))
        refine xw_iconst dX10_crosses_93 ?_
        exact xw_zret dX10_crosses_94 rfl rfl (h0 F m2 (by unfold mCs; rw [cite_t c_34]; first | exact cite_f (fun k => q1 k.1) | exact cite_f (fun k => q2 k.2)) tof)
  refine xw_md27 h38 (fun z hz9 => ?_)
  obtain ⟨U0, V0, W0, D0, A0, B0, C0, g48, g49, g50, g51, g56, g57, g58⟩ := hv
  refine xw_aload_n dX10_crosses_0 rfl ?_
  refine xw_iload_n dX10_crosses_1 rfl ?_
  refine xw_iload_n dX10_crosses_2 rfl ?_
  refine xw_iload_n dX10_crosses_3 rfl ?_
  refine xw_iload dX10_crosses_4 rfl ?_
  refine xw_callV (rc := 0) (rs := 0) (mc2 := 0) (ms2 := 0) (a := 38) (As := [vI (s : Int), vI (p : Int), vI (o : Int), vI (q : Int)]) (st := []) dX10_crosses_6 mv_X10_188 rfl rfl rfl (by decide) (by decide) (Nat.le_of_ble_eq_true rfl) rfl (ct_setPieces (m := xui m 27 z) rfl (by exact h46) (by exact g48) (by exact g49) (by exact g50) (by exact g51) hs ho hp hq9 hns hno ⟨by have h9 := hd.1; rw [hd9] at h9; exact h9, by have h9 := hd.2.1; rw [hd9] at h9; exact h9, by have h9 := hd.2.2; rw [hd9] at h9; exact h9⟩ (fun f1 hf1 e48 e49 e50 e51 => ?_))
  refine xw_aload_n dX10_crosses_9 rfl ?_
  refine xw_iconst dX10_crosses_10 ?_
  refine xw_putfield dX10_crosses_11 (fp_X10_229 _) (fr_at hf1 (xup_s _ _ _) (by decide)) rfl rfl ?_
  rw [xmd_29]
  exact xw_ls [(0, vR 38)] ⟨rfl, trivial⟩ (A _ (xui (xui m 27 z) 29 1) (0, (m 25, (m 26, (z, m 28)))) rfl ⟨⟨rfl, rfl, rfl, rfl, rfl⟩, Or.inl rfl, hz9, Or.inl rfl, xup_s _ _ _, fun k hk => by rw [xui_n _ _ (by omega), xui_n _ _ (by omega)], fr_rf _ _⟩ (fr_up (fr_tr (fr_up (fr_rf _ f) (by decide)) (fr_sub hf1 (by decide))) (by decide)) (by rw [hu]; exact e48) (by rw [hv9]; exact e49) (by rw [hw]; exact e50) (by rw [hd9]; exact e51) A0 B0 C0 (fr_at hf1 (by exact g56) (by decide)) (fr_at hf1 (by exact g57) (by decide)) (fr_at hf1 (by exact g58) (by decide)))
end C88
