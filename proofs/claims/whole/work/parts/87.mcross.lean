/-! the model's crosses -/
section C87a
variable {g : xG} {y : xM} {Q : xP} {rc rs pc : Nat} {ls : xS} {st : List xV} {n : Nat} {f : xH}
theorem xw_md27 {m : Nat → Int} (h : f 38 = some (oMd m)) (k : ∀ z, inL z → xw g y Q rc rs pc ls st n (xup f 38 (oMd (xui m 27 z)))) : xw g y Q rc rs pc ls st n f := by
  intro hG p e s m9 args below meth c H locs mc ms cells slots A C hR hZ hlo hc hs hl
  have hz : inL (Int64.ofInt (m 27)).toInt := by
    have h1 := Int64.le_toInt (Int64.ofInt (m 27))
    have h2 := Int64.toInt_lt (Int64.ofInt (m 27))
    unfold inL; omega
  refine k _ hz hG p e s m9 args below meth c H locs mc ms cells slots A C ⟨hR.1, hR.2.1, fun j e1 hj => ?_⟩ hZ hlo hc hs hl
  by_cases hja : j = 38
  · subst hja
    rw [xup_s] at hj
    cases hj
    obtain ⟨h1, r, h2, h3⟩ := hR.2.2 38 _ h
    refine ⟨h1, ?_⟩
    rw [← xmd_27]
    refine ⟨r, h2, h3.to (fun i hi => ?_)⟩
    by_cases hi7 : i = 27
    · subst hi7
      exact (congrArg (fun z => Value.long z) (Int64.ofInt_toInt _).symm)
    · exact congrArg (xcv _) (xui_n _ _ hi7).symm
  · rw [xup_n f _ hja] at hj
    exact hR.2.2 j e1 hj
end C87a
noncomputable def cite {α : Type} (P : Prop) (a b : α) : α := @ite _ P (Classical.propDecidable P) a b
theorem cite_t {α : Type} {P : Prop} {a b : α} (h : P) : cite P a b = a := by unfold cite; rw [if_pos h]
theorem cite_f {α : Type} {P : Prop} {a b : α} (h : ¬ P) : cite P a b = b := by unfold cite; rw [if_neg h]
/-- a candidate: its place and its height -/
abbrev cnd : Type := Int × (Int × (Int × Int))
def mkpC (s : ofS) (c : cnd) : ofS := mkp c.1 c.2.1 c.2.2.1 c.2.2.2.natAbs s
def mC (d u v w : Nat → Int) (aU aL bU bL : Int) : cnd := (sgA aU aL, ((aL.natAbs : Int), (sgA (mUp d u v w aU aL bU bL) (mLo d aL bL), ((mLo d aL bL).natAbs : Int))))
def ups (c : Nat → List cnd) : Nat → Nat → List cnd
  | 0, _ => []
  | j + 1, a => c a ++ ups c j (a + 1)
noncomputable def mCs (d u v w : Nat → Int) : List cnd :=
  cite (de u v d ≠ 0) (cite (prtM (de w v d) (de u v d) ∧ prtM (-de u w d) (de u v d)) [(sgA (de w v d) (de u v d), (((de u v d).natAbs : Int), (sgA (de u v w) (de u v d), ((de u v d).natAbs : Int))))] [])
  (cite (z3 (cr u d)) (cite (z3 (cr v d)) (cite (z3 (cr w d)) (ups (fun a => ups (fun b => [mC d u v w a 1 b 1]) 2 0) 2 0) [])
      (cite (z3 (cr (cr w d) (cr v d)) ∧ prtM (-cr w d (ax1 (cr v d))) (cr v d (ax1 (cr v d)))) (ups (fun a => [mC d u v w a 1 (-cr w d (ax1 (cr v d))) (cr v d (ax1 (cr v d)))]) 2 0) []))
    (cite (z3 (cr (cr w d) (cr u d))) (cite (z3 (cr v d)) (cite (prtM (cr w d (ax1 (cr u d))) (cr u d (ax1 (cr u d)))) (ups (fun b => [mC d u v w (cr w d (ax1 (cr u d))) (cr u d (ax1 (cr u d))) b 1]) 2 0) [])
        (ups (fun a => cite (prtM (a * cr u d (ax1 (cr u d)) - cr w d (ax1 (cr u d))) (cr v d (ax1 (cr u d)))) [mC d u v w a 1 (a * cr u d (ax1 (cr u d)) - cr w d (ax1 (cr u d))) (cr v d (ax1 (cr u d)))] []) 2 0 ++
         ups (fun b => cite (prtM (cr w d (ax1 (cr u d)) + b * cr v d (ax1 (cr u d))) (cr u d (ax1 (cr u d)))) [mC d u v w (cr w d (ax1 (cr u d)) + b * cr v d (ax1 (cr u d))) (cr u d (ax1 (cr u d))) b 1] []) 2 0)) []))
theorem mkpC_1 (L : List cnd) (s : ofS) : (L.foldl mkpC s).1 = if L = [] then s.1 else 1 := by
  induction L generalizing s with
  | nil => rfl
  | cons c L ih =>
    rw [List.foldl_cons, ih]
    by_cases e : L = []
    · subst e; rfl
    · rw [if_neg e]; rfl
def cI (m : Nat → Int) (F0 : xH) (s : ofS) (F : xH) (m2 : Nat → Int) : Prop := kst m2 s ∧ (s.1 = 0 ∨ s.1 = 1) ∧ inL s.2.2.2.1 ∧ (s.1 = 0 ∨ smS s) ∧ F 38 = some (oMd m2) ∧ (∀ k, k < 25 ∨ 29 < k → m2 k = m k) ∧ fr [38] F0 F
def mVc (f : xH) : Prop := ∃ U V W D A B C : Nat → Int, f 48 = some (aL 3 U) ∧ f 49 = some (aL 3 V) ∧ f 50 = some (aL 3 W) ∧ f 51 = some (aL 3 D) ∧ f 56 = some (aL 3 A) ∧ f 57 = some (aL 3 B) ∧ f 58 = some (aL 3 C)
abbrev crS : List Nat := [38, 48, 49, 50, 51, 56, 57, 58]
def crF (f f1 : xH) (m m1 : Nat → Int) : Prop := fr crS f f1 ∧ f1 38 = some (oMd m1) ∧ (∀ k, k < 25 ∨ 29 < k → m1 k = m k) ∧ mVc f1
section C87
variable {g : xG} {y : xM} {Q : xP} {n : Nat} {f : xH}
set_option maxHeartbeats 4000000 in
theorem ct_meet {m u v w d : Nat → Int} {F0 : xH} {s : ofS} {m2 : Nat → Int} {aU al bU bl : Int} (hI : cI m F0 s f m2) (h48 : F0 48 = some (aL 3 u)) (h49 : F0 49 = some (aL 3 v)) (h50 : F0 50 = some (aL 3 w)) (h51 : F0 51 = some (aL 3 d)) (bu : bd u 2000) (bv : bd v 2000) (bw : bd w 2000) (hd : bd d 100) (hz : ¬ z3 d)
    (ha : al ≠ 0) (hb : bl ≠ 0) (na : nb aU 400000) (nal : nb al 400000) (nbu : nb bU 400000) (nbl : nb bl 400000) (h1 : (al = 1 ∧ nb aU 1) ∨ (bl = 1 ∧ nb bU 1))
    (hq : ∀ F' m3, cI m F0 (mkpC s (mC d u v w aU al bU bl)) F' m3 → Q (.inl none) n F') : xct g M_X10_meet 0 0 [vR 38, vL aU, vL al, vL bU, vL bl] n f Q := by
  refine xct_of rfl rfl (Nat.le_of_ble_eq_true rfl) ?_
  obtain ⟨hk, hs, h27, hsm, h38, hm, hfr⟩ := hI
  have e48 := fr_at hfr h48 (by decide)
  have e49 := fr_at hfr h49 (by decide)
  have e50 := fr_at hfr h50 (by decide)
  have e51 := fr_at hfr h51 (by decide)
  obtain ⟨ax0, ax3⟩ := ax1_ne hz
  have nLo : nb (mLo d al bl) 40000000 := by
    unfold mLo
    rcases h1 with ⟨rfl, _⟩ | ⟨rfl, _⟩
    · rw [Int.mul_one]; exact nb_le (nb_mul (nb_bd hd ax3) nbl) (by decide)
    · rw [Int.mul_one]; exact nb_le (nb_mul (nb_bd hd ax3) nal) (by decide)
  have nUp : nb (mUp d u v w aU al bU bl) 2400000000 := by
    unfold mUp
    rcases h1 with ⟨rfl, k⟩ | ⟨rfl, k⟩
    · exact nb_le (nb_sub (nb_add (nb_mul (nb_mul (nb_bd bw ax3) (nb_c 1 (A := 1) (by decide))) nbl) (nb_mul (nb_mul (nb_bd bv ax3) nbu) (nb_c 1 (A := 1) (by decide)))) (nb_mul (nb_mul (nb_bd bu ax3) k) nbl)) (by decide)
    · exact nb_le (nb_sub (nb_add (nb_mul (nb_mul (nb_bd bw ax3) nal) (nb_c 1 (A := 1) (by decide))) (nb_mul (nb_mul (nb_bd bv ax3) k) nal)) (nb_mul (nb_mul (nb_bd bu ax3) na) (nb_c 1 (A := 1) (by decide)))) (by decide)
  have nz : mLo d al bl ≠ 0 := Int.mul_ne_zero (Int.mul_ne_zero ax0 ha) hb
  have R : ∀ ax : Nat, ax = ax1 d → xw g M_X10_meet Q 0 0 31 [(0, vR 38), (1, vL aU), (3, vL al), (5, vL bU), (7, vL bl)] [vI (ax : Int)] n f := by
    intro ax hax
    subst hax
    refine xw_istore dX10_meet_31 (by decide) ?_
    refine xw_aload_n dX10_meet_33 rfl ?_
    refine xw_getfield dX10_meet_34 fl_X10_52 h38 rfl ?_
    refine xw_iload dX10_meet_37 rfl ?_
    refine xw_lald dX10_meet_39 e50 (j := ax1 d) rfl ax3 (by decide) ?_
    refine xw_lload_n dX10_meet_40 rfl ?_
    refine xw_lmul dX10_meet_41 ?_
    refine xw_lload dX10_meet_42 rfl ?_
    refine xw_lmul dX10_meet_44 ?_
    refine xw_aload_n dX10_meet_45 rfl ?_
    refine xw_getfield dX10_meet_46 fl_X10_49 h38 rfl ?_
    refine xw_iload dX10_meet_49 rfl ?_
    refine xw_lald dX10_meet_51 e49 (j := ax1 d) rfl ax3 (by decide) ?_
    refine xw_lload dX10_meet_52 rfl ?_
    refine xw_lmul dX10_meet_54 ?_
    refine xw_lload_n dX10_meet_55 rfl ?_
    refine xw_lmul dX10_meet_56 ?_
    refine xw_ladd dX10_meet_57 ?_
    refine xw_aload_n dX10_meet_58 rfl ?_
    refine xw_getfield dX10_meet_59 fl_X10_46 h38 rfl ?_
    refine xw_iload dX10_meet_62 rfl ?_
    refine xw_lald dX10_meet_64 e48 (j := ax1 d) rfl ax3 (by decide) ?_
    refine xw_lload_n dX10_meet_65 rfl ?_
    refine xw_lmul dX10_meet_66 ?_
    refine xw_lload dX10_meet_67 rfl ?_
    refine xw_lmul dX10_meet_69 ?_
    refine xw_lsub dX10_meet_70 ?_
    refine xw_lstore dX10_meet_71 (by decide) ?_
    refine xw_aload_n dX10_meet_73 rfl ?_
    refine xw_getfield dX10_meet_74 fl_X10_55 h38 rfl ?_
    refine xw_iload dX10_meet_77 rfl ?_
    refine xw_lald dX10_meet_79 e51 (j := ax1 d) rfl ax3 (by decide) ?_
    refine xw_lload_n dX10_meet_80 rfl ?_
    refine xw_lmul dX10_meet_81 ?_
    refine xw_lload dX10_meet_82 rfl ?_
    refine xw_lmul dX10_meet_84 ?_
    refine xw_lstore dX10_meet_85 (by decide) ?_
    refine xw_aload_n dX10_meet_87 rfl ?_
    refine xw_lload_n dX10_meet_88 rfl ?_
    refine xw_lload_n dX10_meet_89 rfl ?_
    refine xw_lload dX10_meet_90 rfl ?_
    refine xw_lload dX10_meet_92 rfl ?_
    refine xw_callV (rc := 0) (rs := 0) (mc2 := 0) (ms2 := 0) (a := 38) (As := [vL aU, vL al, vL (mUp d u v w aU al bU bl), vL (mLo d al bl)]) (st := []) dX10_meet_94 mv_X10_225 h38 rfl rfl (by decide) (by decide) (Nat.le_of_ble_eq_true rfl) rfl (ct_keep h38 hk hs h27 ha nz (nb_le na (by decide)) (nb_le nal (by decide)) (nb_le nUp (by decide)) (nb_le nLo (by decide)) (hsm.imp_right (fun k => ⟨k, na, nal, nUp, nLo⟩)) (fun m3 hk3 hm3 => ?_))
    exact xw_vret dX10_meet_97 rfl (hq _ m3 ⟨hk3, Or.inr rfl, (nb_L (mkp_sm (hsm) (sgA_n na) (nb_cast nal) (sgA_n nUp) nLo).2.2.1 (by decide)), Or.inr (mkp_sm hsm (sgA_n na) (nb_cast nal) (sgA_n nUp) nLo), xup_s _ _ _, fun k q => (hm3 k q).trans (hm k q), fr_up hfr (by decide)⟩)
  have i3 := bd_3 hd (by decide)
  refine xw_aload_n dX10_meet_0 rfl ?_
  refine xw_getfield dX10_meet_1 fl_X10_55 h38 rfl ?_
  refine xw_iconst dX10_meet_4 ?_
  refine xw_lald dX10_meet_5 e51 (j := 0) rfl (by decide) (by decide) ?_
  refine xw_lconst (z := 0) dX10_meet_6 (by decide) ?_
  refine xw_lcmpeq (tgt := 15) dX10_meet_7 dX10_meet_8 (by decide) i3.1 (by unfold inL; omega) (fun c_7 => ?_) (fun c_7 => ?_)
  · skip
    refine xw_aload_n dX10_meet_15 rfl ?_
    refine xw_getfield dX10_meet_16 fl_X10_55 h38 rfl ?_
    refine xw_iconst dX10_meet_19 ?_
    refine xw_lald dX10_meet_20 e51 (j := 1) rfl (by decide) (by decide) ?_
    refine xw_lconst (z := 0) dX10_meet_21 (by decide) ?_
    refine xw_lcmpeq (tgt := 30) dX10_meet_22 dX10_meet_23 (by decide) i3.2.1 (by unfold inL; omega) (fun c_22 => ?_) (fun c_22 => ?_)
    · skip
      refine xw_iconst dX10_meet_30 ?_
      first
        | exact R 0 (by unfold ax1; rw [if_pos c_7])
        | exact R 1 (by unfold ax1; rw [if_neg (fun k => k c_7), if_pos c_22])
        | exact R 2 (by unfold ax1; rw [if_neg (fun k => k c_7), if_neg (fun k => k c_22)])
    · skip
      refine xw_iconst dX10_meet_26 ?_
      refine xw_goto (tgt := 31) dX10_meet_27 (by decide) ?_
      first
        | exact R 0 (by unfold ax1; rw [if_pos c_7])
        | exact R 1 (by unfold ax1; rw [if_neg (fun k => k c_7), if_pos c_22])
        | exact R 2 (by unfold ax1; rw [if_neg (fun k => k c_7), if_neg (fun k => k c_22)])
  · skip
    refine xw_iconst dX10_meet_11 ?_
    refine xw_goto (tgt := 31) dX10_meet_12 (by decide) ?_
    first
      | exact R 0 (by unfold ax1; rw [if_pos c_7])
      | exact R 1 (by unfold ax1; rw [if_neg (fun k => k c_7), if_pos c_22])
      | exact R 2 (by unfold ax1; rw [if_neg (fun k => k c_7), if_neg (fun k => k c_22)])
end C87
