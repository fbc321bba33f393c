/-! the model: check -/
theorem cnt_cg {x y9 : Nat} : ∀ k, (∀ i, i < k → x.testBit i = y9.testBit i) → cnt x k = cnt y9 k := by
  intro k
  induction k with
  | zero => intro _; rfl
  | succ k ih => intro h; show cnt x k + _ = cnt y9 k + _; rw [ih (fun i hi => h i (by omega)), h k (by omega)]
theorem cnt_clr {L q : Nat} : ∀ k, q < k → L.testBit q = true → cnt (xclr L q) k + 1 = cnt L k := by
  intro k
  induction k with
  | zero => intro h; omega
  | succ k ih =>
    intro h hb
    show cnt (xclr L q) k + (if (xclr L q).testBit k = true then 1 else 0) + 1 = cnt L k + (if L.testBit k = true then 1 else 0)
    by_cases e : q = k
    · subst e
      have e1 : (xclr L q).testBit q = false := by rw [xclr_bit]; simp
      have e2 : cnt (xclr L q) q = cnt L q := cnt_cg q (fun i hi => by
        have e3 : i ≠ q := by omega
        rw [xclr_bit]; simp [e3])
      rw [e1, if_neg (by decide), if_pos hb, e2]
    · have e0 : k ≠ q := fun z => e z.symm
      have e1 : (xclr L q).testBit k = L.testBit k := by rw [xclr_bit]; simp [e0]
      rw [e1]
      have := ih (by omega) hb
      omega
theorem cnt_all (sz : Nat) : ∀ k, k ≤ sz → cnt (2 ^ sz - 1) k = k := by
  intro k
  induction k with
  | zero => intro _; rfl
  | succ k ih =>
    intro h
    show cnt (2 ^ sz - 1) k + (if (2 ^ sz - 1).testBit k = true then 1 else 0) = _
    rw [ih (by omega), Nat.testBit_two_pow_sub_one, if_pos (decide_eq_true (by omega))]
theorem cnt_0 {L : Nat} : ∀ k, cnt L k = 0 → ∀ i, i < k → L.testBit i = false := by
  intro k
  induction k with
  | zero => intro _ i hi; omega
  | succ k ih =>
    intro h i hi
    have h' : cnt L k + (if L.testBit k = true then 1 else 0) = 0 := h
    by_cases e : i = k
    · subst e
      cases e2 : L.testBit i
      · rfl
      · rw [if_pos e2] at h'; omega
    · exact ih (by omega) i (by omega)
theorem bit0 {L sz : Nat} (h : L < 2 ^ sz) (h1 : ∀ i, i < sz → L.testBit i = false) : L = 0 := by
  apply Nat.eq_of_testBit_eq
  intro i
  rw [Nat.zero_testBit]
  by_cases e : i < sz
  · exact h1 i e
  · exact Nat.testBit_lt_two_pow (Nat.lt_of_lt_of_le h (Nat.pow_le_pow_right (by decide) (by omega)))
section C99
variable {g : xG} {y : xM} {Q : xP} {n : Nat} {f : xH} {th : Int} {bn : Nat} {β : Nat → xBx} {gn : Nat} {σ : Nat → xSt} {d : Nat → Int} {as : List xAc} {ps : Nat} {pb : Nat → Int} {pu : Nat} {pr : Nat → Int} {sz : Nat} {N : Nat → Nat} {av : Nat → Nat}
set_option maxHeartbeats 16000000 in
theorem mct_check {z : Int} {c : Nat → Int} (h : MS f th bn β gn σ d as ps pb pu pr) (hz : inI z) (hN : onO gn σ sz N) (hav : avR sz av (fun i j => mBar d σ (N i) (N j))) (hc9 : ∀ p, p < sz → c p = (N p : Int)) (h0 : z = 0 → ∀ f1, MS f1 0 bn β gn σ d as ps pb 0 pr → kC f f1 → Q (.inl (some (vI (wio av c sz pr pu 0 (2 ^ sz - 1))))) n f1) (h1 : z = 1 → ∀ f1 r, wir av c sz pr pu pu 0 0 (-1) (-1) r → MS f1 0 bn β gn σ d as ps pb 0 pr → kC f f1 → Q (.inl (some (vI r))) n f1) (hx1 : ¬ (z = 0 ∨ z = 1) → ∀ f1, MS f1 1 bn β gn σ d as ps pb pu pr → kC f f1 → Q (.inl (some (vI 0))) n f1) : xct g M_X10_check 0 0 [vR 38, vI z] n f Q := by
  refine xct_of rfl rfl (Nat.le_of_ble_eq_true rfl) ?_
  have S : ∀ F, MS F 0 bn β gn σ d as ps pb pu pr → kC f F → xw g M_X10_check Q 0 0 5 [(0, vR 38), (1, vI z)] [] n F := by
    intro Fa hFa kFa
    obtain ⟨ma, hma, hEa⟩ := MS_E hFa
    have h38 := hEa.1
    have T9 := MS_th 1 hFa h38 hma
    have hgn : gn ≤ 100 := hEa.2.2.2.1.choose_spec.choose_spec.choose_spec.choose_spec.choose_spec.2.2.2.2.2.1
    have h40 : sz ≤ 40 := by rw [hN.1]; exact hFa.choose_spec.2.2.2.2.2.2.2.2.1
    obtain ⟨n0, n1, n6, n7, n13, n14, n15, n23, n42, n60⟩ := id hma
    obtain ⟨cp, a77, hpu, hcp⟩ : mpr Fa pu pr := hFa.choose_spec.2.2.2.2.2.2.1
    have G : (z = 0 ∨ z = 1) → xw g M_X10_check Q 0 0 29 [(0, vR 38), (1, vI z)] [] n Fa := by
      intro hz01
      obtain ⟨F0, hF0e⟩ : ∃ F0, F0 = xup Fa 38 (oMd (xui ma 60 0)) := ⟨_, rfl⟩
      have hF0 : MS F0 0 bn β gn σ d as ps pb 0 pr := by
        obtain ⟨m9, _, _, b1, b2, b3, b4, b5, b6, b7, b8, b9⟩ := id hFa
        rw [hF0e]
        exact ⟨xui ma 60 0, xup_s _ _ _, ⟨n0, n1, n6, n7, n13, n14, n15, n23, n42, rfl⟩, mbx_fr b1 (fun k p q => xup_n _ _ (by omega)), mst_fr b2 (fun k p q => xup_n _ _ (by omega)), mac_fr b3 (fun k p q => xup_n _ _ (by omega)), mpg_fr b4 (xup_n _ _ (by decide)), ⟨cp, a77, Nat.zero_le _, fun j hj => absurd hj (Nat.not_lt_zero _)⟩, msh_o b6 (by decide), b7, b8, b9⟩
      have kF0 : kC f F0 := by rw [hF0e]; exact kC_up kFa (by decide) (by decide)
      have e77 : F0 77 = some (aI 40 cp) := by rw [hF0e]; exact a77
      obtain ⟨m0, hm0, hE0⟩ : ∃ m0, mfd m0 0 bn gn σ d as ps 0 ∧ mE m0 F0 gn σ d := by
        obtain ⟨m9, q1, q2⟩ := MS_E hF0
        exact ⟨m9, q1, q2⟩
      have hsh : msh F0 := hF0.choose_spec.2.2.2.2.2.2.2.1
      have Fin : ∀ F m1, gR F0 F m0 m1 → MS F 0 bn β gn σ d as ps pb 0 pr ∧ kC f F := fun F m1 hG => ⟨(MS_gr hF0 hm0 hG).1, kC_tr kF0 (MS_gr hF0 hm0 hG).2.1⟩
      -- one stick of the proof
      have ST : ∀ (k L : Nat) (F : xH) (m1 : Nat → Int), k < pu → gR F0 F m0 m1 → lfF F sz N L →
          (∀ gd : Int, ((gd = 1 ∧ ∃ q, q < sz ∧ xidx c (pr k) 0 sz = (q : Int) ∧ pr k = (N q : Int) ∧ L.testBit q = true) ∨ (gd = 0 ∧ (xidx c (pr k) 0 sz = -1 ∨ ∃ q : Nat, xidx c (pr k) 0 sz = (q : Int) ∧ L.testBit q = false))) → xw g M_X10_check Q 0 0 125 [(0, vR 38), (1, vI z), (2, vI (pu : Int)), (3, vI (k : Int)), (4, vI (pr k))] [vI gd] n F) →
          xw g M_X10_check Q 0 0 73 [(0, vR 38), (1, vI z), (2, vI (pu : Int)), (3, vI (k : Int))] [] n F := by
        intro k L F m1 hk hG hl K
        obtain ⟨g38, g6, _, ⟨K9, M, W, P, Z, s43, s44, s45, s46, s47, hgn9, hall, hz9⟩, _⟩ := mE_gr hE0 hG
        have f77 : F 77 = some (aI 40 cp) := (hG.1 77 (by decide)).trans e77
        obtain ⟨lf, h69, hl9⟩ := id hl
        obtain ⟨ck, ik⟩ := hcp k hk
        have no : ¬ (∃ s : Nat, pr k = (s : Int) ∧ s < gn ∧ hrS (σ s) = 1) → xidx c (pr k) 0 sz = -1 := by
          intro hn
          rcases xidx_in c (pr k) sz 0 with ⟨e, _⟩ | ⟨p, _, p2, p3, p4⟩
          · exact e
          · have np := hN.2 p (by omega)
            exact absurd ⟨N p, by rw [← p4, hc9 p (by omega)], np.1, np.2.1⟩ hn
        have yes : ∀ s : Nat, pr k = (s : Int) → s < gn → hrS (σ s) = 1 → hc σ s < sz ∧ N (hc σ s) = s ∧ xidx c (pr k) 0 sz = (hc σ s : Int) := by
          intro s e1 e2 e3
          obtain ⟨p1, p2⟩ := onO_at hN e2 e3
          refine ⟨p1, p2, ?_⟩
          rcases xidx_in c (pr k) sz 0 with ⟨_, e⟩ | ⟨p, _, p3, p4, p5⟩
          · exact absurd (by rw [hc9 _ p1, p2, e1]) (e (hc σ s) (by omega) (by omega))
          · rw [p4]
            have : N p = N (hc σ s) := by have := hc9 p (by omega); omega
            rw [onO_inj hN (by omega) p1 this]
        refine xw_iload_n dX10_check_73 rfl ?_
        refine xw_iload_n dX10_check_74 rfl ?_
        refine xw_icmpge (tgt := 200) dX10_check_75 (by decide) (by first | assumption | (unfold inI; omega) | (unfold inI at *; omega)) (by first | assumption | (unfold inI; omega) | (unfold inI at *; omega)) (fun c_75 => ?_) (fun c_75 => ?_)
        · skip
          exfalso; omega
        · skip
          refine xw_aload_n dX10_check_78 rfl ?_
          refine xw_getfield dX10_check_79 fl_X10_133 g38 rfl ?_
          refine xw_iload_n dX10_check_82 rfl ?_
          refine xw_iald dX10_check_83 f77 (j := k) rfl (by omega) (by decide) ?_
          refine xw_topi (pr k) ck ?_
          refine xw_istore dX10_check_84 (by decide) ?_
          refine xw_iload dX10_check_86 rfl ?_
          refine xw_iflt (tgt := 124) dX10_check_88 (by decide) (by first | assumption | (unfold inI; omega) | (unfold inI at *; omega)) (fun c_88 => ?_) (fun c_88 => ?_)
          · skip
            refine xw_iconst dX10_check_124 ?_
            first
              | exact xw_ls [(0, vR 38), (1, vI z), (2, vI (pu : Int)), (3, vI (k : Int)), (4, vI (pr k))] ⟨rfl, rfl, rfl, rfl, rfl, trivial⟩ (K 1 (Or.inl ⟨rfl, hc σ (pr k).toNat, y1, y3, by rw [y2]; omega, by rcases q8 with ⟨a, _⟩ | ⟨_, b⟩; exact absurd a c_117; exact b⟩))
              | exact xw_ls [(0, vR 38), (1, vI z), (2, vI (pu : Int)), (3, vI (k : Int)), (4, vI (pr k))] ⟨rfl, rfl, rfl, rfl, rfl, trivial⟩ (K 0 (Or.inr ⟨rfl, Or.inr ⟨hc σ (pr k).toNat, y3, by rcases q8 with ⟨_, b⟩ | ⟨a, _⟩; exact b; exact absurd c_117 (by omega)⟩⟩))
              | exact xw_ls [(0, vR 38), (1, vI z), (2, vI (pu : Int)), (3, vI (k : Int)), (4, vI (pr k))] ⟨rfl, rfl, rfl, rfl, rfl, trivial⟩ (K 0 (Or.inr ⟨rfl, Or.inl (no (fun ⟨s, x1, x2, x3⟩ => by have c9 : Z (pr k).toNat = 0 := c_107; have x4 : (pr k).toNat = s := (by omega); rw [x4] at c9 q9; omega))⟩))
              | exact xw_ls [(0, vR 38), (1, vI z), (2, vI (pu : Int)), (3, vI (k : Int)), (4, vI (pr k))] ⟨rfl, rfl, rfl, rfl, rfl, trivial⟩ (K 0 (Or.inr ⟨rfl, Or.inl (no (fun ⟨s, x1, x2, x3⟩ => by omega))⟩))
          · skip
            refine xw_iload dX10_check_91 rfl ?_
            refine xw_aload_n dX10_check_93 rfl ?_
            refine xw_getfield dX10_check_94 fl_X10_181 g38 rfl ?_
            refine xw_topi (gn : Int) g6 ?_
            refine xw_icmpge (tgt := 124) dX10_check_97 (by decide) (by first | assumption | (unfold inI; omega) | (unfold inI at *; omega)) (by first | assumption | (unfold inI; omega) | (unfold inI at *; omega)) (fun c_97 => ?_) (fun c_97 => ?_)
            · skip
              refine xw_iconst dX10_check_124 ?_
              first
                | exact xw_ls [(0, vR 38), (1, vI z), (2, vI (pu : Int)), (3, vI (k : Int)), (4, vI (pr k))] ⟨rfl, rfl, rfl, rfl, rfl, trivial⟩ (K 1 (Or.inl ⟨rfl, hc σ (pr k).toNat, y1, y3, by rw [y2]; omega, by rcases q8 with ⟨a, _⟩ | ⟨_, b⟩; exact absurd a c_117; exact b⟩))
                | exact xw_ls [(0, vR 38), (1, vI z), (2, vI (pu : Int)), (3, vI (k : Int)), (4, vI (pr k))] ⟨rfl, rfl, rfl, rfl, rfl, trivial⟩ (K 0 (Or.inr ⟨rfl, Or.inr ⟨hc σ (pr k).toNat, y3, by rcases q8 with ⟨_, b⟩ | ⟨a, _⟩; exact b; exact absurd c_117 (by omega)⟩⟩))
                | exact xw_ls [(0, vR 38), (1, vI z), (2, vI (pu : Int)), (3, vI (k : Int)), (4, vI (pr k))] ⟨rfl, rfl, rfl, rfl, rfl, trivial⟩ (K 0 (Or.inr ⟨rfl, Or.inl (no (fun ⟨s, x1, x2, x3⟩ => by have c9 : Z (pr k).toNat = 0 := c_107; have x4 : (pr k).toNat = s := (by omega); rw [x4] at c9 q9; omega))⟩))
                | exact xw_ls [(0, vR 38), (1, vI z), (2, vI (pu : Int)), (3, vI (k : Int)), (4, vI (pr k))] ⟨rfl, rfl, rfl, rfl, rfl, trivial⟩ (K 0 (Or.inr ⟨rfl, Or.inl (no (fun ⟨s, x1, x2, x3⟩ => by omega))⟩))
            · skip
              have q9 := hall (pr k).toNat (by omega)
              have z9 := hz9 (pr k).toNat (by omega)
              refine xw_aload_n dX10_check_100 rfl ?_
              refine xw_getfield dX10_check_101 fl_X10_39 g38 rfl ?_
              refine xw_iload dX10_check_104 rfl ?_
              refine xw_zald dX10_check_106 s47 (j := (pr k).toNat) (by omega) (by omega) (by decide) ?_
              refine xw_ifeq (tgt := 124) dX10_check_107 (by decide) (by first | assumption | (unfold inI; omega) | (unfold inI at *; omega)) (fun c_107 => ?_) (fun c_107 => ?_)
              · skip
                refine xw_iconst dX10_check_124 ?_
                first
                  | exact xw_ls [(0, vR 38), (1, vI z), (2, vI (pu : Int)), (3, vI (k : Int)), (4, vI (pr k))] ⟨rfl, rfl, rfl, rfl, rfl, trivial⟩ (K 1 (Or.inl ⟨rfl, hc σ (pr k).toNat, y1, y3, by rw [y2]; omega, by rcases q8 with ⟨a, _⟩ | ⟨_, b⟩; exact absurd a c_117; exact b⟩))
                  | exact xw_ls [(0, vR 38), (1, vI z), (2, vI (pu : Int)), (3, vI (k : Int)), (4, vI (pr k))] ⟨rfl, rfl, rfl, rfl, rfl, trivial⟩ (K 0 (Or.inr ⟨rfl, Or.inr ⟨hc σ (pr k).toNat, y3, by rcases q8 with ⟨_, b⟩ | ⟨a, _⟩; exact b; exact absurd c_117 (by omega)⟩⟩))
                  | exact xw_ls [(0, vR 38), (1, vI z), (2, vI (pu : Int)), (3, vI (k : Int)), (4, vI (pr k))] ⟨rfl, rfl, rfl, rfl, rfl, trivial⟩ (K 0 (Or.inr ⟨rfl, Or.inl (no (fun ⟨s, x1, x2, x3⟩ => by have c9 : Z (pr k).toNat = 0 := c_107; have x4 : (pr k).toNat = s := (by omega); rw [x4] at c9 q9; omega))⟩))
                  | exact xw_ls [(0, vR 38), (1, vI z), (2, vI (pu : Int)), (3, vI (k : Int)), (4, vI (pr k))] ⟨rfl, rfl, rfl, rfl, rfl, trivial⟩ (K 0 (Or.inr ⟨rfl, Or.inl (no (fun ⟨s, x1, x2, x3⟩ => by omega))⟩))
              · skip
                obtain ⟨y1, y2, y3⟩ := yes (pr k).toNat (by omega) (by omega) (by have c9 : ¬ Z (pr k).toNat = 0 := c_107; omega)
                have q8 := hl9 _ y1
                rw [y2] at q8
                refine xw_aload_n dX10_check_110 rfl ?_
                refine xw_getfield dX10_check_111 fl_X10_109 g38 rfl ?_
                refine xw_iload dX10_check_114 rfl ?_
                refine xw_zald dX10_check_116 h69 (j := (pr k).toNat) (by omega) (by omega) (by decide) ?_
                refine xw_ifeq (tgt := 124) dX10_check_117 (by decide) (by first | assumption | (unfold inI; omega) | (unfold inI at *; omega)) (fun c_117 => ?_) (fun c_117 => ?_)
                · skip
                  refine xw_iconst dX10_check_124 ?_
                  first
                    | exact xw_ls [(0, vR 38), (1, vI z), (2, vI (pu : Int)), (3, vI (k : Int)), (4, vI (pr k))] ⟨rfl, rfl, rfl, rfl, rfl, trivial⟩ (K 1 (Or.inl ⟨rfl, hc σ (pr k).toNat, y1, y3, by rw [y2]; omega, by rcases q8 with ⟨a, _⟩ | ⟨_, b⟩; exact absurd a c_117; exact b⟩))
                    | exact xw_ls [(0, vR 38), (1, vI z), (2, vI (pu : Int)), (3, vI (k : Int)), (4, vI (pr k))] ⟨rfl, rfl, rfl, rfl, rfl, trivial⟩ (K 0 (Or.inr ⟨rfl, Or.inr ⟨hc σ (pr k).toNat, y3, by rcases q8 with ⟨_, b⟩ | ⟨a, _⟩; exact b; exact absurd c_117 (by omega)⟩⟩))
                    | exact xw_ls [(0, vR 38), (1, vI z), (2, vI (pu : Int)), (3, vI (k : Int)), (4, vI (pr k))] ⟨rfl, rfl, rfl, rfl, rfl, trivial⟩ (K 0 (Or.inr ⟨rfl, Or.inl (no (fun ⟨s, x1, x2, x3⟩ => by have c9 : Z (pr k).toNat = 0 := c_107; have x4 : (pr k).toNat = s := (by omega); rw [x4] at c9 q9; omega))⟩))
                    | exact xw_ls [(0, vR 38), (1, vI z), (2, vI (pu : Int)), (3, vI (k : Int)), (4, vI (pr k))] ⟨rfl, rfl, rfl, rfl, rfl, trivial⟩ (K 0 (Or.inr ⟨rfl, Or.inl (no (fun ⟨s, x1, x2, x3⟩ => by omega))⟩))
                · skip
                  refine xw_iconst dX10_check_120 ?_
                  refine xw_goto (tgt := 125) dX10_check_121 (by decide) ?_
                  first
                    | exact xw_ls [(0, vR 38), (1, vI z), (2, vI (pu : Int)), (3, vI (k : Int)), (4, vI (pr k))] ⟨rfl, rfl, rfl, rfl, rfl, trivial⟩ (K 1 (Or.inl ⟨rfl, hc σ (pr k).toNat, y1, y3, by rw [y2]; omega, by rcases q8 with ⟨a, _⟩ | ⟨_, b⟩; exact absurd a c_117; exact b⟩))
                    | exact xw_ls [(0, vR 38), (1, vI z), (2, vI (pu : Int)), (3, vI (k : Int)), (4, vI (pr k))] ⟨rfl, rfl, rfl, rfl, rfl, trivial⟩ (K 0 (Or.inr ⟨rfl, Or.inr ⟨hc σ (pr k).toNat, y3, by rcases q8 with ⟨_, b⟩ | ⟨a, _⟩; exact b; exact absurd c_117 (by omega)⟩⟩))
                    | exact xw_ls [(0, vR 38), (1, vI z), (2, vI (pu : Int)), (3, vI (k : Int)), (4, vI (pr k))] ⟨rfl, rfl, rfl, rfl, rfl, trivial⟩ (K 0 (Or.inr ⟨rfl, Or.inl (no (fun ⟨s, x1, x2, x3⟩ => by have c9 : Z (pr k).toNat = 0 := c_107; have x4 : (pr k).toNat = s := (by omega); rw [x4] at c9 q9; omega))⟩))
                    | exact xw_ls [(0, vR 38), (1, vI z), (2, vI (pu : Int)), (3, vI (k : Int)), (4, vI (pr k))] ⟨rfl, rfl, rfl, rfl, rfl, trivial⟩ (K 0 (Or.inr ⟨rfl, Or.inl (no (fun ⟨s, x1, x2, x3⟩ => by omega))⟩))
      -- the stick goes
      have GO : ∀ (k L q : Nat) (F : xH) (m1 : Nat → Int), q < sz → pr k = (N q : Int) → gR F0 F m0 m1 → m1 49 = (sz : Int) → onF F sz N → bmF F 67 sz N (fun i j => mBar d σ (N i) (N j)) → lfF F sz N L →
          (∀ F2, gR F0 F2 m0 m1 → onF F2 sz N → bmF F2 67 sz N (fun i j => mBar d σ (N i) (N j)) → lfF F2 sz N (xclr L q) → xw g M_X10_check Q 0 0 73 [(0, vR 38), (1, vI z), (2, vI (pu : Int)), (3, vI ((k + 1 : Nat) : Int))] [] n F2) →
          xw g M_X10_check Q 0 0 186 [(0, vR 38), (1, vI z), (2, vI (pu : Int)), (3, vI (k : Int)), (4, vI (pr k))] [] n F := by
        intro k L q F m1 hq9 hp hG m49 hon hb hl K
        obtain ⟨lf, h69, hl9⟩ := id hl
        have nq := hN.2 q hq9
        refine xw_aload_n dX10_check_186 rfl ?_
        refine xw_getfield dX10_check_187 fl_X10_109 hG.2.1 rfl ?_
        refine xw_iload dX10_check_190 rfl ?_
        refine xw_iconst dX10_check_192 ?_
        refine xw_zast dX10_check_193 h69 (j := N q) (by omega) (by omega) (by decide) rfl ?_
        refine xw_iinc dX10_check_194 rfl (by decide) ?_
        refine xw_goto (tgt := 73) dX10_check_197 (by decide) ?_
        exact xw_ls [(0, vR 38), (1, vI z), (2, vI (pu : Int)), (3, vI ((k + 1 : Nat) : Int))] ⟨rfl, rfl, rfl, rfl, trivial⟩ (K _ (gR_up (t := 2) (N := 101) (k := 69) hG (by decide) (by decide) (by decide)) (onF_fr hon rfl) (bmF_fr hb rfl) (lfF_clr (F := F) hN hq9 hl9 rfl))
      have LT0 : z = 0 → ∀ (u k L : Nat) (F : xH) (m1 : Nat → Int), k + u = pu → gR F0 F m0 m1 → m1 49 = (sz : Int) → onF F sz N → bmF F 67 sz N (fun i j => mBar d σ (N i) (N j)) → lfF F sz N L → cnt L sz + k = sz → L < 2 ^ sz → wio av c sz pr u k L = wio av c sz pr pu 0 (2 ^ sz - 1) → xw g M_X10_check Q 0 0 73 [(0, vR 38), (1, vI z), (2, vI (pu : Int)), (3, vI (k : Int))] [] n F := by
        intro z0 u
        induction u with
        | zero =>
          intro k L F m1 hk hG m49 hon hb hl hcn hlt hr
          have h0' := h0 z0 F (Fin F m1 hG).1 (Fin F m1 hG).2
          rw [← hr, wio] at h0'
          refine xw_iload_n dX10_check_73 rfl ?_
          refine xw_iload_n dX10_check_74 rfl ?_
          refine xw_icmpge (tgt := 200) dX10_check_75 (by decide) (by first | assumption | (unfold inI; omega) | (unfold inI at *; omega)) (by first | assumption | (unfold inI; omega) | (unfold inI at *; omega)) (fun c_75 => ?_) (fun c_75 => ?_)
          · skip
            refine xw_iload_n dX10_check_200 rfl ?_
            refine xw_ifne (tgt := 218) dX10_check_201 (by decide) (by first | assumption | (unfold inI; omega) | (unfold inI at *; omega)) (fun c_201 => ?_) (fun c_201 => ?_)
            · skip
              exfalso; omega
            · skip
              refine xw_iload_n dX10_check_204 rfl ?_
              refine xw_aload_n dX10_check_205 rfl ?_
              refine xw_getfield dX10_check_206 fl_X10_285 hG.2.1 rfl ?_
              refine xw_topi (sz : Int) m49 ?_
              refine xw_icmpne (tgt := 216) dX10_check_209 (by decide) (by first | assumption | (unfold inI; omega) | (unfold inI at *; omega)) (by first | assumption | (unfold inI; omega) | (unfold inI at *; omega)) (fun c_209 => ?_) (fun c_209 => ?_)
              · skip
                refine xw_iload_n dX10_check_216 rfl ?_
                exact xw_iret dX10_check_217 rfl (by first
                  | (rw [if_pos (bit0 hlt (cnt_0 sz (by omega)))] at h0'; exact h0')
                  | (rw [if_neg (fun e => by rw [e, cnt_z] at hcn; omega), show k = pu by omega] at h0'; exact h0'))
              · skip
                refine xw_iconst dX10_check_212 ?_
                refine xw_goto (tgt := 217) dX10_check_213 (by decide) ?_
                exact xw_iret dX10_check_217 rfl (by first
                  | (rw [if_pos (bit0 hlt (cnt_0 sz (by omega)))] at h0'; exact h0')
                  | (rw [if_neg (fun e => by rw [e, cnt_z] at hcn; omega), show k = pu by omega] at h0'; exact h0'))
          · skip
            exfalso; omega
        | succ u ih =>
          intro k L F m1 hk hG m49 hon hb hl hcn hlt hr
          refine ST k L F m1 (by omega) hG hl (fun gd hgd => ?_)
          rw [wio] at hr
          have BAD : (xidx c (pr k) 0 sz = -1 ∨ L.testBit (xidx c (pr k) 0 sz).toNat = false ∨ av (xidx c (pr k) 0 sz).toNat &&& L ≠ 0) → Q (.inl (some (vI (k : Int)))) n F := by
            intro hbd
            rw [if_pos hbd] at hr
            rw [hr]
            exact h0 z0 F (Fin F m1 hG).1 (Fin F m1 hG).2
          rcases hgd with ⟨rfl, q, hq9, e1, e2, e3⟩ | ⟨rfl, hbd⟩
          · have h38 := hG.2.1
            have e1' : (xidx c (pr k) 0 sz).toNat = q := by rw [e1]; exact Int.toNat_natCast q
            refine xw_istore dX10_check_125 (by decide) ?_
            refine xw_iload dX10_check_127 rfl ?_
            refine xw_ifeq (tgt := 144) dX10_check_129 (by decide) (by first | assumption | (unfold inI; omega) | (unfold inI at *; omega)) (fun c_129 => ?_) (fun c_129 => ?_)
            · skip
              exfalso; omega
            · skip
              refine xw_iload_n dX10_check_132 rfl ?_
              refine xw_ifne (tgt := 144) dX10_check_133 (by decide) (by first | assumption | (unfold inI; omega) | (unfold inI at *; omega)) (fun c_133 => ?_) (fun c_133 => ?_)
              · skip
                exfalso; omega
              · skip
                refine xw_aload_n dX10_check_136 rfl ?_
                refine xw_iload dX10_check_137 rfl ?_
                refine xw_ls [(0, vR 38), (1, vI z), (2, vI (pu : Int)), (3, vI (k : Int)), (4, vI (pr k))] ⟨rfl, rfl, rfl, rfl, rfl, trivial⟩ ?_
                refine xw_topi (N q : Int) e2 ?_
                refine xw_callV (rc := 0) (rs := 0) (mc2 := 0) (ms2 := 0) (a := 38) (As := [vI (N q : Int)]) (st := []) dX10_check_139 mv_X10_291 h38 rfl rfl (by decide) (by decide) (Nat.le_of_ble_eq_true rfl) rfl (ct_freeOfLeft h38 m49 hN hgn h40 hon hb hl hav hq9 (fun c1 => ?_) (fun c1 => ?_))
                · skip
                  refine xw_istore dX10_check_142 (by decide) ?_
                  refine xw_iload dX10_check_144 rfl ?_
                  refine xw_ifeq (tgt := 179) dX10_check_146 (by decide) (by first | assumption | (unfold inI; omega) | (unfold inI at *; omega)) (fun c_146 => ?_) (fun c_146 => ?_)
                  · skip
                    refine xw_iload dX10_check_179 rfl ?_
                    refine xw_ifne (tgt := 186) dX10_check_181 (by decide) (by first | assumption | (unfold inI; omega) | (unfold inI at *; omega)) (fun c_181 => ?_) (fun c_181 => ?_)
                    · skip
                      first
                        | exact xw_ls [(0, vR 38), (1, vI z), (2, vI (pu : Int)), (3, vI (k : Int)), (4, vI (pr k))] ⟨rfl, rfl, rfl, rfl, rfl, trivial⟩ (GO k L q F m1 hq9 e2 hG m49 hon hb hl (fun F2 a1 a2 a3 a4 => ih (k + 1) (xclr L q) F2 m1 (by omega) a1 m49 a2 a3 a4 (by have := cnt_clr sz hq9 e3; omega) (Nat.lt_of_le_of_lt (xclr_le _ _) hlt) (by rw [← hr, if_neg (fun k9 => by rw [e1'] at k9; rcases k9 with k9 | k9 | k9; omega; rw [e3] at k9; cases k9; exact k9 c1), e1'])))
                        | (exfalso; omega)
                    · skip
                      refine xw_iload_n dX10_check_184 rfl ?_
                      exact xw_iret dX10_check_185 rfl (BAD (by first | exact Or.inr (Or.inr (by rw [e1']; exact c1)) | (exfalso; omega)))
                  · skip
                    refine xw_iload_n dX10_check_149 rfl ?_
                    refine xw_iconst dX10_check_150 ?_
                    refine xw_icmpne (tgt := 179) dX10_check_151 (by decide) (by first | assumption | (unfold inI; omega) | (unfold inI at *; omega)) (by first | assumption | (unfold inI; omega) | (unfold inI at *; omega)) (fun c_151 => ?_) (fun c_151 => ?_)
                    · skip
                      refine xw_iload dX10_check_179 rfl ?_
                      refine xw_ifne (tgt := 186) dX10_check_181 (by decide) (by first | assumption | (unfold inI; omega) | (unfold inI at *; omega)) (fun c_181 => ?_) (fun c_181 => ?_)
                      · skip
                        first
                          | exact xw_ls [(0, vR 38), (1, vI z), (2, vI (pu : Int)), (3, vI (k : Int)), (4, vI (pr k))] ⟨rfl, rfl, rfl, rfl, rfl, trivial⟩ (GO k L q F m1 hq9 e2 hG m49 hon hb hl (fun F2 a1 a2 a3 a4 => ih (k + 1) (xclr L q) F2 m1 (by omega) a1 m49 a2 a3 a4 (by have := cnt_clr sz hq9 e3; omega) (Nat.lt_of_le_of_lt (xclr_le _ _) hlt) (by rw [← hr, if_neg (fun k9 => by rw [e1'] at k9; rcases k9 with k9 | k9 | k9; omega; rw [e3] at k9; cases k9; exact k9 c1), e1'])))
                          | (exfalso; omega)
                      · skip
                        refine xw_iload_n dX10_check_184 rfl ?_
                        exact xw_iret dX10_check_185 rfl (BAD (by first | exact Or.inr (Or.inr (by rw [e1']; exact c1)) | (exfalso; omega)))
                    · skip
                      exfalso; omega
                · skip
                  refine xw_istore dX10_check_142 (by decide) ?_
                  refine xw_iload dX10_check_144 rfl ?_
                  refine xw_ifeq (tgt := 179) dX10_check_146 (by decide) (by first | assumption | (unfold inI; omega) | (unfold inI at *; omega)) (fun c_146 => ?_) (fun c_146 => ?_)
                  · skip
                    refine xw_iload dX10_check_179 rfl ?_
                    refine xw_ifne (tgt := 186) dX10_check_181 (by decide) (by first | assumption | (unfold inI; omega) | (unfold inI at *; omega)) (fun c_181 => ?_) (fun c_181 => ?_)
                    · skip
                      first
                        | exact xw_ls [(0, vR 38), (1, vI z), (2, vI (pu : Int)), (3, vI (k : Int)), (4, vI (pr k))] ⟨rfl, rfl, rfl, rfl, rfl, trivial⟩ (GO k L q F m1 hq9 e2 hG m49 hon hb hl (fun F2 a1 a2 a3 a4 => ih (k + 1) (xclr L q) F2 m1 (by omega) a1 m49 a2 a3 a4 (by have := cnt_clr sz hq9 e3; omega) (Nat.lt_of_le_of_lt (xclr_le _ _) hlt) (by rw [← hr, if_neg (fun k9 => by rw [e1'] at k9; rcases k9 with k9 | k9 | k9; omega; rw [e3] at k9; cases k9; exact k9 c1), e1'])))
                        | (exfalso; omega)
                    · skip
                      refine xw_iload_n dX10_check_184 rfl ?_
                      exact xw_iret dX10_check_185 rfl (BAD (by first | exact Or.inr (Or.inr (by rw [e1']; exact c1)) | (exfalso; omega)))
                  · skip
                    refine xw_iload_n dX10_check_149 rfl ?_
                    refine xw_iconst dX10_check_150 ?_
                    refine xw_icmpne (tgt := 179) dX10_check_151 (by decide) (by first | assumption | (unfold inI; omega) | (unfold inI at *; omega)) (by first | assumption | (unfold inI; omega) | (unfold inI at *; omega)) (fun c_151 => ?_) (fun c_151 => ?_)
                    · skip
                      refine xw_iload dX10_check_179 rfl ?_
                      refine xw_ifne (tgt := 186) dX10_check_181 (by decide) (by first | assumption | (unfold inI; omega) | (unfold inI at *; omega)) (fun c_181 => ?_) (fun c_181 => ?_)
                      · skip
                        first
                          | exact xw_ls [(0, vR 38), (1, vI z), (2, vI (pu : Int)), (3, vI (k : Int)), (4, vI (pr k))] ⟨rfl, rfl, rfl, rfl, rfl, trivial⟩ (GO k L q F m1 hq9 e2 hG m49 hon hb hl (fun F2 a1 a2 a3 a4 => ih (k + 1) (xclr L q) F2 m1 (by omega) a1 m49 a2 a3 a4 (by have := cnt_clr sz hq9 e3; omega) (Nat.lt_of_le_of_lt (xclr_le _ _) hlt) (by rw [← hr, if_neg (fun k9 => by rw [e1'] at k9; rcases k9 with k9 | k9 | k9; omega; rw [e3] at k9; cases k9; exact k9 c1), e1'])))
                          | (exfalso; omega)
                      · skip
                        refine xw_iload_n dX10_check_184 rfl ?_
                        exact xw_iret dX10_check_185 rfl (BAD (by first | exact Or.inr (Or.inr (by rw [e1']; exact c1)) | (exfalso; omega)))
                    · skip
                      exfalso; omega
          · have hbd' : (xidx c (pr k) 0 sz = -1 ∨ L.testBit (xidx c (pr k) 0 sz).toNat = false ∨ av (xidx c (pr k) 0 sz).toNat &&& L ≠ 0) := by
              rcases hbd with e | ⟨q, e, e2⟩
              · exact Or.inl e
              · exact Or.inr (Or.inl (by rw [e, Int.toNat_natCast]; exact e2))
            refine xw_istore dX10_check_125 (by decide) ?_
            refine xw_iload dX10_check_127 rfl ?_
            refine xw_ifeq (tgt := 144) dX10_check_129 (by decide) (by first | assumption | (unfold inI; omega) | (unfold inI at *; omega)) (fun c_129 => ?_) (fun c_129 => ?_)
            · skip
              refine xw_iload dX10_check_144 rfl ?_
              refine xw_ifeq (tgt := 179) dX10_check_146 (by decide) (by first | assumption | (unfold inI; omega) | (unfold inI at *; omega)) (fun c_146 => ?_) (fun c_146 => ?_)
              · skip
                refine xw_iload dX10_check_179 rfl ?_
                refine xw_ifne (tgt := 186) dX10_check_181 (by decide) (by first | assumption | (unfold inI; omega) | (unfold inI at *; omega)) (fun c_181 => ?_) (fun c_181 => ?_)
                · skip
                  exfalso; omega
                · skip
                  refine xw_iload_n dX10_check_184 rfl ?_
                  exact xw_iret dX10_check_185 rfl (BAD hbd')
              · skip
                exfalso; omega
            · skip
              exfalso; omega
      have LT1 : z = 1 → ∀ (u k L S9 : Nat) (fi la : Int) (F : xH) (m1 : Nat → Int), k + u = pu → gR F0 F m0 m1 → m1 49 = (sz : Int) → onF F sz N → bmF F 67 sz N (fun i j => mBar d σ (N i) (N j)) → lfF F sz N L → (∀ i, i < sz → S9.testBit i = !L.testBit i) → (0 < k → ∃ a b, a < sz ∧ b < sz ∧ fi = (a : Int) ∧ pr 0 = (N a : Int) ∧ la = (b : Int) ∧ pr (k - 1) = (N b : Int)) → (∀ r, wir av c sz pr pu u k S9 fi la r → wir av c sz pr pu pu 0 0 (-1) (-1) r) → xw g M_X10_check Q 0 0 73 [(0, vR 38), (1, vI z), (2, vI (pu : Int)), (3, vI (k : Int))] [] n F := by
        intro z1 u
        induction u with
        | zero =>
          intro k L S9 fi la F m1 hk hG m49 hon hb hl hS hfl hr
          have f77 : F 77 = some (aI 40 cp) := (hG.1 77 (by decide)).trans e77
          obtain ⟨br, h67, hb9⟩ := id hb
          have ED : ∀ r, wir av c sz pr pu 0 k S9 fi la r → Q (.inl (some (vI r))) n F := fun r hr9 => h1 z1 F r (hr r hr9) (Fin F m1 hG).1 (Fin F m1 hG).2
          by_cases hp2 : pu < 2
          · have E1 : Q (.inl (some (vI (pu : Int)))) n F := ED _ (by rw [wir, if_pos hp2])
            refine xw_iload_n dX10_check_73 rfl ?_
            refine xw_iload_n dX10_check_74 rfl ?_
            refine xw_icmpge (tgt := 200) dX10_check_75 (by decide) (by first | assumption | (unfold inI; omega) | (unfold inI at *; omega)) (by first | assumption | (unfold inI; omega) | (unfold inI at *; omega)) (fun c_75 => ?_) (fun c_75 => ?_)
            · skip
              refine xw_iload_n dX10_check_200 rfl ?_
              refine xw_ifne (tgt := 218) dX10_check_201 (by decide) (by first | assumption | (unfold inI; omega) | (unfold inI at *; omega)) (fun c_201 => ?_) (fun c_201 => ?_)
              · skip
                refine xw_iload_n dX10_check_218 rfl ?_
                refine xw_iconst dX10_check_219 ?_
                refine xw_icmpge (tgt := 225) dX10_check_220 (by decide) (by first | assumption | (unfold inI; omega) | (unfold inI at *; omega)) (by first | assumption | (unfold inI; omega) | (unfold inI at *; omega)) (fun c_220 => ?_) (fun c_220 => ?_)
                · skip
                  exfalso; omega
                · skip
                  refine xw_iload_n dX10_check_223 rfl ?_
                  exact xw_iret dX10_check_224 rfl E1
              · skip
                exfalso; omega
            · skip
              exfalso; omega
          · obtain ⟨a, b, ha, hb1, e1, e2, e3, e4⟩ := hfl (by omega)
            have na := hN.2 a ha
            have nb9 := hN.2 b hb1
            have q2 := hb9 a b ha hb1
            have ek : k - 1 = pu - 1 := by omega
            rw [ek] at e4
            have c0 := (hcp 0 (by omega)).1
            have c1 := (hcp (pu - 1) (by omega)).1
            have abv9 : abv av sz fi la ↔ mBar d σ (N a) (N b) := by
              unfold abv
              rw [e1, e3, Int.toNat_natCast, Int.toNat_natCast]
              constructor
              · intro x; exact ((hav b a hb1).1 x.2.2).2
              · intro x; exact ⟨by omega, by omega, (hav b a hb1).2 ⟨ha, x⟩⟩
            refine xw_iload_n dX10_check_73 rfl ?_
            refine xw_iload_n dX10_check_74 rfl ?_
            refine xw_icmpge (tgt := 200) dX10_check_75 (by decide) (by first | assumption | (unfold inI; omega) | (unfold inI at *; omega)) (by first | assumption | (unfold inI; omega) | (unfold inI at *; omega)) (fun c_75 => ?_) (fun c_75 => ?_)
            · skip
              refine xw_iload_n dX10_check_200 rfl ?_
              refine xw_ifne (tgt := 218) dX10_check_201 (by decide) (by first | assumption | (unfold inI; omega) | (unfold inI at *; omega)) (fun c_201 => ?_) (fun c_201 => ?_)
              · skip
                refine xw_iload_n dX10_check_218 rfl ?_
                refine xw_iconst dX10_check_219 ?_
                refine xw_icmpge (tgt := 225) dX10_check_220 (by decide) (by first | assumption | (unfold inI; omega) | (unfold inI at *; omega)) (by first | assumption | (unfold inI; omega) | (unfold inI at *; omega)) (fun c_220 => ?_) (fun c_220 => ?_)
                · skip
                  refine xw_aload_n dX10_check_225 rfl ?_
                  refine xw_getfield dX10_check_226 fl_X10_103 hG.2.1 rfl ?_
                  refine xw_bipush (z := 100) dX10_check_229 (by decide) ?_
                  refine xw_aload_n dX10_check_231 rfl ?_
                  refine xw_getfield dX10_check_232 fl_X10_133 hG.2.1 rfl ?_
                  refine xw_iconst dX10_check_235 ?_
                  refine xw_iald dX10_check_236 f77 (j := 0) rfl (by decide) (by decide) ?_
                  refine xw_topi (N a : Int) (c0.trans e2) ?_
                  refine xw_imul dX10_check_237 ?_
                  refine xw_aload_n dX10_check_238 rfl ?_
                  refine xw_getfield dX10_check_239 fl_X10_133 hG.2.1 rfl ?_
                  refine xw_iload_n dX10_check_242 rfl ?_
                  refine xw_iconst dX10_check_243 ?_
                  refine xw_isub dX10_check_244 ?_
                  refine xw_iald dX10_check_245 f77 (j := pu - 1) (by omega) (by omega) (by decide) ?_
                  refine xw_topi (N b : Int) (c1.trans e4) ?_
                  refine xw_iadd dX10_check_246 ?_
                  refine xw_zald dX10_check_247 h67 (j := 100 * N a + N b) (by omega) (by omega) (by decide) ?_
                  refine xw_ifeq (tgt := 255) dX10_check_248 (by decide) (by first | assumption | (unfold inI; omega) | (unfold inI at *; omega)) (fun c_248 => ?_) (fun c_248 => ?_)
                  · skip
                    refine xw_iconst dX10_check_255 ?_
                    exact xw_iret dX10_check_256 rfl (by first
                      | exact ED 0 (by rw [wir, if_neg hp2, if_neg (fun k9 => by rcases q2 with ⟨_, x⟩ | ⟨x, _⟩; exact x (abv9.1 k9); exact absurd c_248 (by omega))])
                      | exact ED (-1) (by rw [wir, if_neg hp2, if_pos (abv9.2 (by rcases q2 with ⟨x, _⟩ | ⟨_, x⟩; exact absurd x c_248; exact x))]))
                  · skip
                    refine xw_iconst dX10_check_251 ?_
                    refine xw_goto (tgt := 256) dX10_check_252 (by decide) ?_
                    exact xw_iret dX10_check_256 rfl (by first
                      | exact ED 0 (by rw [wir, if_neg hp2, if_neg (fun k9 => by rcases q2 with ⟨_, x⟩ | ⟨x, _⟩; exact x (abv9.1 k9); exact absurd c_248 (by omega))])
                      | exact ED (-1) (by rw [wir, if_neg hp2, if_pos (abv9.2 (by rcases q2 with ⟨x, _⟩ | ⟨_, x⟩; exact absurd x c_248; exact x))]))
                · skip
                  exfalso; omega
              · skip
                exfalso; omega
            · skip
              exfalso; omega
        | succ u ih =>
          intro k L S9 fi la F m1 hk hG m49 hon hb hl hS hfl hr
          have f77 : F 77 = some (aI 40 cp) := (hG.1 77 (by decide)).trans e77
          obtain ⟨br, h67, hb9⟩ := id hb
          refine ST k L F m1 (by omega) hG hl (fun gd hgd => ?_)
          have BAD : (xidx c (pr k) 0 sz = -1 ∨ S9.testBit (xidx c (pr k) 0 sz).toNat = true ∨ (0 < k ∧ ¬ abv av sz (xidx c (pr k) 0 sz) la)) → Q (.inl (some (vI (k : Int)))) n F := by
            intro hbd
            exact h1 z1 F k (hr k (by rw [wir]; exact Or.inl ⟨hbd, rfl⟩)) (Fin F m1 hG).1 (Fin F m1 hG).2
          rcases hgd with ⟨rfl, q, hq9, e1, e2, e3⟩ | ⟨rfl, hbd⟩
          · have h38 := hG.2.1
            have e1' : (xidx c (pr k) 0 sz).toNat = q := by rw [e1]; exact Int.toNat_natCast q
            have sq : S9.testBit q = false := by rw [hS q hq9, e3]; rfl
            have nq := hN.2 q hq9
            have OK : (0 < k → abv av sz (xidx c (pr k) 0 sz) la) → xw g M_X10_check Q 0 0 186 [(0, vR 38), (1, vI z), (2, vI (pu : Int)), (3, vI (k : Int)), (4, vI (pr k))] [] n F := by
              intro hab
              refine GO k L q F m1 hq9 e2 hG m49 hon hb hl (fun F2 a1 a2 a3 a4 => ih (k + 1) (xclr L q) (S9 ||| 2 ^ q) (if k = 0 then (q : Int) else fi) (q : Int) F2 m1 (by omega) a1 m49 a2 a3 a4 ?_ ?_ ?_)
              · intro i hi
                rw [Nat.testBit_or, Nat.testBit_two_pow, xclr_bit, hS i hi]
                by_cases e : i = q
                · subst e; simp
                · have e' : q ≠ i := fun x => e x.symm
                  simp [e, e']
              · intro _
                by_cases hk0 : k = 0
                · subst hk0
                  exact ⟨q, q, hq9, hq9, if_pos rfl, e2, rfl, e2⟩
                · obtain ⟨a, b, ha, hb1, x1, x2, x3, x4⟩ := hfl (by omega)
                  exact ⟨a, q, ha, hq9, by rw [if_neg hk0]; exact x1, x2, rfl, e2⟩
              · intro r hr9
                refine hr r ?_
                rw [wir]
                refine Or.inr ⟨fun k9 => ?_, ?_⟩
                · rw [e1'] at k9
                  rcases k9 with k9 | k9 | k9
                  · omega
                  · rw [sq] at k9; cases k9
                  · exact k9.2 (hab k9.1)
                · rw [e1', e1]; exact hr9
            by_cases hk0 : k = 0
            · skip
              refine xw_istore dX10_check_125 (by decide) ?_
              refine xw_iload dX10_check_127 rfl ?_
              refine xw_ifeq (tgt := 144) dX10_check_129 (by decide) (by first | assumption | (unfold inI; omega) | (unfold inI at *; omega)) (fun c_129 => ?_) (fun c_129 => ?_)
              · skip
                exfalso; omega
              · skip
                refine xw_iload_n dX10_check_132 rfl ?_
                refine xw_ifne (tgt := 144) dX10_check_133 (by decide) (by first | assumption | (unfold inI; omega) | (unfold inI at *; omega)) (fun c_133 => ?_) (fun c_133 => ?_)
                · skip
                  refine xw_iload dX10_check_144 rfl ?_
                  refine xw_ifeq (tgt := 179) dX10_check_146 (by decide) (by first | assumption | (unfold inI; omega) | (unfold inI at *; omega)) (fun c_146 => ?_) (fun c_146 => ?_)
                  · skip
                    exfalso; omega
                  · skip
                    refine xw_iload_n dX10_check_149 rfl ?_
                    refine xw_iconst dX10_check_150 ?_
                    refine xw_icmpne (tgt := 179) dX10_check_151 (by decide) (by first | assumption | (unfold inI; omega) | (unfold inI at *; omega)) (by first | assumption | (unfold inI; omega) | (unfold inI at *; omega)) (fun c_151 => ?_) (fun c_151 => ?_)
                    · skip
                      exfalso; omega
                    · skip
                      refine xw_iload_n dX10_check_154 rfl ?_
                      refine xw_ifle (tgt := 179) dX10_check_155 (by decide) (by first | assumption | (unfold inI; omega) | (unfold inI at *; omega)) (fun c_155 => ?_) (fun c_155 => ?_)
                      · skip
                        refine xw_iload dX10_check_179 rfl ?_
                        refine xw_ifne (tgt := 186) dX10_check_181 (by decide) (by first | assumption | (unfold inI; omega) | (unfold inI at *; omega)) (fun c_181 => ?_) (fun c_181 => ?_)
                        · skip
                          exact xw_ls [(0, vR 38), (1, vI z), (2, vI (pu : Int)), (3, vI (k : Int)), (4, vI (pr k))] ⟨rfl, rfl, rfl, rfl, rfl, trivial⟩ (OK (fun x => by omega))
                        · skip
                          exfalso; omega
                      · skip
                        exfalso; omega
                · skip
                  exfalso; omega
            · obtain ⟨a, b, ha, hb1, x1, x2, x3, x4⟩ := hfl (by omega)
              have nb9 := hN.2 b hb1
              have ck := (hcp (k - 1) (by omega)).1
              have q2 := hb9 q b hq9 hb1
              have abv9 : abv av sz (xidx c (pr k) 0 sz) la ↔ mBar d σ (N q) (N b) := by
                unfold abv
                rw [e1, x3, Int.toNat_natCast, Int.toNat_natCast]
                constructor
                · intro x; exact ((hav b q hb1).1 x.2.2).2
                · intro x; exact ⟨by omega, by omega, (hav b q hb1).2 ⟨hq9, x⟩⟩
              refine xw_istore dX10_check_125 (by decide) ?_
              refine xw_iload dX10_check_127 rfl ?_
              refine xw_ifeq (tgt := 144) dX10_check_129 (by decide) (by first | assumption | (unfold inI; omega) | (unfold inI at *; omega)) (fun c_129 => ?_) (fun c_129 => ?_)
              · skip
                exfalso; omega
              · skip
                refine xw_iload_n dX10_check_132 rfl ?_
                refine xw_ifne (tgt := 144) dX10_check_133 (by decide) (by first | assumption | (unfold inI; omega) | (unfold inI at *; omega)) (fun c_133 => ?_) (fun c_133 => ?_)
                · skip
                  refine xw_iload dX10_check_144 rfl ?_
                  refine xw_ifeq (tgt := 179) dX10_check_146 (by decide) (by first | assumption | (unfold inI; omega) | (unfold inI at *; omega)) (fun c_146 => ?_) (fun c_146 => ?_)
                  · skip
                    exfalso; omega
                  · skip
                    refine xw_iload_n dX10_check_149 rfl ?_
                    refine xw_iconst dX10_check_150 ?_
                    refine xw_icmpne (tgt := 179) dX10_check_151 (by decide) (by first | assumption | (unfold inI; omega) | (unfold inI at *; omega)) (by first | assumption | (unfold inI; omega) | (unfold inI at *; omega)) (fun c_151 => ?_) (fun c_151 => ?_)
                    · skip
                      exfalso; omega
                    · skip
                      refine xw_iload_n dX10_check_154 rfl ?_
                      refine xw_ifle (tgt := 179) dX10_check_155 (by decide) (by first | assumption | (unfold inI; omega) | (unfold inI at *; omega)) (fun c_155 => ?_) (fun c_155 => ?_)
                      · skip
                        exfalso; omega
                      · skip
                        refine xw_aload_n dX10_check_158 rfl ?_
                        refine xw_getfield dX10_check_159 fl_X10_103 h38 rfl ?_
                        refine xw_bipush (z := 100) dX10_check_162 (by decide) ?_
                        refine xw_iload dX10_check_164 rfl ?_
                        refine xw_imul dX10_check_166 ?_
                        refine xw_aload_n dX10_check_167 rfl ?_
                        refine xw_getfield dX10_check_168 fl_X10_133 h38 rfl ?_
                        refine xw_iload_n dX10_check_171 rfl ?_
                        refine xw_iconst dX10_check_172 ?_
                        refine xw_isub dX10_check_173 ?_
                        refine xw_iald dX10_check_174 f77 (j := k - 1) (by omega) (by omega) (by decide) ?_
                        refine xw_topi (N b : Int) (ck.trans x4) ?_
                        refine xw_iadd dX10_check_175 ?_
                        refine xw_zald dX10_check_176 h67 (j := 100 * N q + N b) (by omega) (by omega) (by decide) ?_
                        refine xw_istore dX10_check_177 (by decide) ?_
                        refine xw_iload dX10_check_179 rfl ?_
                        refine xw_ifne (tgt := 186) dX10_check_181 (by decide) (by first | assumption | (unfold inI; omega) | (unfold inI at *; omega)) (fun c_181 => ?_) (fun c_181 => ?_)
                        · skip
                          first
                            | exact xw_ls [(0, vR 38), (1, vI z), (2, vI (pu : Int)), (3, vI (k : Int)), (4, vI (pr k))] ⟨rfl, rfl, rfl, rfl, rfl, trivial⟩ (OK (fun _ => abv9.2 (by rcases q2 with ⟨x, _⟩ | ⟨_, x⟩; exact absurd x c_181; exact x)))
                        · skip
                          refine xw_iload_n dX10_check_184 rfl ?_
                          exact xw_iret dX10_check_185 rfl (BAD (Or.inr (Or.inr ⟨by omega, fun x => by rcases q2 with ⟨_, y9⟩ | ⟨y9, _⟩; exact y9 (abv9.1 x); exact absurd c_181 (by omega)⟩)))
                · skip
                  exfalso; omega
          · have hbd' : (xidx c (pr k) 0 sz = -1 ∨ S9.testBit (xidx c (pr k) 0 sz).toNat = true ∨ (0 < k ∧ ¬ abv av sz (xidx c (pr k) 0 sz) la)) := by
              rcases hbd with e | ⟨q, e, e2⟩
              · exact Or.inl e
              · rcases xidx_in c (pr k) sz 0 with ⟨x1, _⟩ | ⟨p, _, p2, p3, _⟩
                · exact Or.inl x1
                · have eq : q = p := by omega
                  exact Or.inr (Or.inl (by rw [e, Int.toNat_natCast, hS q (by omega), e2]; rfl))
            refine xw_istore dX10_check_125 (by decide) ?_
            refine xw_iload dX10_check_127 rfl ?_
            refine xw_ifeq (tgt := 144) dX10_check_129 (by decide) (by first | assumption | (unfold inI; omega) | (unfold inI at *; omega)) (fun c_129 => ?_) (fun c_129 => ?_)
            · skip
              refine xw_iload dX10_check_144 rfl ?_
              refine xw_ifeq (tgt := 179) dX10_check_146 (by decide) (by first | assumption | (unfold inI; omega) | (unfold inI at *; omega)) (fun c_146 => ?_) (fun c_146 => ?_)
              · skip
                refine xw_iload dX10_check_179 rfl ?_
                refine xw_ifne (tgt := 186) dX10_check_181 (by decide) (by first | assumption | (unfold inI; omega) | (unfold inI at *; omega)) (fun c_181 => ?_) (fun c_181 => ?_)
                · skip
                  exfalso; omega
                · skip
                  refine xw_iload_n dX10_check_184 rfl ?_
                  exact xw_iret dX10_check_185 rfl (BAD hbd')
              · skip
                exfalso; omega
            · skip
              exfalso; omega
      have LA : ∀ (t i : Nat) (F : xH) (m1 lf : Nat → Int), i + t = sz → gR F0 F m0 m1 → m1 49 = (sz : Int) → onF F sz N → bmF F 67 sz N (fun i j => mBar d σ (N i) (N j)) → F 69 = some (aZ 101 lf) → (∀ i', i' < i → lf (N i') = 1) → xw g M_X10_check Q 0 0 45 [(0, vR 38), (1, vI z), (2, vI (pu : Int)), (3, vI (i : Int))] [] n F := by
        intro t
        induction t with
        | zero =>
          intro i F m1 lf hi hG m49 hon hb h69 hl
          have h38 := hG.2.1
          have hl9 : lfF F sz N (2 ^ sz - 1) := ⟨lf, h69, fun i' hi' => Or.inr ⟨hl i' (by omega), by rw [Nat.testBit_two_pow_sub_one]; exact decide_eq_true hi'⟩⟩
          refine xw_iload_n dX10_check_45 rfl ?_
          refine xw_aload_n dX10_check_46 rfl ?_
          refine xw_getfield dX10_check_47 fl_X10_285 h38 rfl ?_
          refine xw_topi (sz : Int) m49 ?_
          refine xw_icmpge (tgt := 71) dX10_check_50 (by decide) (by first | assumption | (unfold inI; omega) | (unfold inI at *; omega)) (by first | assumption | (unfold inI; omega) | (unfold inI at *; omega)) (fun c_50 => ?_) (fun c_50 => ?_)
          · skip
            refine xw_iconst dX10_check_71 ?_
            refine xw_istore_n dX10_check_72 (by decide) ?_
            exact xw_ls [(0, vR 38), (1, vI z), (2, vI (pu : Int)), (3, vI ((0 : Nat) : Int))] ⟨rfl, rfl, rfl, rfl, trivial⟩ (by
              rcases hz01 with z0 | z1
              · exact LT0 z0 pu 0 (2 ^ sz - 1) F m1 (by omega) hG m49 hon hb hl9 (by rw [cnt_all sz sz (Nat.le_refl _)]; rfl) (by have := Nat.two_pow_pos sz; omega) rfl
              · exact LT1 z1 pu 0 (2 ^ sz - 1) 0 (-1) (-1) F m1 (by omega) hG m49 hon hb hl9 (fun i hi => by rw [Nat.zero_testBit, Nat.testBit_two_pow_sub_one, decide_eq_true hi]; rfl) (fun x => absurd x (Nat.lt_irrefl 0)) (fun r x => x))
          · skip
            exfalso; omega
        | succ t ih =>
          intro i F m1 lf hi hG m49 hon hb h69 hl
          have h38 := hG.2.1
          obtain ⟨on, h70, hon9⟩ := id hon
          have ni := hN.2 i (by omega)
          refine xw_iload_n dX10_check_45 rfl ?_
          refine xw_aload_n dX10_check_46 rfl ?_
          refine xw_getfield dX10_check_47 fl_X10_285 h38 rfl ?_
          refine xw_topi (sz : Int) m49 ?_
          refine xw_icmpge (tgt := 71) dX10_check_50 (by decide) (by first | assumption | (unfold inI; omega) | (unfold inI at *; omega)) (by first | assumption | (unfold inI; omega) | (unfold inI at *; omega)) (fun c_50 => ?_) (fun c_50 => ?_)
          · skip
            exfalso; omega
          · skip
            refine xw_aload_n dX10_check_53 rfl ?_
            refine xw_getfield dX10_check_54 fl_X10_109 h38 rfl ?_
            refine xw_aload_n dX10_check_57 rfl ?_
            refine xw_getfield dX10_check_58 fl_X10_112 h38 rfl ?_
            refine xw_iload_n dX10_check_61 rfl ?_
            refine xw_iald dX10_check_62 h70 (j := i) rfl (by omega) (by decide) ?_
            refine xw_topi (N i : Int) (hon9 i (by omega)) ?_
            refine xw_iconst dX10_check_63 ?_
            refine xw_zast dX10_check_64 h69 (j := N i) rfl (by omega) (by decide) rfl ?_
            refine xw_iinc dX10_check_65 rfl (by decide) ?_
            refine xw_goto (tgt := 45) dX10_check_68 (by decide) ?_
            exact xw_ls [(0, vR 38), (1, vI z), (2, vI (pu : Int)), (3, vI ((i + 1 : Nat) : Int))] ⟨rfl, rfl, rfl, rfl, trivial⟩ (ih (i + 1) _ m1 _ (by omega) (gR_up (t := 2) (N := 101) (k := 69) hG (by decide) (by decide) (by decide)) m49 (onF_fr hon rfl) (bmF_fr hb rfl) rfl (fun i' hi' => by
              by_cases e : i' = i
              · subst e; rw [xui_s]
              · rw [xui_n _ _ (fun k9 => e (onO_inj hN (by omega) (by omega) k9))]; exact hl i' (by omega)))
      refine xw_aload_n dX10_check_29 rfl ?_
      refine xw_getfield dX10_check_30 fl_X10_340 h38 rfl ?_
      refine xw_topi (pu : Int) n60 ?_
      refine xw_istore_n dX10_check_33 (by decide) ?_
      refine xw_aload_n dX10_check_34 rfl ?_
      refine xw_iconst dX10_check_35 ?_
      refine xw_putfield dX10_check_36 (fp_X10_340 _) h38 rfl rfl ?_
      rw [xmd_60]
      rw [← hF0e]
      refine xw_aload_n dX10_check_39 rfl ?_
      refine xw_callV (rc := 0) (rs := 0) (mc2 := 0) (ms2 := 0) (a := 38) (As := []) (st := []) dX10_check_40 mv_X10_288 hE0.1 rfl rfl (by decide) (by decide) (Nat.le_of_ble_eq_true rfl) rfl (ct_findBars hE0 hsh hN h40 (fun F1 m1 hG m49 hon hb => ?_))
      obtain ⟨lf, h69⟩ := msh_at hG.2.2.2 (k := 69) (t := 2) (N := 101) (by decide)
      refine xw_iconst dX10_check_43 ?_
      refine xw_istore_n dX10_check_44 (by decide) ?_
      exact xw_ls [(0, vR 38), (1, vI z), (2, vI (pu : Int)), (3, vI ((0 : Nat) : Int))] ⟨rfl, rfl, rfl, rfl, trivial⟩ (LA sz 0 F1 m1 lf (by omega) hG m49 hon hb h69 (fun i' hi' => absurd hi' (Nat.not_lt_zero _)))
    have A : ∀ gd : Int, (gd = 0 ∨ gd = 1) → (gd = 1 → (z = 0 ∨ z = 1)) → (gd = 0 → ¬ (z = 0 ∨ z = 1)) → xw g M_X10_check Q 0 0 20 [(0, vR 38), (1, vI z)] [vI gd, vR 38] n Fa := by
      intro gd hg q1 q2
      refine xw_iconst dX10_check_20 ?_
      refine xw_callV (rc := 0) (rs := 0) (mc2 := 0) (ms2 := 0) (a := 38) (As := [vI gd, vI 1]) (st := []) dX10_check_21 mv_X10_136 h38 rfl rfl (by decide) (by decide) (Nat.le_of_ble_eq_true rfl) rfl (ct_may h38 n0 hg (by decide) (by unfold inI; omega) (fun e => ?_) (fun e => ?_))
      · skip
        refine xw_ifne (tgt := 29) dX10_check_24 (by decide) (by unfold inI; omega) (fun _ => ?_) (fun c => absurd c (by decide))
        exact G (q1 e)
      · skip
        refine xw_ifne (tgt := 29) dX10_check_24 (by decide) (by unfold inI; omega) (fun c => absurd c (by decide)) (fun _ => ?_)
        refine xw_iconst dX10_check_27 ?_
        exact xw_iret dX10_check_28 rfl (hx1 (q2 e) _ T9.1 (kC_tr kFa T9.2))
    refine xw_aload_n dX10_check_5 rfl ?_
    refine xw_iload_n dX10_check_6 rfl ?_
    refine xw_ifeq (tgt := 15) dX10_check_7 (by decide) (by first | assumption | (unfold inI; omega) | (unfold inI at *; omega)) (fun c_7 => ?_) (fun c_7 => ?_)
    · skip
      refine xw_iconst dX10_check_15 ?_
      refine xw_goto (tgt := 20) dX10_check_16 (by decide) ?_
      first | exact A 1 (Or.inr rfl) (fun _ => by omega) (fun q => absurd q (by decide)) | exact A 0 (Or.inl rfl) (fun q => absurd q (by decide)) (fun _ => by omega)
    · skip
      refine xw_iload_n dX10_check_10 rfl ?_
      refine xw_iconst dX10_check_11 ?_
      refine xw_icmpne (tgt := 19) dX10_check_12 (by decide) (by first | assumption | (unfold inI; omega) | (unfold inI at *; omega)) (by first | assumption | (unfold inI; omega) | (unfold inI at *; omega)) (fun c_12 => ?_) (fun c_12 => ?_)
      · skip
        refine xw_iconst dX10_check_19 ?_
        first | exact A 1 (Or.inr rfl) (fun _ => by omega) (fun q => absurd q (by decide)) | exact A 0 (Or.inl rfl) (fun q => absurd q (by decide)) (fun _ => by omega)
      · skip
        refine xw_iconst dX10_check_15 ?_
        refine xw_goto (tgt := 20) dX10_check_16 (by decide) ?_
        first | exact A 1 (Or.inr rfl) (fun _ => by omega) (fun q => absurd q (by decide)) | exact A 0 (Or.inl rfl) (fun q => absurd q (by decide)) (fun _ => by omega)
  obtain ⟨m, h38, hm, _⟩ := id h
  refine xw_aload_n dX10_check_0 rfl ?_
  refine xw_iconst dX10_check_1 ?_
  refine xw_putfield dX10_check_2 (fp_X10_1 _) h38 rfl rfl ?_
  rw [xmd_0]
  exact S _ (MS_th 0 h h38 hm).1 (MS_th 0 h h38 hm).2
end C99
