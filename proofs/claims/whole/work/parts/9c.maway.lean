/-! the model: how far away -/
def pth (E : Nat → Nat → Prop) (p : Nat) : Nat → Nat → Prop
  | 0, j => j = p
  | v + 1, j => ∃ i, pth E p v i ∧ E i j
def DS (E : Nat → Nat → Prop) (p j v : Nat) : Prop := pth E p v j ∧ ∀ w, w < v → ¬ pth E p w j
def SH (E : Nat → Nat → Prop) (p v : Nat) : Prop := 1 ≤ v ∧ pth E p v p ∧ ∀ w, 1 ≤ w → w < v → ¬ pth E p w p
def kE (sz : Nat) (kn : Nat → Int) (k : Int) (B : Nat → Nat → Prop) : Nat → Nat → Prop := fun i j => (i < sz ∧ kn i = k) ∧ (j < sz ∧ kn j = k) ∧ B i j
theorem DS_u {E : Nat → Nat → Prop} {p j v w : Nat} (h : DS E p j v) (h1 : DS E p j w) : v = w := by
  have a : ¬ v < w := fun x => h1.2 v x h.1
  have b : ¬ w < v := fun x => h.2 w x h1.1
  omega
theorem DS_ex {E : Nat → Nat → Prop} {p j : Nat} : ∀ v, pth E p v j → ∃ w, w ≤ v ∧ DS E p j w := by
  intro v
  induction v using Nat.strongRecOn with
  | ind v ih =>
    intro h
    by_cases e : ∃ w, w < v ∧ pth E p w j
    · obtain ⟨w, hw, hp⟩ := e
      obtain ⟨x, hx, hd⟩ := ih w hw hp
      exact ⟨x, by omega, hd⟩
    · exact ⟨v, Nat.le_refl _, h, fun w hw hp => e ⟨w, hw, hp⟩⟩
def awF (F : xH) (sz : Nat) (N : Nat → Nat) (aw : Nat → Int) : Prop := ∃ aa, F 74 = some (aI 101 aa) ∧ ∀ i, i < sz → aa (N i) = aw i
theorem awF_fr {F F1 : xH} {sz : Nat} {N : Nat → Nat} {L : Nat → Int} (h : awF F sz N L) (hf : F1 74 = F 74) : awF F1 sz N L := by obtain ⟨on, a, b⟩ := h; exact ⟨on, hf.trans a, b⟩
def awOK (E : Nat → Nat → Prop) (p sz : Nat) (aw : Nat → Int) : Prop := ∀ j, j < sz → (aw j = -1 ∧ ∀ v, ¬ pth E p v j) ∨ ∃ v : Nat, aw j = (v : Int) ∧ v ≤ 40 ∧ DS E p j v
def cnN (aw : Nat → Int) : Nat → Nat
  | 0 => 0
  | k + 1 => cnN aw k + (if aw k = -1 then 1 else 0)
theorem cnN_cg {l l1 : Nat → Int} : ∀ k, (∀ i, i < k → l i = l1 i) → cnN l k = cnN l1 k := by
  intro k
  induction k with
  | zero => intro _; rfl
  | succ k ih => intro h; unfold cnN; rw [ih (fun i hi => h i (by omega)), h k (by omega)]
theorem cnN_up {l : Nat → Int} {j : Nat} {x : Int} (hl : l j = -1) (hx : x ≠ -1) : ∀ k, j < k → cnN (xui l j x) k + 1 = cnN l k := by
  intro k
  induction k with
  | zero => intro h; omega
  | succ k ih =>
    intro h
    unfold cnN
    by_cases e : j = k
    · subst e
      rw [xui_s, cnN_cg (l := xui l j x) (l1 := l) j (fun i hi => xui_n _ _ (by omega)), if_neg hx, if_pos hl]
    · rw [xui_n _ _ (fun z => e z.symm)]
      have := ih (by omega)
      omega
theorem cnN_le (l : Nat → Int) : ∀ k, cnN l k ≤ k := by
  intro k
  induction k with
  | zero => exact Nat.le_refl _
  | succ k ih => unfold cnN; split <;> omega
theorem cnN_lt {l : Nat → Int} {j : Nat} (hl : l j ≠ -1) : ∀ k, j < k → cnN l k < k := by
  intro k
  induction k with
  | zero => intro h; omega
  | succ k ih =>
    intro h
    unfold cnN
    by_cases e : j = k
    · subst e; rw [if_neg hl]; have := cnN_le l j; omega
    · have := ih (by omega); split <;> omega
/-- a pass's hold: what is said is right, what is as near as n is said -/
def awI (E : Nat → Nat → Prop) (p sz n9 b9 : Nat) (aw : Nat → Int) : Prop := (∀ j, j < sz → aw j = -1 ∨ ∃ v : Nat, aw j = (v : Int) ∧ v ≤ b9 ∧ v ≤ sz ∧ DS E p j v) ∧ ∀ j, j < sz → ∀ v, v ≤ n9 → pth E p v j → aw j ≠ -1
theorem awI_end {E : Nat → Nat → Prop} {p sz n9 : Nat} {aw : Nat → Int} (hEs : ∀ i j, E i j → i < sz ∧ j < sz) (h40 : sz ≤ 40) (hI : awI E p sz n9 n9 aw) (hall : ∀ a b, aw a = (n9 : Int) → E a b → aw b ≠ -1) : awOK E p sz aw := by
  have key : ∀ v j, j < sz → pth E p v j → aw j ≠ -1 := by
    intro v
    induction v with
    | zero => intro j hj h0; exact hI.2 j hj 0 (Nat.zero_le _) h0
    | succ v ih =>
      intro j hj h1
      obtain ⟨i, hi, he⟩ := h1
      have hisz := (hEs i j he).1
      rcases hI.1 i hisz with x | ⟨w, hw, hw1, _, hw2⟩
      · exact absurd x (ih i hisz hi)
      · by_cases e1 : w + 1 ≤ n9
        · exact hI.2 j hj (w + 1) e1 ⟨i, hw2.1, he⟩
        · exact hall i j (by rw [hw]; congr 1; omega) he
  intro j hj
  rcases hI.1 j hj with x | ⟨w, hw, hw1, hw3, hw2⟩
  · exact Or.inl ⟨x, fun v hv => key v j hj hv x⟩
  · exact Or.inr ⟨w, hw, by omega, hw2⟩
theorem awI_nx {E : Nat → Nat → Prop} {p sz n9 : Nat} {aw : Nat → Int} (hEs : ∀ i j, E i j → i < sz ∧ j < sz) (hI : awI E p sz n9 (n9 + 1) aw) (hall : ∀ a b, aw a = (n9 : Int) → E a b → aw b ≠ -1) : awI E p sz (n9 + 1) (n9 + 1) aw := by
  refine ⟨hI.1, fun j hj v hv hp => ?_⟩
  by_cases e : v ≤ n9
  · exact hI.2 j hj v e hp
  · have e2 : v = n9 + 1 := by omega
    subst e2
    obtain ⟨i, hi, he⟩ := hp
    have hisz := (hEs i j he).1
    rcases hI.1 i hisz with x | ⟨w, hw, _, _, hw2⟩
    · exact absurd x (hI.2 i hisz n9 (Nat.le_refl _) hi)
    · have hle : w ≤ n9 := Nat.le_of_not_lt (fun z => hw2.2 n9 z hi)
      by_cases e3 : w = n9
      · exact hall i j (by rw [hw, e3]) he
      · exact hI.2 j hj (w + 1) (by omega) ⟨i, hw2.1, he⟩
section C9c
variable {g : xG} {y : xM} {Q : xP} {n : Nat} {f : xH} {gn : Nat} {σ : Nat → xSt} {m : Nat → Int} {sz : Nat} {N : Nat → Nat} {B : Nat → Nat → Prop} {kn : Nat → Int} {kc : Nat} {k : Int}
theorem kS_fr {F F1 : xH} {m1 m2 : Nat → Int} (h : kS F m1 sz N B kn kc) (h70 : F1 70 = F 70) (h67 : F1 67 = F 67) (h72 : F1 72 = F 72) (h49 : m2 49 = m1 49) (h50 : m2 50 = m1 50) : kS F1 m2 sz N B kn kc := ⟨h49.trans h.1, onF_fr h.2.1 h70, bmF_fr h.2.2.1 h67, h50.trans h.2.2.2.1, knF_fr h.2.2.2.2 h72⟩
set_option maxHeartbeats 16000000 in
theorem ct_findAway {p : Nat} (hg : f 38 = some (oMd m)) (hsh : msh f) (hN : onO gn σ sz N) (hgn : gn ≤ 100) (h40 : sz ≤ 40) (hS : kS f m sz N B kn kc) (hkn : ∀ i, i < sz → inI (kn i)) (hk : inI k) (hp : p < sz) (hkp : kn p = k) (hq : ∀ F aw, gR f F m m → kS F m sz N B kn kc → awF F sz N aw → awOK (kE sz kn k B) p sz aw → fr [74] f F → Q (.inl none) n F) : xct g M_X10_findAway 0 0 [vR 38, vI (N p : Int), vI k] n f Q := by
  refine xct_of rfl rfl (Nat.le_of_ble_eq_true rfl) ?_
  obtain ⟨E, hE⟩ : ∃ E, E = kE sz kn k B := ⟨_, rfl⟩
  rw [← hE] at hq
  have np := hN.2 p hp
  have m49 := hS.1
  have hEs : ∀ i j, E i j → i < sz ∧ j < sz := fun i j h => by rw [hE] at h; exact ⟨h.1.1, h.2.1.1⟩
  have hEi : ∀ i j, i < sz → j < sz → kn i = k → kn j = k → B i j → E i j := fun i j a b c e x => by rw [hE]; exact ⟨⟨a, c⟩, ⟨b, e⟩, x⟩
  have LJ : ∀ (t j i n9 : Nat) (mo : Int) (aw aw0 : Nat → Int) (F : xH), j + t = sz → i < sz → gR f F m m → kS F m sz N B kn kc → fr [74] f F → awF F sz N aw → awI E p sz n9 (n9 + 1) aw → aw i = (n9 : Int) → kn i = k → n9 + cnN aw0 sz ≤ sz → ((mo = 0 ∧ aw = aw0) ∨ (mo = 1 ∧ cnN aw sz < cnN aw0 sz)) → (∀ a b, (a < i ∨ (a = i ∧ b < j)) → aw a = (n9 : Int) → E a b → aw b ≠ -1) →
      (∀ (mo2 : Int) (aw2 : Nat → Int) (F2 : xH), gR f F2 m m → kS F2 m sz N B kn kc → fr [74] f F2 → awF F2 sz N aw2 → awI E p sz n9 (n9 + 1) aw2 → ((mo2 = 0 ∧ aw2 = aw0) ∨ (mo2 = 1 ∧ cnN aw2 sz < cnN aw0 sz)) → (∀ a b, a < i + 1 → aw2 a = (n9 : Int) → E a b → aw2 b ≠ -1) → xw g M_X10_findAway Q 0 0 56 [(0, vR 38), (1, vI (N p : Int)), (2, vI k), (3, vI mo2), (4, vI (n9 : Int)), (5, vI ((i + 1 : Nat) : Int))] [] n F2) →
      xw g M_X10_findAway Q 0 0 104 [(0, vR 38), (1, vI (N p : Int)), (2, vI k), (3, vI mo), (4, vI (n9 : Int)), (5, vI (i : Int)), (6, vI (j : Int))] [] n F := by
    intro t
    induction t with
    | zero =>
      intro j i n9 mo aw aw0 F hj hi hG hK hfr ha hI hai hki hn hmo hall K
      have h38 := hG.2.1
      refine xw_iload dX10_findAway_104 rfl ?_
      refine xw_aload_n dX10_findAway_106 rfl ?_
      refine xw_getfield dX10_findAway_107 fl_X10_285 h38 rfl ?_
      refine xw_topi (sz : Int) m49 ?_
      refine xw_icmpge (tgt := 198) dX10_findAway_110 (by decide) (by first | assumption | (unfold inI; omega) | (unfold inI at *; omega)) (by first | assumption | (unfold inI; omega) | (unfold inI at *; omega)) (fun c_110 => ?_) (fun c_110 => ?_)
      · skip
        refine xw_iinc dX10_findAway_198 rfl (by decide) ?_
        refine xw_goto (tgt := 56) dX10_findAway_201 (by decide) ?_
        exact xw_ls [(0, vR 38), (1, vI (N p : Int)), (2, vI k), (3, vI mo), (4, vI (n9 : Int)), (5, vI ((i + 1 : Nat) : Int))] ⟨rfl, rfl, rfl, rfl, rfl, rfl, trivial⟩ (K mo aw F hG hK hfr ha hI hmo (fun a b h1 h2 h3 => hall a b (by have := (hEs a b h3).2; omega) h2 h3))
      · skip
        exfalso; omega
    | succ t ih =>
      intro j i n9 mo aw aw0 F hj hi hG hK hfr ha hI hai hki hn hmo hall K
      have h38 := hG.2.1
      obtain ⟨on, h70, hon9⟩ := id hK.2.1
      obtain ⟨br, h67, hb9⟩ := id hK.2.2.1
      obtain ⟨ko, h72, hk9⟩ := id hK.2.2.2.2
      obtain ⟨aa, h74, ha9⟩ := id ha
      have ni := hN.2 i hi
      have nj := hN.2 j (by omega)
      have q1 := hb9 i j hi (by omega)
      have kj := hk9 j (by omega)
      have aj := ha9 j (by omega)
      have ikj : inI (ko (N j)) := by rw [kj]; exact hkn j (by omega)
      have iaj : inI (aa (N j)) := by
        rw [aj]
        rcases hI.1 j (by omega) with x | ⟨v, x, _, x2, _⟩
        · rw [x]; unfold inI; omega
        · rw [x]; unfold inI; omega
      have no : (E i j → aw j ≠ -1) → xw g M_X10_findAway Q 0 0 192 [(0, vR 38), (1, vI (N p : Int)), (2, vI k), (3, vI mo), (4, vI (n9 : Int)), (5, vI (i : Int)), (6, vI (j : Int))] [] n F := by
        intro hn9
        refine xw_iinc dX10_findAway_192 rfl (by decide) ?_
        refine xw_goto (tgt := 104) dX10_findAway_195 (by decide) ?_
        exact xw_ls [(0, vR 38), (1, vI (N p : Int)), (2, vI k), (3, vI mo), (4, vI (n9 : Int)), (5, vI (i : Int)), (6, vI ((j + 1 : Nat) : Int))] ⟨rfl, rfl, rfl, rfl, rfl, rfl, rfl, trivial⟩ (ih (j + 1) i n9 mo aw aw0 F (by omega) hi hG hK hfr ha hI hai hki hn hmo (fun a b h1 h2 h3 => by
          by_cases e : a = i ∧ b = j
          · obtain ⟨rfl, rfl⟩ := e; exact hn9 h3
          · exact hall a b (by omega) h2 h3) K)
      have yes : kn j = k → aw j = -1 → B i j → xw g M_X10_findAway Q 0 0 192 [(0, vR 38), (1, vI (N p : Int)), (2, vI k), (3, vI 1), (4, vI (n9 : Int)), (5, vI (i : Int)), (6, vI (j : Int))] [] n (xup F 74 (aI 101 (xui aa (N j) ((n9 + 1 : Nat) : Int)))) := by
        intro hkj haj hbij
        have hEij := hEi i j hi (by omega) hki hkj hbij
        have up := cnN_up (l := aw) (j := j) (x := ((n9 + 1 : Nat) : Int)) haj (by omega) sz (by omega)
        have hle : cnN aw sz ≤ cnN aw0 sz := by rcases hmo with ⟨_, x⟩ | ⟨_, x⟩; rw [x]; exact Nat.le_refl _; omega
        have hji : i ≠ j := fun e => by rw [← e, hai] at haj; omega
        have pi : pth E p n9 i := by
          rcases hI.1 i hi with x | ⟨v, x, _, _, x2⟩
          · rw [hai] at x; omega
          · have : v = n9 := by omega
            rw [← this]; exact x2.1
        have hD : DS E p j (n9 + 1) := ⟨⟨i, pi, hEij⟩, fun w hw hpw => hI.2 j (by omega) w (by omega) hpw haj⟩
        refine xw_iinc dX10_findAway_192 rfl (by decide) ?_
        refine xw_goto (tgt := 104) dX10_findAway_195 (by decide) ?_
        exact xw_ls [(0, vR 38), (1, vI (N p : Int)), (2, vI k), (3, vI 1), (4, vI (n9 : Int)), (5, vI (i : Int)), (6, vI ((j + 1 : Nat) : Int))] ⟨rfl, rfl, rfl, rfl, rfl, rfl, rfl, trivial⟩ (ih (j + 1) i n9 1 (xui aw j ((n9 + 1 : Nat) : Int)) aw0 _ (by omega) hi (gR_up (t := 0) (N := 101) (k := 74) hG (by decide) (by decide) (by decide)) (kS_fr hK rfl rfl rfl rfl rfl) (fr_up hfr (by decide)) ⟨_, rfl, fun a ha8 => by
          by_cases e : a = j
          · subst e; rw [xui_s, xui_s]
          · rw [xui_n _ _ e, xui_n _ _ (fun x => e (onO_inj hN ha8 (by omega) x))]; exact ha9 a ha8⟩ ⟨fun a ha8 => by
          by_cases e : a = j
          · subst e; rw [xui_s]; exact Or.inr ⟨n9 + 1, rfl, Nat.le_refl _, by omega, hD⟩
          · rw [xui_n _ _ e]; exact hI.1 a ha8, fun a ha8 v hv hpv => by
          by_cases e : a = j
          · subst e; rw [xui_s]; omega
          · rw [xui_n _ _ e]; exact hI.2 a ha8 v hv hpv⟩ (by rw [xui_n _ _ hji]; exact hai) hki hn (Or.inr ⟨rfl, by omega⟩) (fun a b h1 h2 h3 => by
          by_cases e : b = j
          · subst e; rw [xui_s]; omega
          · rw [xui_n _ _ e]
            by_cases e2 : a = j
            · subst e2; rw [xui_s] at h2; omega
            · rw [xui_n _ _ e2] at h2
              exact hall a b (by omega) h2 h3) K)
      refine xw_iload dX10_findAway_104 rfl ?_
      refine xw_aload_n dX10_findAway_106 rfl ?_
      refine xw_getfield dX10_findAway_107 fl_X10_285 h38 rfl ?_
      refine xw_topi (sz : Int) m49 ?_
      refine xw_icmpge (tgt := 198) dX10_findAway_110 (by decide) (by first | assumption | (unfold inI; omega) | (unfold inI at *; omega)) (by first | assumption | (unfold inI; omega) | (unfold inI at *; omega)) (fun c_110 => ?_) (fun c_110 => ?_)
      · skip
        exfalso; omega
      · skip
        refine xw_aload_n dX10_findAway_113 rfl ?_
        refine xw_getfield dX10_findAway_114 fl_X10_118 h38 rfl ?_
        refine xw_aload_n dX10_findAway_117 rfl ?_
        refine xw_getfield dX10_findAway_118 fl_X10_112 h38 rfl ?_
        refine xw_iload dX10_findAway_121 rfl ?_
        refine xw_iald dX10_findAway_123 h70 (j := j) rfl (by omega) (by decide) ?_
        refine xw_topi (N j : Int) (hon9 j (by omega)) ?_
        refine xw_iald dX10_findAway_124 h72 (j := N j) rfl (by omega) (by decide) ?_
        refine xw_iload_n dX10_findAway_125 rfl ?_
        refine xw_icmpne (tgt := 192) dX10_findAway_126 (by decide) ikj hk (fun c_126 => ?_) (fun c_126 => ?_)
        · skip
          first
            | exact xw_ls [(0, vR 38), (1, vI (N p : Int)), (2, vI k), (3, vI mo), (4, vI (n9 : Int)), (5, vI (i : Int)), (6, vI (j : Int))] ⟨rfl, rfl, rfl, rfl, rfl, rfl, rfl, trivial⟩ (no (fun x => by rw [hE] at x; have := x.2.1.2; omega))
            | exact xw_ls [(0, vR 38), (1, vI (N p : Int)), (2, vI k), (3, vI mo), (4, vI (n9 : Int)), (5, vI (i : Int)), (6, vI (j : Int))] ⟨rfl, rfl, rfl, rfl, rfl, rfl, rfl, trivial⟩ (no (fun x => by rw [← aj]; exact c_142))
            | exact xw_ls [(0, vR 38), (1, vI (N p : Int)), (2, vI k), (3, vI 1), (4, vI (n9 : Int)), (5, vI (i : Int)), (6, vI (j : Int))] ⟨rfl, rfl, rfl, rfl, rfl, rfl, rfl, trivial⟩ (yes (by omega) (by omega) (by rcases q1 with ⟨x1, _⟩ | ⟨_, x1⟩; exact absurd x1 c_168; exact x1))
            | exact xw_ls [(0, vR 38), (1, vI (N p : Int)), (2, vI k), (3, vI mo), (4, vI (n9 : Int)), (5, vI (i : Int)), (6, vI (j : Int))] ⟨rfl, rfl, rfl, rfl, rfl, rfl, rfl, trivial⟩ (no (fun x => by rw [hE] at x; rcases q1 with ⟨_, x1⟩ | ⟨x1, _⟩; exact absurd x.2.2 x1; exact absurd x1 (by omega)))
        · skip
          refine xw_aload_n dX10_findAway_129 rfl ?_
          refine xw_getfield dX10_findAway_130 fl_X10_124 h38 rfl ?_
          refine xw_aload_n dX10_findAway_133 rfl ?_
          refine xw_getfield dX10_findAway_134 fl_X10_112 h38 rfl ?_
          refine xw_iload dX10_findAway_137 rfl ?_
          refine xw_iald dX10_findAway_139 h70 (j := j) rfl (by omega) (by decide) ?_
          refine xw_topi (N j : Int) (hon9 j (by omega)) ?_
          refine xw_iald dX10_findAway_140 h74 (j := N j) rfl (by omega) (by decide) ?_
          refine xw_iconst dX10_findAway_141 ?_
          refine xw_icmpne (tgt := 192) dX10_findAway_142 (by decide) iaj (by unfold inI; omega) (fun c_142 => ?_) (fun c_142 => ?_)
          · skip
            first
              | exact xw_ls [(0, vR 38), (1, vI (N p : Int)), (2, vI k), (3, vI mo), (4, vI (n9 : Int)), (5, vI (i : Int)), (6, vI (j : Int))] ⟨rfl, rfl, rfl, rfl, rfl, rfl, rfl, trivial⟩ (no (fun x => by rw [hE] at x; have := x.2.1.2; omega))
              | exact xw_ls [(0, vR 38), (1, vI (N p : Int)), (2, vI k), (3, vI mo), (4, vI (n9 : Int)), (5, vI (i : Int)), (6, vI (j : Int))] ⟨rfl, rfl, rfl, rfl, rfl, rfl, rfl, trivial⟩ (no (fun x => by rw [← aj]; exact c_142))
              | exact xw_ls [(0, vR 38), (1, vI (N p : Int)), (2, vI k), (3, vI 1), (4, vI (n9 : Int)), (5, vI (i : Int)), (6, vI (j : Int))] ⟨rfl, rfl, rfl, rfl, rfl, rfl, rfl, trivial⟩ (yes (by omega) (by omega) (by rcases q1 with ⟨x1, _⟩ | ⟨_, x1⟩; exact absurd x1 c_168; exact x1))
              | exact xw_ls [(0, vR 38), (1, vI (N p : Int)), (2, vI k), (3, vI mo), (4, vI (n9 : Int)), (5, vI (i : Int)), (6, vI (j : Int))] ⟨rfl, rfl, rfl, rfl, rfl, rfl, rfl, trivial⟩ (no (fun x => by rw [hE] at x; rcases q1 with ⟨_, x1⟩ | ⟨x1, _⟩; exact absurd x.2.2 x1; exact absurd x1 (by omega)))
          · skip
            refine xw_aload_n dX10_findAway_145 rfl ?_
            refine xw_getfield dX10_findAway_146 fl_X10_103 h38 rfl ?_
            refine xw_bipush (z := 100) dX10_findAway_149 (by decide) ?_
            refine xw_aload_n dX10_findAway_151 rfl ?_
            refine xw_getfield dX10_findAway_152 fl_X10_112 h38 rfl ?_
            refine xw_iload dX10_findAway_155 rfl ?_
            refine xw_iald dX10_findAway_157 h70 (j := i) rfl (by omega) (by decide) ?_
            refine xw_topi (N i : Int) (hon9 i hi) ?_
            refine xw_imul dX10_findAway_158 ?_
            refine xw_aload_n dX10_findAway_159 rfl ?_
            refine xw_getfield dX10_findAway_160 fl_X10_112 h38 rfl ?_
            refine xw_iload dX10_findAway_163 rfl ?_
            refine xw_iald dX10_findAway_165 h70 (j := j) rfl (by omega) (by decide) ?_
            refine xw_topi (N j : Int) (hon9 j (by omega)) ?_
            refine xw_iadd dX10_findAway_166 ?_
            refine xw_zald dX10_findAway_167 h67 (j := 100 * N i + N j) (by omega) (by omega) (by decide) ?_
            refine xw_ifne (tgt := 174) dX10_findAway_168 (by decide) (by first | assumption | (unfold inI; omega) | (unfold inI at *; omega)) (fun c_168 => ?_) (fun c_168 => ?_)
            · skip
              refine xw_aload_n dX10_findAway_174 rfl ?_
              refine xw_getfield dX10_findAway_175 fl_X10_124 h38 rfl ?_
              refine xw_aload_n dX10_findAway_178 rfl ?_
              refine xw_getfield dX10_findAway_179 fl_X10_112 h38 rfl ?_
              refine xw_iload dX10_findAway_182 rfl ?_
              refine xw_iald dX10_findAway_184 h70 (j := j) rfl (by omega) (by decide) ?_
              refine xw_topi (N j : Int) (hon9 j (by omega)) ?_
              refine xw_iload dX10_findAway_185 rfl ?_
              refine xw_iconst dX10_findAway_187 ?_
              refine xw_iadd dX10_findAway_188 ?_
              refine xw_topi ((n9 + 1 : Nat) : Int) (by omega) ?_
              refine xw_iast dX10_findAway_189 h74 (j := N j) rfl (by omega) (by decide) ?_
              refine xw_iconst dX10_findAway_190 ?_
              refine xw_istore_n dX10_findAway_191 (by decide) ?_
              first
                | exact xw_ls [(0, vR 38), (1, vI (N p : Int)), (2, vI k), (3, vI mo), (4, vI (n9 : Int)), (5, vI (i : Int)), (6, vI (j : Int))] ⟨rfl, rfl, rfl, rfl, rfl, rfl, rfl, trivial⟩ (no (fun x => by rw [hE] at x; have := x.2.1.2; omega))
                | exact xw_ls [(0, vR 38), (1, vI (N p : Int)), (2, vI k), (3, vI mo), (4, vI (n9 : Int)), (5, vI (i : Int)), (6, vI (j : Int))] ⟨rfl, rfl, rfl, rfl, rfl, rfl, rfl, trivial⟩ (no (fun x => by rw [← aj]; exact c_142))
                | exact xw_ls [(0, vR 38), (1, vI (N p : Int)), (2, vI k), (3, vI 1), (4, vI (n9 : Int)), (5, vI (i : Int)), (6, vI (j : Int))] ⟨rfl, rfl, rfl, rfl, rfl, rfl, rfl, trivial⟩ (yes (by omega) (by omega) (by rcases q1 with ⟨x1, _⟩ | ⟨_, x1⟩; exact absurd x1 c_168; exact x1))
                | exact xw_ls [(0, vR 38), (1, vI (N p : Int)), (2, vI k), (3, vI mo), (4, vI (n9 : Int)), (5, vI (i : Int)), (6, vI (j : Int))] ⟨rfl, rfl, rfl, rfl, rfl, rfl, rfl, trivial⟩ (no (fun x => by rw [hE] at x; rcases q1 with ⟨_, x1⟩ | ⟨x1, _⟩; exact absurd x.2.2 x1; exact absurd x1 (by omega)))
            · skip
              refine xw_goto (tgt := 192) dX10_findAway_171 (by decide) ?_
              first
                | exact xw_ls [(0, vR 38), (1, vI (N p : Int)), (2, vI k), (3, vI mo), (4, vI (n9 : Int)), (5, vI (i : Int)), (6, vI (j : Int))] ⟨rfl, rfl, rfl, rfl, rfl, rfl, rfl, trivial⟩ (no (fun x => by rw [hE] at x; have := x.2.1.2; omega))
                | exact xw_ls [(0, vR 38), (1, vI (N p : Int)), (2, vI k), (3, vI mo), (4, vI (n9 : Int)), (5, vI (i : Int)), (6, vI (j : Int))] ⟨rfl, rfl, rfl, rfl, rfl, rfl, rfl, trivial⟩ (no (fun x => by rw [← aj]; exact c_142))
                | exact xw_ls [(0, vR 38), (1, vI (N p : Int)), (2, vI k), (3, vI 1), (4, vI (n9 : Int)), (5, vI (i : Int)), (6, vI (j : Int))] ⟨rfl, rfl, rfl, rfl, rfl, rfl, rfl, trivial⟩ (yes (by omega) (by omega) (by rcases q1 with ⟨x1, _⟩ | ⟨_, x1⟩; exact absurd x1 c_168; exact x1))
                | exact xw_ls [(0, vR 38), (1, vI (N p : Int)), (2, vI k), (3, vI mo), (4, vI (n9 : Int)), (5, vI (i : Int)), (6, vI (j : Int))] ⟨rfl, rfl, rfl, rfl, rfl, rfl, rfl, trivial⟩ (no (fun x => by rw [hE] at x; rcases q1 with ⟨_, x1⟩ | ⟨x1, _⟩; exact absurd x.2.2 x1; exact absurd x1 (by omega)))
  have LI : ∀ (t i n9 : Nat) (mo : Int) (aw aw0 : Nat → Int) (F : xH), i + t = sz → gR f F m m → kS F m sz N B kn kc → fr [74] f F → awF F sz N aw → awI E p sz n9 (n9 + 1) aw → awI E p sz n9 n9 aw0 → n9 + cnN aw0 sz ≤ sz → ((mo = 0 ∧ aw = aw0) ∨ (mo = 1 ∧ cnN aw sz < cnN aw0 sz)) → (∀ a b, a < i → aw a = (n9 : Int) → E a b → aw b ≠ -1) →
      (∀ (aw2 : Nat → Int) (F2 : xH), gR f F2 m m → kS F2 m sz N B kn kc → fr [74] f F2 → awF F2 sz N aw2 → awI E p sz (n9 + 1) (n9 + 1) aw2 → cnN aw2 sz < cnN aw0 sz → xw g M_X10_findAway Q 0 0 47 [(0, vR 38), (1, vI (N p : Int)), (2, vI k), (3, vI 1), (4, vI ((n9 + 1 : Nat) : Int))] [] n F2) →
      xw g M_X10_findAway Q 0 0 56 [(0, vR 38), (1, vI (N p : Int)), (2, vI k), (3, vI mo), (4, vI (n9 : Int)), (5, vI (i : Int))] [] n F := by
    intro t
    induction t with
    | zero =>
      intro i n9 mo aw aw0 F hi hG hK hfr ha hI hI0 hn hmo hall K
      have h38 := hG.2.1
      have hall9 : ∀ a b, aw a = (n9 : Int) → E a b → aw b ≠ -1 := fun a b h1 h2 => hall a b (by have := (hEs a b h2).1; omega) h1 h2
      rcases hmo with ⟨rfl, e2⟩ | ⟨rfl, e2⟩
      · have fin := awI_end hEs h40 hI0 (by rw [← e2]; exact hall9)
        refine xw_iload dX10_findAway_56 rfl ?_
        refine xw_aload_n dX10_findAway_58 rfl ?_
        refine xw_getfield dX10_findAway_59 fl_X10_285 h38 rfl ?_
        refine xw_topi (sz : Int) m49 ?_
        refine xw_icmpge (tgt := 204) dX10_findAway_62 (by decide) (by first | assumption | (unfold inI; omega) | (unfold inI at *; omega)) (by first | assumption | (unfold inI; omega) | (unfold inI at *; omega)) (fun c_62 => ?_) (fun c_62 => ?_)
        · skip
          refine xw_iinc dX10_findAway_204 rfl (by decide) ?_
          refine xw_goto (tgt := 47) dX10_findAway_207 (by decide) ?_
          refine xw_iload_n dX10_findAway_47 rfl ?_
          refine xw_ifeq (tgt := 210) dX10_findAway_48 (by decide) (by first | assumption | (unfold inI; omega) | (unfold inI at *; omega)) (fun c_48 => ?_) (fun c_48 => ?_)
          · skip
            exact xw_vret dX10_findAway_210 rfl (hq F aw hG hK ha (by rw [e2]; exact fin) hfr)
          · skip
            exfalso; omega
        · skip
          exfalso; omega
      · skip
        refine xw_iload dX10_findAway_56 rfl ?_
        refine xw_aload_n dX10_findAway_58 rfl ?_
        refine xw_getfield dX10_findAway_59 fl_X10_285 h38 rfl ?_
        refine xw_topi (sz : Int) m49 ?_
        refine xw_icmpge (tgt := 204) dX10_findAway_62 (by decide) (by first | assumption | (unfold inI; omega) | (unfold inI at *; omega)) (by first | assumption | (unfold inI; omega) | (unfold inI at *; omega)) (fun c_62 => ?_) (fun c_62 => ?_)
        · skip
          refine xw_iinc dX10_findAway_204 rfl (by decide) ?_
          refine xw_goto (tgt := 47) dX10_findAway_207 (by decide) ?_
          exact xw_ls [(0, vR 38), (1, vI (N p : Int)), (2, vI k), (3, vI 1), (4, vI ((n9 + 1 : Nat) : Int))] ⟨rfl, rfl, rfl, rfl, rfl, trivial⟩ (K aw F hG hK hfr ha (awI_nx hEs hI hall9) e2)
        · skip
          exfalso; omega
    | succ t ih =>
      intro i n9 mo aw aw0 F hi hG hK hfr ha hI hI0 hn hmo hall K
      have h38 := hG.2.1
      obtain ⟨on, h70, hon9⟩ := id hK.2.1
      obtain ⟨ko, h72, hk9⟩ := id hK.2.2.2.2
      obtain ⟨aa, h74, ha9⟩ := id ha
      have ni := hN.2 i (by omega)
      have ki := hk9 i (by omega)
      have ai := ha9 i (by omega)
      have iki : inI (ko (N i)) := by rw [ki]; exact hkn i (by omega)
      have iai : inI (aa (N i)) := by
        rw [ai]
        rcases hI.1 i (by omega) with x | ⟨v, x, _, x2, _⟩
        · rw [x]; unfold inI; omega
        · rw [x]; unfold inI; omega
      have no : ¬ (aw i = (n9 : Int) ∧ kn i = k) → xw g M_X10_findAway Q 0 0 198 [(0, vR 38), (1, vI (N p : Int)), (2, vI k), (3, vI mo), (4, vI (n9 : Int)), (5, vI (i : Int))] [] n F := by
        intro hn9
        refine xw_iinc dX10_findAway_198 rfl (by decide) ?_
        refine xw_goto (tgt := 56) dX10_findAway_201 (by decide) ?_
        exact xw_ls [(0, vR 38), (1, vI (N p : Int)), (2, vI k), (3, vI mo), (4, vI (n9 : Int)), (5, vI ((i + 1 : Nat) : Int))] ⟨rfl, rfl, rfl, rfl, rfl, rfl, trivial⟩ (ih (i + 1) n9 mo aw aw0 F (by omega) hG hK hfr ha hI hI0 hn hmo (fun a b h1 h2 h3 => by
          by_cases e : a = i
          · subst e; exact absurd ⟨h2, by rw [hE] at h3; exact h3.1.2⟩ hn9
          · exact hall a b (by omega) h2 h3) K)
      refine xw_iload dX10_findAway_56 rfl ?_
      refine xw_aload_n dX10_findAway_58 rfl ?_
      refine xw_getfield dX10_findAway_59 fl_X10_285 h38 rfl ?_
      refine xw_topi (sz : Int) m49 ?_
      refine xw_icmpge (tgt := 204) dX10_findAway_62 (by decide) (by first | assumption | (unfold inI; omega) | (unfold inI at *; omega)) (by first | assumption | (unfold inI; omega) | (unfold inI at *; omega)) (fun c_62 => ?_) (fun c_62 => ?_)
      · skip
        exfalso; omega
      · skip
        refine xw_aload_n dX10_findAway_65 rfl ?_
        refine xw_getfield dX10_findAway_66 fl_X10_124 h38 rfl ?_
        refine xw_aload_n dX10_findAway_69 rfl ?_
        refine xw_getfield dX10_findAway_70 fl_X10_112 h38 rfl ?_
        refine xw_iload dX10_findAway_73 rfl ?_
        refine xw_iald dX10_findAway_75 h70 (j := i) rfl (by omega) (by decide) ?_
        refine xw_topi (N i : Int) (hon9 i (by omega)) ?_
        refine xw_iald dX10_findAway_76 h74 (j := N i) rfl (by omega) (by decide) ?_
        refine xw_iload dX10_findAway_77 rfl ?_
        refine xw_icmpne (tgt := 198) dX10_findAway_79 (by decide) iai (by unfold inI; omega) (fun c_79 => ?_) (fun c_79 => ?_)
        · skip
          first
            | exact xw_ls [(0, vR 38), (1, vI (N p : Int)), (2, vI k), (3, vI mo), (4, vI (n9 : Int)), (5, vI (i : Int))] ⟨rfl, rfl, rfl, rfl, rfl, rfl, trivial⟩ (no (fun x => by omega))
        · skip
          refine xw_aload_n dX10_findAway_82 rfl ?_
          refine xw_getfield dX10_findAway_83 fl_X10_118 h38 rfl ?_
          refine xw_aload_n dX10_findAway_86 rfl ?_
          refine xw_getfield dX10_findAway_87 fl_X10_112 h38 rfl ?_
          refine xw_iload dX10_findAway_90 rfl ?_
          refine xw_iald dX10_findAway_92 h70 (j := i) rfl (by omega) (by decide) ?_
          refine xw_topi (N i : Int) (hon9 i (by omega)) ?_
          refine xw_iald dX10_findAway_93 h72 (j := N i) rfl (by omega) (by decide) ?_
          refine xw_iload_n dX10_findAway_94 rfl ?_
          refine xw_icmpeq (tgt := 101) dX10_findAway_95 (by decide) iki hk (fun c_95 => ?_) (fun c_95 => ?_)
          · skip
            refine xw_iconst dX10_findAway_101 ?_
            refine xw_istore dX10_findAway_102 (by decide) ?_
            exact xw_ls [(0, vR 38), (1, vI (N p : Int)), (2, vI k), (3, vI mo), (4, vI (n9 : Int)), (5, vI (i : Int)), (6, vI ((0 : Nat) : Int))] ⟨rfl, rfl, rfl, rfl, rfl, rfl, rfl, trivial⟩ (LJ sz 0 i n9 mo aw aw0 F (by omega) (by omega) hG hK hfr ha hI (by omega) (by omega) hn hmo (fun a b h1 h2 h3 => hall a b (by omega) h2 h3) (fun mo2 aw2 F2 b1 b2 b3 b4 b5 b6 b7 => ih (i + 1) n9 mo2 aw2 aw0 F2 (by omega) b1 b2 b3 b4 b5 hI0 hn b6 b7 K))
          · skip
            refine xw_goto (tgt := 198) dX10_findAway_98 (by decide) ?_
            first
              | exact xw_ls [(0, vR 38), (1, vI (N p : Int)), (2, vI k), (3, vI mo), (4, vI (n9 : Int)), (5, vI (i : Int))] ⟨rfl, rfl, rfl, rfl, rfl, rfl, trivial⟩ (no (fun x => by omega))
  have PW : ∀ (c n9 : Nat) (aw : Nat → Int) (F : xH), cnN aw sz ≤ c → gR f F m m → kS F m sz N B kn kc → fr [74] f F → awF F sz N aw → awI E p sz n9 n9 aw → n9 + cnN aw sz ≤ sz → xw g M_X10_findAway Q 0 0 47 [(0, vR 38), (1, vI (N p : Int)), (2, vI k), (3, vI 1), (4, vI (n9 : Int))] [] n F := by
    intro c
    induction c with
    | zero =>
      intro n9 aw F hc9 hG hK hfr ha hI hn
      refine xw_iload_n dX10_findAway_47 rfl ?_
      refine xw_ifeq (tgt := 210) dX10_findAway_48 (by decide) (by first | assumption | (unfold inI; omega) | (unfold inI at *; omega)) (fun c_48 => ?_) (fun c_48 => ?_)
      · skip
        exfalso; omega
      · skip
        refine xw_iconst dX10_findAway_51 ?_
        refine xw_istore_n dX10_findAway_52 (by decide) ?_
        refine xw_iconst dX10_findAway_53 ?_
        refine xw_istore dX10_findAway_54 (by decide) ?_
        exact xw_ls [(0, vR 38), (1, vI (N p : Int)), (2, vI k), (3, vI 0), (4, vI (n9 : Int)), (5, vI ((0 : Nat) : Int))] ⟨rfl, rfl, rfl, rfl, rfl, rfl, trivial⟩ (LI sz 0 n9 0 aw aw F (by omega) hG hK hfr ha ⟨fun j hj => (hI.1 j hj).imp_right (fun ⟨v, a1, a2, a3⟩ => ⟨v, a1, by omega, a3⟩), hI.2⟩ hI hn (Or.inl ⟨rfl, rfl⟩) (fun a b h1 => absurd h1 (Nat.not_lt_zero _)) (fun aw2 F2 b1 b2 b3 b4 b5 b6 => by omega))
    | succ c ih =>
      intro n9 aw F hc9 hG hK hfr ha hI hn
      refine xw_iload_n dX10_findAway_47 rfl ?_
      refine xw_ifeq (tgt := 210) dX10_findAway_48 (by decide) (by first | assumption | (unfold inI; omega) | (unfold inI at *; omega)) (fun c_48 => ?_) (fun c_48 => ?_)
      · skip
        exfalso; omega
      · skip
        refine xw_iconst dX10_findAway_51 ?_
        refine xw_istore_n dX10_findAway_52 (by decide) ?_
        refine xw_iconst dX10_findAway_53 ?_
        refine xw_istore dX10_findAway_54 (by decide) ?_
        exact xw_ls [(0, vR 38), (1, vI (N p : Int)), (2, vI k), (3, vI 0), (4, vI (n9 : Int)), (5, vI ((0 : Nat) : Int))] ⟨rfl, rfl, rfl, rfl, rfl, rfl, trivial⟩ (LI sz 0 n9 0 aw aw F (by omega) hG hK hfr ha ⟨fun j hj => (hI.1 j hj).imp_right (fun ⟨v, a1, a2, a3⟩ => ⟨v, a1, by omega, a3⟩), hI.2⟩ hI hn (Or.inl ⟨rfl, rfl⟩) (fun a b h1 => absurd h1 (Nat.not_lt_zero _)) (fun aw2 F2 b1 b2 b3 b4 b5 b6 => ih (n9 + 1) aw2 F2 (by omega) b1 b2 b3 b4 b5 (by omega)))
  have LA : ∀ (t i : Nat) (F : xH) (aa : Nat → Int), i + t = sz → gR f F m m → kS F m sz N B kn kc → fr [74] f F → F 74 = some (aI 101 aa) → (∀ i', i' < i → aa (N i') = if i' = p then 0 else -1) → xw g M_X10_findAway Q 0 0 2 [(0, vR 38), (1, vI (N p : Int)), (2, vI k), (3, vI (i : Int))] [] n F := by
    intro t
    induction t with
    | zero =>
      intro i F aa hi hG hK hfr h74 ha
      have h38 := hG.2.1
      refine xw_iload_n dX10_findAway_2 rfl ?_
      refine xw_aload_n dX10_findAway_3 rfl ?_
      refine xw_getfield dX10_findAway_4 fl_X10_285 h38 rfl ?_
      refine xw_topi (sz : Int) m49 ?_
      refine xw_icmpge (tgt := 42) dX10_findAway_7 (by decide) (by first | assumption | (unfold inI; omega) | (unfold inI at *; omega)) (by first | assumption | (unfold inI; omega) | (unfold inI at *; omega)) (fun c_7 => ?_) (fun c_7 => ?_)
      · skip
        refine xw_iconst dX10_findAway_42 ?_
        refine xw_istore_n dX10_findAway_43 (by decide) ?_
        refine xw_iconst dX10_findAway_44 ?_
        refine xw_istore dX10_findAway_45 (by decide) ?_
        exact xw_ls [(0, vR 38), (1, vI (N p : Int)), (2, vI k), (3, vI 1), (4, vI ((0 : Nat) : Int))] ⟨rfl, rfl, rfl, rfl, rfl, trivial⟩ (PW sz 0 (fun i => if i = p then 0 else -1) F (cnN_le _ _) hG hK hfr ⟨aa, h74, fun i' hi' => ha i' (by omega)⟩ ⟨fun j hj => by
          show (if j = p then (0 : Int) else -1) = -1 ∨ ∃ v : Nat, (if j = p then (0 : Int) else -1) = (v : Int) ∧ _
          by_cases e : j = p
          · rw [if_pos e]; exact Or.inr ⟨0, rfl, Nat.le_refl _, Nat.zero_le _, e, fun w hw => absurd hw (Nat.not_lt_zero _)⟩
          · rw [if_neg e]; exact Or.inl rfl, fun j hj v hv hpv => by
          have e0 : v = 0 := by omega
          subst e0
          have e : j = p := hpv
          show (if j = p then (0 : Int) else -1) ≠ -1
          rw [if_pos e]; decide⟩ (by rw [Nat.zero_add]; exact cnN_le _ _))
      · skip
        exfalso; omega
    | succ t ih =>
      intro i F aa hi hG hK hfr h74 ha
      have h38 := hG.2.1
      obtain ⟨on, h70, hon9⟩ := id hK.2.1
      have ni := hN.2 i (by omega)
      have nx : ∀ x : Int, x = (if i = p then 0 else -1) → xw g M_X10_findAway Q 0 0 35 [(0, vR 38), (1, vI (N p : Int)), (2, vI k), (3, vI (i : Int))] [vI x, vI (N i : Int), vR 74] n F := by
        intro x hx
        refine xw_iast dX10_findAway_35 h74 (j := N i) rfl (by omega) (by decide) ?_
        refine xw_iinc dX10_findAway_36 rfl (by decide) ?_
        refine xw_goto (tgt := 2) dX10_findAway_39 (by decide) ?_
        exact xw_ls [(0, vR 38), (1, vI (N p : Int)), (2, vI k), (3, vI ((i + 1 : Nat) : Int))] ⟨rfl, rfl, rfl, rfl, trivial⟩ (ih (i + 1) _ _ (by omega) (gR_up (t := 0) (N := 101) (k := 74) hG (by decide) (by decide) (by decide)) (kS_fr hK rfl rfl rfl rfl rfl) (fr_up hfr (by decide)) rfl (fun i' hi' => by
          by_cases e : i' = i
          · subst e; rw [xui_s]; exact hx
          · rw [xui_n _ _ (fun k9 => e (onO_inj hN (by omega) (by omega) k9))]; exact ha i' (by omega)))
      refine xw_iload_n dX10_findAway_2 rfl ?_
      refine xw_aload_n dX10_findAway_3 rfl ?_
      refine xw_getfield dX10_findAway_4 fl_X10_285 h38 rfl ?_
      refine xw_topi (sz : Int) m49 ?_
      refine xw_icmpge (tgt := 42) dX10_findAway_7 (by decide) (by first | assumption | (unfold inI; omega) | (unfold inI at *; omega)) (by first | assumption | (unfold inI; omega) | (unfold inI at *; omega)) (fun c_7 => ?_) (fun c_7 => ?_)
      · skip
        exfalso; omega
      · skip
        refine xw_aload_n dX10_findAway_10 rfl ?_
        refine xw_getfield dX10_findAway_11 fl_X10_124 h38 rfl ?_
        refine xw_aload_n dX10_findAway_14 rfl ?_
        refine xw_getfield dX10_findAway_15 fl_X10_112 h38 rfl ?_
        refine xw_iload_n dX10_findAway_18 rfl ?_
        refine xw_iald dX10_findAway_19 h70 (j := i) rfl (by omega) (by decide) ?_
        refine xw_topi (N i : Int) (hon9 i (by omega)) ?_
        refine xw_aload_n dX10_findAway_20 rfl ?_
        refine xw_getfield dX10_findAway_21 fl_X10_112 h38 rfl ?_
        refine xw_iload_n dX10_findAway_24 rfl ?_
        refine xw_iald dX10_findAway_25 h70 (j := i) rfl (by omega) (by decide) ?_
        refine xw_topi (N i : Int) (hon9 i (by omega)) ?_
        refine xw_iload_n dX10_findAway_26 rfl ?_
        refine xw_icmpne (tgt := 34) dX10_findAway_27 (by decide) (by first | assumption | (unfold inI; omega) | (unfold inI at *; omega)) (by first | assumption | (unfold inI; omega) | (unfold inI at *; omega)) (fun c_27 => ?_) (fun c_27 => ?_)
        · skip
          refine xw_iconst dX10_findAway_34 ?_
          first
            | exact xw_ls [(0, vR 38), (1, vI (N p : Int)), (2, vI k), (3, vI (i : Int))] ⟨rfl, rfl, rfl, rfl, trivial⟩ (nx (-1) (if_neg (fun e => by rw [e] at c_27; exact c_27 rfl)).symm)
            | exact xw_ls [(0, vR 38), (1, vI (N p : Int)), (2, vI k), (3, vI (i : Int))] ⟨rfl, rfl, rfl, rfl, trivial⟩ (nx 0 (if_pos (onO_inj hN (by omega) hp (by omega))).symm)
        · skip
          refine xw_iconst dX10_findAway_30 ?_
          refine xw_goto (tgt := 35) dX10_findAway_31 (by decide) ?_
          first
            | exact xw_ls [(0, vR 38), (1, vI (N p : Int)), (2, vI k), (3, vI (i : Int))] ⟨rfl, rfl, rfl, rfl, trivial⟩ (nx (-1) (if_neg (fun e => by rw [e] at c_27; exact c_27 rfl)).symm)
            | exact xw_ls [(0, vR 38), (1, vI (N p : Int)), (2, vI k), (3, vI (i : Int))] ⟨rfl, rfl, rfl, rfl, trivial⟩ (nx 0 (if_pos (onO_inj hN (by omega) hp (by omega))).symm)
  obtain ⟨aa, h74⟩ := msh_at hsh (k := 74) (t := 0) (N := 101) (by decide)
  refine xw_iconst dX10_findAway_0 ?_
  refine xw_istore_n dX10_findAway_1 (by decide) ?_
  exact xw_ls [(0, vR 38), (1, vI (N p : Int)), (2, vI k), (3, vI ((0 : Nat) : Int))] ⟨rfl, rfl, rfl, rfl, trivial⟩ (LA sz 0 f aa (by omega) (gR_rf hg hsh) hS (fr_rf _ _) h74 (fun i' hi' => absurd hi' (Nat.not_lt_zero _)))
end C9c
