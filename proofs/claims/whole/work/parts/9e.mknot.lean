/-! the model: findRing, knot -/
def rgF (F : xH) (N q : Nat → Nat) (r : Nat) : Prop := ∃ rg, F 73 = some (aI 41 rg) ∧ ∀ r', r' < r → rg r' = (N (q r') : Int)
section C9e
variable {g : xG} {y : xM} {Q : xP} {n : Nat} {f : xH} {gn : Nat} {σ : Nat → xSt} {m : Nat → Int} {sz : Nat} {N : Nat → Nat} {B : Nat → Nat → Prop} {kn : Nat → Int} {kc : Nat} {k : Int}
theorem aw_DS {E : Nat → Nat → Prop} {p i v : Nat} {aw : Nat → Int} (hok : awOK E p sz aw) (hi : i < sz) : aw i = (v : Int) ↔ DS E p i v := by
  rcases hok i hi with ⟨x, x2⟩ | ⟨w, x, _, x2⟩
  · exact ⟨fun e => by omega, fun e => absurd e.1 (x2 v)⟩
  · constructor
    · intro e
      have : v = w := by omega
      rw [this]; exact x2
    · intro e
      rw [x, DS_u x2 e]
set_option maxHeartbeats 16000000 in
theorem ct_findRing (hg : f 38 = some (oMd m)) (hsh : msh f) (hN : onO gn σ sz N) (hgn : gn ≤ 100) (h40 : sz ≤ 40) (hS : kS f m sz N B kn kc) (hkn : ∀ i, i < sz → inI (kn i)) (hk : inI k) (hir : ∀ p, p < sz → ¬ B p p) (hm9 : ∃ p, p < sz ∧ kn p = k) (hcy : ∀ p, p < sz → kn p = k → ∃ v, 1 ≤ v ∧ pth (kE sz kn k B) p v p) (hq : ∀ F m1 (p least : Nat) (q : Nat → Nat), gR f F m m1 → rgP (kE sz kn k B) sz kn k p least → rgS (kE sz kn k B) p least q least → (∀ r, r < least → q r < sz) → rgF F N q least → m1 53 = (least : Int) → least ≤ 41 → Q (.inl none) n F) : xct g M_X10_findRing 0 0 [vR 38, vI k] n f Q := by
  refine xct_of rfl rfl (Nat.le_of_ble_eq_true rfl) ?_
  obtain ⟨E, hE⟩ : ∃ E, E = kE sz kn k B := ⟨_, rfl⟩
  have hcy' := hcy
  rw [← hE] at hq hcy'
  have m49 := hS.1
  have hEs : ∀ i j, E i j → i < sz ∧ j < sz := fun i j h => by rw [hE] at h; exact ⟨h.1.1, h.2.1.1⟩
  -- the search of the next one
  have LN : ∀ (p least : Nat) (aw : Nat → Int) (a r : Nat) (F : xH) (m1 : Nat → Int), least ≤ 41 → a < sz → kn a = k → awOK E p sz aw → F 38 = some (oMd m1) → m1 53 = (r : Int) → m1 49 = (sz : Int) → kS F m1 sz N B kn kc → awF F sz N aw → 1 ≤ r → r < least → (∀ i, i < sz → E i a → DS E p i (least - r) → (∀ i', i' < i → ¬ (E i' a ∧ DS E p i' (least - r))) → xw g M_X10_findRing Q 0 0 207 [(0, vR 38), (1, vI k), (2, vI (least : Int)), (5, vI (N i : Int))] [] n F) → (∃ i, E i a ∧ DS E p i (least - r)) →
      ∀ (i1 : Nat) (nx : Int), i1 ≤ sz → ((nx = -1 ∧ ∀ i, i1 ≤ i → i < sz → ¬ (E i a ∧ DS E p i (least - r))) ∨ ∃ i, i1 ≤ i ∧ i < sz ∧ nx = (N i : Int) ∧ (E i a ∧ DS E p i (least - r)) ∧ ∀ i', i1 ≤ i' → i' < i → ¬ (E i' a ∧ DS E p i' (least - r))) → xw g M_X10_findRing Q 0 0 129 [(0, vR 38), (1, vI k), (2, vI (least : Int)), (4, vI (N a : Int)), (5, vI nx), (6, vI ((i1 : Int) - 1))] [] n F := by
    intro p least aw a r F m1 hl41 hasz hka hok h38 m53 m49 hK ha hr1 hr2 K hex i1
    obtain ⟨on, h70, hon9⟩ := id hK.2.1
    obtain ⟨br, h67, hb9⟩ := id hK.2.2.1
    obtain ⟨ko, h72, hk9⟩ := id hK.2.2.2.2
    obtain ⟨aa, h74, ha9⟩ := id ha
    have na := hN.2 a hasz
    induction i1 with
    | zero =>
      intro nx hi hnx
      have fin : ∃ i, i < sz ∧ nx = (N i : Int) ∧ (E i a ∧ DS E p i (least - r)) ∧ ∀ i', i' < i → ¬ (E i' a ∧ DS E p i' (least - r)) := by
        rcases hnx with ⟨_, x⟩ | ⟨i, _, x1, x2, x3, x4⟩
        · obtain ⟨i, h1, h2⟩ := hex
          exact absurd ⟨h1, h2⟩ (x i (Nat.zero_le _) (hEs i a h1).1)
        · exact ⟨i, x1, x2, x3, fun i' hi' => x4 i' (Nat.zero_le _) hi'⟩
      obtain ⟨i, x1, x2, x3, x4⟩ := fin
      subst x2
      refine xw_iload dX10_findRing_129 rfl ?_
      refine xw_iflt (tgt := 207) dX10_findRing_131 (by decide) (by first | assumption | (unfold inI; omega) | (unfold inI at *; omega)) (fun c_131 => ?_) (fun c_131 => ?_)
      · skip
        exact xw_ls [(0, vR 38), (1, vI k), (2, vI (least : Int)), (5, vI (N i : Int))] ⟨rfl, rfl, rfl, rfl, trivial⟩ (K i x1 x3.1 x3.2 x4)
      · skip
        exfalso; omega
    | succ i ih =>
      intro nx hi hnx
      have e9 : (((i + 1 : Nat) : Int) - 1) = (i : Int) := by omega
      rw [e9]
      have ni := hN.2 i (by omega)
      have q1 := hb9 i a (by omega) hasz
      have ki := hk9 i (by omega)
      have ai := ha9 i (by omega)
      have iki : inI (ko (N i)) := by rw [ki]; exact hkn i (by omega)
      have aib : -1 ≤ aw i ∧ aw i ≤ 40 := by
        rcases hok i (by omega) with ⟨x, _⟩ | ⟨v, x, x2, _⟩ <;> omega
      have eE : E i a ↔ (kn i = k ∧ B i a) := by rw [hE]; exact ⟨fun x => ⟨x.1.2, x.2.2⟩, fun x => ⟨⟨by omega, x.1⟩, ⟨hasz, hka⟩, x.2⟩⟩
      have eD := aw_DS (v := least - r) hok (show i < sz by omega)
      have eS : ((least - r : Nat) : Int) = (least : Int) - (r : Int) := by omega
      have nb9 : ∀ nx2 : Int, (¬ (E i a ∧ DS E p i (least - r)) ∧ nx2 = nx) ∨ ((E i a ∧ DS E p i (least - r)) ∧ nx2 = (N i : Int)) → xw g M_X10_findRing Q 0 0 201 [(0, vR 38), (1, vI k), (2, vI (least : Int)), (4, vI (N a : Int)), (5, vI nx2), (6, vI (i : Int))] [] n F := by
        intro nx2 h2
        refine xw_iinc dX10_findRing_201 rfl (by decide) ?_
        refine xw_goto (tgt := 129) dX10_findRing_204 (by decide) ?_
        exact xw_ls [(0, vR 38), (1, vI k), (2, vI (least : Int)), (4, vI (N a : Int)), (5, vI nx2), (6, vI ((i : Int) - 1))] ⟨rfl, rfl, rfl, rfl, rfl, congrArg (fun z => some (vI z)) (by omega : (i : Int) + -1 = (i : Int) - 1), trivial⟩ (ih nx2 (by omega) (by
          rcases h2 with ⟨x1, rfl⟩ | ⟨x1, rfl⟩
          · rcases hnx with ⟨y1, y2⟩ | ⟨j, y1, y2, y3, y4, y5⟩
            · refine Or.inl ⟨y1, fun i' z1 z2 => ?_⟩
              by_cases e : i' = i
              · subst e; exact x1
              · exact y2 i' (by omega) z2
            · refine Or.inr ⟨j, by omega, y2, y3, y4, fun i' z1 z2 => ?_⟩
              by_cases e : i' = i
              · subst e; exact x1
              · exact y5 i' (by omega) z2
          · exact Or.inr ⟨i, Nat.le_refl _, by omega, rfl, x1, fun i' z1 z2 => by omega⟩))
      refine xw_iload dX10_findRing_129 rfl ?_
      refine xw_iflt (tgt := 207) dX10_findRing_131 (by decide) (by first | assumption | (unfold inI; omega) | (unfold inI at *; omega)) (fun c_131 => ?_) (fun c_131 => ?_)
      · skip
        exfalso; omega
      · skip
        refine xw_aload_n dX10_findRing_134 rfl ?_
        refine xw_getfield dX10_findRing_135 fl_X10_118 h38 rfl ?_
        refine xw_aload_n dX10_findRing_138 rfl ?_
        refine xw_getfield dX10_findRing_139 fl_X10_112 h38 rfl ?_
        refine xw_iload dX10_findRing_142 rfl ?_
        refine xw_iald dX10_findRing_144 h70 (j := i) rfl (by omega) (by decide) ?_
        refine xw_topi (N i : Int) (hon9 i (by omega)) ?_
        refine xw_iald dX10_findRing_145 h72 (j := N i) rfl (by omega) (by decide) ?_
        refine xw_iload_n dX10_findRing_146 rfl ?_
        refine xw_icmpne (tgt := 201) dX10_findRing_147 (by decide) iki hk (fun c_147 => ?_) (fun c_147 => ?_)
        · skip
          first
            | exact xw_ls [(0, vR 38), (1, vI k), (2, vI (least : Int)), (4, vI (N a : Int)), (5, vI nx), (6, vI (i : Int))] ⟨rfl, rfl, rfl, rfl, rfl, rfl, trivial⟩ (nb9 nx (Or.inl ⟨fun x => by have := (eE.1 x.1).1; omega, rfl⟩))
            | exact xw_ls [(0, vR 38), (1, vI k), (2, vI (least : Int)), (4, vI (N a : Int)), (5, vI nx), (6, vI (i : Int))] ⟨rfl, rfl, rfl, rfl, rfl, rfl, trivial⟩ (nb9 nx (Or.inl ⟨fun x => by rcases q1 with ⟨_, y1⟩ | ⟨y1, _⟩; exact y1 (eE.1 x.1).2; exact absurd c_168 (by omega), rfl⟩))
            | exact xw_ls [(0, vR 38), (1, vI k), (2, vI (least : Int)), (4, vI (N a : Int)), (5, vI nx), (6, vI (i : Int))] ⟨rfl, rfl, rfl, rfl, rfl, rfl, trivial⟩ (nb9 nx (Or.inl ⟨fun x => by have := eD.2 x.2; omega, rfl⟩))
            | exact xw_ls [(0, vR 38), (1, vI k), (2, vI (least : Int)), (4, vI (N a : Int)), (5, vI (N i : Int)), (6, vI (i : Int))] ⟨rfl, rfl, rfl, rfl, rfl, rfl, trivial⟩ (nb9 _ (Or.inr ⟨⟨eE.2 ⟨by omega, by rcases q1 with ⟨y1, _⟩ | ⟨_, y1⟩; exact absurd y1 c_168; exact y1⟩, eD.1 (by omega)⟩, rfl⟩))
        · skip
          refine xw_aload_n dX10_findRing_150 rfl ?_
          refine xw_getfield dX10_findRing_151 fl_X10_103 h38 rfl ?_
          refine xw_bipush (z := 100) dX10_findRing_154 (by decide) ?_
          refine xw_aload_n dX10_findRing_156 rfl ?_
          refine xw_getfield dX10_findRing_157 fl_X10_112 h38 rfl ?_
          refine xw_iload dX10_findRing_160 rfl ?_
          refine xw_iald dX10_findRing_162 h70 (j := i) rfl (by omega) (by decide) ?_
          refine xw_topi (N i : Int) (hon9 i (by omega)) ?_
          refine xw_imul dX10_findRing_163 ?_
          refine xw_iload dX10_findRing_164 rfl ?_
          refine xw_iadd dX10_findRing_166 ?_
          refine xw_zald dX10_findRing_167 h67 (j := 100 * N i + N a) (by omega) (by omega) (by decide) ?_
          refine xw_ifeq (tgt := 201) dX10_findRing_168 (by decide) (by first | assumption | (unfold inI; omega) | (unfold inI at *; omega)) (fun c_168 => ?_) (fun c_168 => ?_)
          · skip
            first
              | exact xw_ls [(0, vR 38), (1, vI k), (2, vI (least : Int)), (4, vI (N a : Int)), (5, vI nx), (6, vI (i : Int))] ⟨rfl, rfl, rfl, rfl, rfl, rfl, trivial⟩ (nb9 nx (Or.inl ⟨fun x => by have := (eE.1 x.1).1; omega, rfl⟩))
              | exact xw_ls [(0, vR 38), (1, vI k), (2, vI (least : Int)), (4, vI (N a : Int)), (5, vI nx), (6, vI (i : Int))] ⟨rfl, rfl, rfl, rfl, rfl, rfl, trivial⟩ (nb9 nx (Or.inl ⟨fun x => by rcases q1 with ⟨_, y1⟩ | ⟨y1, _⟩; exact y1 (eE.1 x.1).2; exact absurd c_168 (by omega), rfl⟩))
              | exact xw_ls [(0, vR 38), (1, vI k), (2, vI (least : Int)), (4, vI (N a : Int)), (5, vI nx), (6, vI (i : Int))] ⟨rfl, rfl, rfl, rfl, rfl, rfl, trivial⟩ (nb9 nx (Or.inl ⟨fun x => by have := eD.2 x.2; omega, rfl⟩))
              | exact xw_ls [(0, vR 38), (1, vI k), (2, vI (least : Int)), (4, vI (N a : Int)), (5, vI (N i : Int)), (6, vI (i : Int))] ⟨rfl, rfl, rfl, rfl, rfl, rfl, trivial⟩ (nb9 _ (Or.inr ⟨⟨eE.2 ⟨by omega, by rcases q1 with ⟨y1, _⟩ | ⟨_, y1⟩; exact absurd y1 c_168; exact y1⟩, eD.1 (by omega)⟩, rfl⟩))
          · skip
            refine xw_aload_n dX10_findRing_171 rfl ?_
            refine xw_getfield dX10_findRing_172 fl_X10_124 h38 rfl ?_
            refine xw_aload_n dX10_findRing_175 rfl ?_
            refine xw_getfield dX10_findRing_176 fl_X10_112 h38 rfl ?_
            refine xw_iload dX10_findRing_179 rfl ?_
            refine xw_iald dX10_findRing_181 h70 (j := i) rfl (by omega) (by decide) ?_
            refine xw_topi (N i : Int) (hon9 i (by omega)) ?_
            refine xw_iald dX10_findRing_182 h74 (j := N i) rfl (by omega) (by decide) ?_
            refine xw_topi (aw i) ai ?_
            refine xw_iload_n dX10_findRing_183 rfl ?_
            refine xw_aload_n dX10_findRing_184 rfl ?_
            refine xw_getfield dX10_findRing_185 fl_X10_307 h38 rfl ?_
            refine xw_topi (r : Int) m53 ?_
            refine xw_isub dX10_findRing_188 ?_
            refine xw_icmpne (tgt := 201) dX10_findRing_189 (by decide) (by first | assumption | (unfold inI; omega) | (unfold inI at *; omega)) (by first | assumption | (unfold inI; omega) | (unfold inI at *; omega)) (fun c_189 => ?_) (fun c_189 => ?_)
            · skip
              first
                | exact xw_ls [(0, vR 38), (1, vI k), (2, vI (least : Int)), (4, vI (N a : Int)), (5, vI nx), (6, vI (i : Int))] ⟨rfl, rfl, rfl, rfl, rfl, rfl, trivial⟩ (nb9 nx (Or.inl ⟨fun x => by have := (eE.1 x.1).1; omega, rfl⟩))
                | exact xw_ls [(0, vR 38), (1, vI k), (2, vI (least : Int)), (4, vI (N a : Int)), (5, vI nx), (6, vI (i : Int))] ⟨rfl, rfl, rfl, rfl, rfl, rfl, trivial⟩ (nb9 nx (Or.inl ⟨fun x => by rcases q1 with ⟨_, y1⟩ | ⟨y1, _⟩; exact y1 (eE.1 x.1).2; exact absurd c_168 (by omega), rfl⟩))
                | exact xw_ls [(0, vR 38), (1, vI k), (2, vI (least : Int)), (4, vI (N a : Int)), (5, vI nx), (6, vI (i : Int))] ⟨rfl, rfl, rfl, rfl, rfl, rfl, trivial⟩ (nb9 nx (Or.inl ⟨fun x => by have := eD.2 x.2; omega, rfl⟩))
                | exact xw_ls [(0, vR 38), (1, vI k), (2, vI (least : Int)), (4, vI (N a : Int)), (5, vI (N i : Int)), (6, vI (i : Int))] ⟨rfl, rfl, rfl, rfl, rfl, rfl, trivial⟩ (nb9 _ (Or.inr ⟨⟨eE.2 ⟨by omega, by rcases q1 with ⟨y1, _⟩ | ⟨_, y1⟩; exact absurd y1 c_168; exact y1⟩, eD.1 (by omega)⟩, rfl⟩))
            · skip
              refine xw_aload_n dX10_findRing_192 rfl ?_
              refine xw_getfield dX10_findRing_193 fl_X10_112 h38 rfl ?_
              refine xw_iload dX10_findRing_196 rfl ?_
              refine xw_iald dX10_findRing_198 h70 (j := i) rfl (by omega) (by decide) ?_
              refine xw_topi (N i : Int) (hon9 i (by omega)) ?_
              refine xw_istore dX10_findRing_199 (by decide) ?_
              first
                | exact xw_ls [(0, vR 38), (1, vI k), (2, vI (least : Int)), (4, vI (N a : Int)), (5, vI nx), (6, vI (i : Int))] ⟨rfl, rfl, rfl, rfl, rfl, rfl, trivial⟩ (nb9 nx (Or.inl ⟨fun x => by have := (eE.1 x.1).1; omega, rfl⟩))
                | exact xw_ls [(0, vR 38), (1, vI k), (2, vI (least : Int)), (4, vI (N a : Int)), (5, vI nx), (6, vI (i : Int))] ⟨rfl, rfl, rfl, rfl, rfl, rfl, trivial⟩ (nb9 nx (Or.inl ⟨fun x => by rcases q1 with ⟨_, y1⟩ | ⟨y1, _⟩; exact y1 (eE.1 x.1).2; exact absurd c_168 (by omega), rfl⟩))
                | exact xw_ls [(0, vR 38), (1, vI k), (2, vI (least : Int)), (4, vI (N a : Int)), (5, vI nx), (6, vI (i : Int))] ⟨rfl, rfl, rfl, rfl, rfl, rfl, trivial⟩ (nb9 nx (Or.inl ⟨fun x => by have := eD.2 x.2; omega, rfl⟩))
                | exact xw_ls [(0, vR 38), (1, vI k), (2, vI (least : Int)), (4, vI (N a : Int)), (5, vI (N i : Int)), (6, vI (i : Int))] ⟨rfl, rfl, rfl, rfl, rfl, rfl, trivial⟩ (nb9 _ (Or.inr ⟨⟨eE.2 ⟨by omega, by rcases q1 with ⟨y1, _⟩ | ⟨_, y1⟩; exact absurd y1 c_168; exact y1⟩, eD.1 (by omega)⟩, rfl⟩))
  have LW : ∀ (p least : Nat) (aw : Nat → Int), least ≤ 41 → rgP E sz kn k p least → awOK E p sz aw → ∀ (u r : Nat) (q : Nat → Nat) (F : xH) (m1 : Nat → Int), r + u = least → 1 ≤ r → gR f F m m1 → kS F m1 sz N B kn kc → awF F sz N aw → m1 53 = (r : Int) → rgS E p least q r → (∀ r', r' < r → q r' < sz ∧ kn (q r') = k) → rgF F N q r → xw g M_X10_findRing Q 0 0 97 [(0, vR 38), (1, vI k), (2, vI (least : Int))] [] n F := by
    intro p least aw hl41 hP hok u
    induction u with
    | zero =>
      intro r q F m1 hr hr1 hG hK ha m53 hR hqs hrF
      obtain rfl : r = least := by omega
      refine xw_aload_n dX10_findRing_97 rfl ?_
      refine xw_getfield dX10_findRing_98 fl_X10_307 hG.2.1 rfl ?_
      refine xw_topi (r : Int) m53 ?_
      refine xw_iload_n dX10_findRing_101 rfl ?_
      refine xw_icmpge (tgt := 231) dX10_findRing_102 (by decide) (by first | assumption | (unfold inI; omega) | (unfold inI at *; omega)) (by first | assumption | (unfold inI; omega) | (unfold inI at *; omega)) (fun c_102 => ?_) (fun c_102 => ?_)
      · skip
        exact xw_vret dX10_findRing_231 rfl (hq F m1 p r q hG hP hR (fun r' h' => (hqs r' h').1) hrF m53 hl41)
      · skip
        exfalso; omega
    | succ u ih =>
      intro r q F m1 hr hr1 hG hK ha m53 hR hqs hrF
      have h38 := hG.2.1
      obtain ⟨rg, h73, hr9⟩ := id hrF
      have qa := hqs (r - 1) (by omega)
      have na := hN.2 _ qa.1
      have m49' : m1 49 = (sz : Int) := hK.1
      have hex := ring_ex (a := q (r - 1)) hP.2.2.1 hr1 (by omega : r < least) (by
        by_cases e : r = 1
        · subst e; exact Or.inl ⟨rfl, hR.1⟩
        · exact Or.inr (hR.2 (r - 1) (by omega) (by omega)).2.1)
      have CN : ∀ i, i < sz → E i (q (r - 1)) → DS E p i (least - r) → (∀ i', i' < i → ¬ (E i' (q (r - 1)) ∧ DS E p i' (least - r))) → xw g M_X10_findRing Q 0 0 207 [(0, vR 38), (1, vI k), (2, vI (least : Int)), (5, vI (N i : Int))] [] n F := by
        intro i hi c1 c2 c3
        refine xw_aload_n dX10_findRing_207 rfl ?_
        refine xw_getfield dX10_findRing_208 fl_X10_121 h38 rfl ?_
        refine xw_aload_n dX10_findRing_211 rfl ?_
        refine xw_getfield dX10_findRing_212 fl_X10_307 h38 rfl ?_
        refine xw_topi (r : Int) m53 ?_
        refine xw_iload dX10_findRing_215 rfl ?_
        refine xw_iast dX10_findRing_217 h73 (j := r) rfl (by omega) (by decide) ?_
        refine xw_aload_n dX10_findRing_218 rfl ?_
        refine xw_dup dX10_findRing_219 rfl ?_
        refine xw_getfield dX10_findRing_220 fl_X10_307 h38 rfl ?_
        refine xw_topi (r : Int) m53 ?_
        refine xw_iconst dX10_findRing_223 ?_
        refine xw_iadd dX10_findRing_224 ?_
        refine xw_topi ((r + 1 : Nat) : Int) (by omega) ?_
        refine xw_putfield dX10_findRing_225 (fp_X10_307 _) h38 rfl rfl ?_
        rw [xmd_53]
        refine xw_goto (tgt := 97) dX10_findRing_228 (by decide) ?_
        exact xw_ls [(0, vR 38), (1, vI k), (2, vI (least : Int))] ⟨rfl, rfl, rfl, trivial⟩ (ih (r + 1) (xui q r i) _ _ (by omega) (by omega) (gR_38 (k := 53) (gR_up (t := 0) (N := 41) (k := 73) hG (by decide) (by decide) (by decide)) (by unfold grk; omega)) (kS_fr hK rfl rfl rfl (xui_n _ _ (by decide)) (xui_n _ _ (by decide))) (awF_fr ha rfl) (xui_s _ _ _) ⟨by rw [xui_n _ _ (by omega)]; exact hR.1, fun r' z1 z2 => by
          by_cases e : r' = r
          · subst e; rw [xui_s, xui_n _ _ (by omega)]; exact ⟨c1, c2, c3⟩
          · rw [xui_n _ _ e, xui_n _ _ (by omega)]; exact hR.2 r' z1 (by omega)⟩ (fun r' z1 => by
          by_cases e : r' = r
          · subst e; rw [xui_s]; exact ⟨hi, by rw [hE] at c1; exact c1.1.2⟩
          · rw [xui_n _ _ e]; exact hqs r' (by omega)) ⟨_, rfl, fun r' z1 => by
          by_cases e : r' = r
          · subst e; rw [xui_s, xui_s]
          · rw [xui_n _ _ e, xui_n _ _ e]; exact hr9 r' (by omega)⟩)
      refine xw_aload_n dX10_findRing_97 rfl ?_
      refine xw_getfield dX10_findRing_98 fl_X10_307 h38 rfl ?_
      refine xw_topi (r : Int) m53 ?_
      refine xw_iload_n dX10_findRing_101 rfl ?_
      refine xw_icmpge (tgt := 231) dX10_findRing_102 (by decide) (by first | assumption | (unfold inI; omega) | (unfold inI at *; omega)) (by first | assumption | (unfold inI; omega) | (unfold inI at *; omega)) (fun c_102 => ?_) (fun c_102 => ?_)
      · skip
        exfalso; omega
      · skip
        refine xw_aload_n dX10_findRing_105 rfl ?_
        refine xw_getfield dX10_findRing_106 fl_X10_121 h38 rfl ?_
        refine xw_aload_n dX10_findRing_109 rfl ?_
        refine xw_getfield dX10_findRing_110 fl_X10_307 h38 rfl ?_
        refine xw_topi (r : Int) m53 ?_
        refine xw_iconst dX10_findRing_113 ?_
        refine xw_isub dX10_findRing_114 ?_
        refine xw_iald dX10_findRing_115 h73 (j := r - 1) (by omega) (by omega) (by decide) ?_
        refine xw_topi (N (q (r - 1)) : Int) (hr9 (r - 1) (by omega)) ?_
        refine xw_istore dX10_findRing_116 (by decide) ?_
        refine xw_iconst dX10_findRing_118 ?_
        refine xw_istore dX10_findRing_119 (by decide) ?_
        refine xw_aload_n dX10_findRing_121 rfl ?_
        refine xw_getfield dX10_findRing_122 fl_X10_285 h38 rfl ?_
        refine xw_topi (sz : Int) m49' ?_
        refine xw_iconst dX10_findRing_125 ?_
        refine xw_isub dX10_findRing_126 ?_
        refine xw_istore dX10_findRing_127 (by decide) ?_
        exact xw_ls [(0, vR 38), (1, vI k), (2, vI (least : Int)), (4, vI (N (q (r - 1)) : Int)), (5, vI (-1)), (6, vI ((sz : Int) - 1))] ⟨rfl, rfl, rfl, rfl, rfl, rfl, trivial⟩ (LN p least aw (q (r - 1)) r F m1 hl41 qa.1 qa.2 hok h38 m53 m49' hK ha hr1 (by omega) CN hex sz (-1) (Nat.le_refl _) (Or.inl ⟨rfl, fun i z1 z2 => by omega⟩))
  have LS9 : ∀ (p least : Nat) (F : xH), rgP E sz kn k p least → least ≤ 41 → gR f F m m → kS F m sz N B kn kc → xw g M_X10_findRing Q 0 0 78 [(0, vR 38), (1, vI k), (2, vI (least : Int)), (3, vI (N p : Int))] [] n F := by
    intro p least F hP hl41 hG hK
    have h38 := hG.2.1
    obtain ⟨rg, h73⟩ := msh_at hG.2.2.2 (k := 73) (t := 0) (N := 41) (by decide)
    have G2 := gR_38 (k := 53) (x := 1) (gR_up (t := 0) (N := 41) (k := 73) (c := xui rg 0 (N p : Int)) hG (by decide) (by decide) (by decide)) (by unfold grk; omega)
    have K2 : kS (xup (xup F 73 (arr 0 41 (xui rg 0 (N p : Int)))) 38 (oMd (xui m 53 1))) (xui m 53 1) sz N B kn kc := kS_fr hK rfl rfl rfl (xui_n _ _ (by decide)) (xui_n _ _ (by decide))
    refine xw_aload_n dX10_findRing_78 rfl ?_
    refine xw_getfield dX10_findRing_79 fl_X10_121 h38 rfl ?_
    refine xw_iconst dX10_findRing_82 ?_
    refine xw_iload_n dX10_findRing_83 rfl ?_
    refine xw_iast dX10_findRing_84 h73 (j := 0) rfl (by decide) (by decide) ?_
    refine xw_aload_n dX10_findRing_85 rfl ?_
    refine xw_iconst dX10_findRing_86 ?_
    refine xw_putfield dX10_findRing_87 (fp_X10_307 _) h38 rfl rfl ?_
    rw [xmd_53]
    refine xw_ls [(0, vR 38), (1, vI k), (2, vI (least : Int)), (3, vI (N p : Int))] ⟨rfl, rfl, rfl, rfl, trivial⟩ ?_
    refine xw_aload_n dX10_findRing_90 rfl ?_
    refine xw_iload_n dX10_findRing_91 rfl ?_
    refine xw_iload_n dX10_findRing_92 rfl ?_
    refine xw_callV (rc := 0) (rs := 0) (mc2 := 0) (ms2 := 0) (a := 38) (As := [vI (N p : Int), vI k]) (st := []) dX10_findRing_93 mv_X10_303 rfl rfl rfl (by decide) (by decide) (Nat.le_of_ble_eq_true rfl) rfl (ct_shortest rfl G2.2.2.2 hN hgn h40 K2 hkn hk hP.1 hP.2.1 (hir p hP.1) (hcy p hP.1 hP.2.1) (fun F3 aw r G3 K3 a3 ok3 fr3 sh3 r3 => ?_))
    refine xw_pop dX10_findRing_96 rfl ?_
    exact xw_ls [(0, vR 38), (1, vI k), (2, vI (least : Int))] ⟨rfl, rfl, rfl, trivial⟩ (LW p least aw hl41 hP (by rw [hE]; exact ok3) (least - 1) 1 (fun _ => p) F3 _ (by have := hP.2.2.1.1; omega) (Nat.le_refl 1) (gR_tr G2 G3) K3 a3 rfl ⟨rfl, fun r' z1 z2 => by omega⟩ (fun r' _ => ⟨hP.1, hP.2.1⟩) ⟨_, (fr3 73 (by decide)).trans rfl, fun r' z1 => by
      have e : r' = 0 := by omega
      subst e; rw [xui_s]⟩)
  have LI : ∀ (i1 : Nat) (le fi : Int) (F : xH), i1 ≤ sz → gR f F m m → kS F m sz N B kn kc → ((le = 1000 ∧ fi = -1 ∧ ∀ q, i1 ≤ q → q < sz → kn q ≠ k) ∨ ∃ p least : Nat, i1 ≤ p ∧ p < sz ∧ kn p = k ∧ fi = (N p : Int) ∧ le = (least : Int) ∧ least ≤ 41 ∧ SH E p least ∧ ∀ p' v, i1 ≤ p' → p' < sz → kn p' = k → SH E p' v → least ≤ v ∧ (p' < p → least < v)) → xw g M_X10_findRing Q 0 0 14 [(0, vR 38), (1, vI k), (2, vI le), (3, vI fi), (4, vI ((i1 : Int) - 1))] [] n F := by
    intro i1
    induction i1 with
    | zero =>
      intro le fi F hi hG hK hle
      have fin : ∃ p least : Nat, fi = (N p : Int) ∧ le = (least : Int) ∧ least ≤ 41 ∧ rgP E sz kn k p least := by
        rcases hle with ⟨_, _, x⟩ | ⟨p, least, _, x1, x2, x3, x4, x5, x6, x7⟩
        · obtain ⟨p, h1, h2⟩ := hm9
          exact absurd h2 (x p (Nat.zero_le _) h1)
        · exact ⟨p, least, x3, x4, x5, x1, x2, x6, fun p' v z1 z2 z3 => x7 p' v (Nat.zero_le _) z1 z2 z3⟩
      obtain ⟨p, least, rfl, rfl, x3, x4⟩ := fin
      refine xw_iload dX10_findRing_14 rfl ?_
      refine xw_iflt (tgt := 78) dX10_findRing_16 (by decide) (by first | assumption | (unfold inI; omega) | (unfold inI at *; omega)) (fun c_16 => ?_) (fun c_16 => ?_)
      · skip
        exact xw_ls [(0, vR 38), (1, vI k), (2, vI (least : Int)), (3, vI (N p : Int))] ⟨rfl, rfl, rfl, rfl, trivial⟩ (LS9 p least F x4 x3 hG hK)
      · skip
        exfalso; omega
    | succ i ih =>
      intro le fi F hi hG hK hle
      have h38 := hG.2.1
      obtain ⟨on, h70, hon9⟩ := id hK.2.1
      obtain ⟨ko, h72, hk9⟩ := id hK.2.2.2.2
      have e9 : (((i + 1 : Nat) : Int) - 1) = (i : Int) := by omega
      rw [e9]
      have ni := hN.2 i (by omega)
      have ki := hk9 i (by omega)
      have iki : inI (ko (N i)) := by rw [ki]; exact hkn i (by omega)
      have leb : 0 ≤ le ∧ le ≤ 1000 := by
        rcases hle with ⟨x, _⟩ | ⟨p, least, _, x1, x2, x3, x4, x5, _⟩ <;> omega
      have nx : ∀ (le2 fi2 : Int) (F2 : xH), gR f F2 m m → kS F2 m sz N B kn kc → (kn i ≠ k ∧ le2 = le ∧ fi2 = fi) ∨ (kn i = k ∧ ∃ v : Nat, SH E i v ∧ v ≤ 41 ∧ ((le < (v : Int) ∧ le2 = le ∧ fi2 = fi) ∨ ((v : Int) ≤ le ∧ le2 = (v : Int) ∧ fi2 = (N i : Int)))) → xw g M_X10_findRing Q 0 0 72 [(0, vR 38), (1, vI k), (2, vI le2), (3, vI fi2), (4, vI (i : Int))] [] n F2 := by
        intro le2 fi2 F2 hG2 hK2 h2
        refine xw_iinc dX10_findRing_72 rfl (by decide) ?_
        refine xw_goto (tgt := 14) dX10_findRing_75 (by decide) ?_
        exact xw_ls [(0, vR 38), (1, vI k), (2, vI le2), (3, vI fi2), (4, vI ((i : Int) - 1))] ⟨rfl, rfl, rfl, rfl, congrArg (fun z => some (vI z)) (by omega : (i : Int) + -1 = (i : Int) - 1), trivial⟩ (ih le2 fi2 F2 (by omega) hG2 hK2 (by
          rcases h2 with ⟨x1, rfl, rfl⟩ | ⟨x1, v, x2, x3, ⟨x4, rfl, rfl⟩ | ⟨x4, rfl, rfl⟩⟩
          · rcases hle with ⟨y1, y2, y3⟩ | ⟨p, least, y1, y2, y3, y4, y5, y6, y7, y8⟩
            · refine Or.inl ⟨y1, y2, fun q z1 z2 => ?_⟩
              by_cases e : q = i
              · subst e; exact x1
              · exact y3 q (by omega) z2
            · refine Or.inr ⟨p, least, by omega, y2, y3, y4, y5, y6, y7, fun p' w z1 z2 z3 z4 => ?_⟩
              by_cases e : p' = i
              · subst e; exact absurd z3 x1
              · exact y8 p' w (by omega) z2 z3 z4
          · rcases hle with ⟨y1, y2, y3⟩ | ⟨p, least, y1, y2, y3, y4, y5, y6, y7, y8⟩
            · omega
            · refine Or.inr ⟨p, least, by omega, y2, y3, y4, y5, y6, y7, fun p' w z1 z2 z3 z4 => ?_⟩
              by_cases e : p' = i
              · subst e
                have := SH_u x2 z4
                omega
              · exact y8 p' w (by omega) z2 z3 z4
          · refine Or.inr ⟨i, v, Nat.le_refl _, by omega, x1, rfl, rfl, x3, x2, fun p' w z1 z2 z3 z4 => ?_⟩
            by_cases e : p' = i
            · subst e
              have := SH_u x2 z4
              omega
            · rcases hle with ⟨y1, y2, y3⟩ | ⟨p, least, y1, y2, y3, y4, y5, y6, y7, y8⟩
              · exact absurd z3 (y3 p' (by omega) z2)
              · have := y8 p' w (by omega) z2 z3 z4
                omega))
      refine xw_iload dX10_findRing_14 rfl ?_
      refine xw_iflt (tgt := 78) dX10_findRing_16 (by decide) (by first | assumption | (unfold inI; omega) | (unfold inI at *; omega)) (fun c_16 => ?_) (fun c_16 => ?_)
      · skip
        exfalso; omega
      · skip
        refine xw_aload_n dX10_findRing_19 rfl ?_
        refine xw_getfield dX10_findRing_20 fl_X10_118 h38 rfl ?_
        refine xw_aload_n dX10_findRing_23 rfl ?_
        refine xw_getfield dX10_findRing_24 fl_X10_112 h38 rfl ?_
        refine xw_iload dX10_findRing_27 rfl ?_
        refine xw_iald dX10_findRing_29 h70 (j := i) rfl (by omega) (by decide) ?_
        refine xw_topi (N i : Int) (hon9 i (by omega)) ?_
        refine xw_iald dX10_findRing_30 h72 (j := N i) rfl (by omega) (by decide) ?_
        refine xw_iload_n dX10_findRing_31 rfl ?_
        refine xw_icmpeq (tgt := 38) dX10_findRing_32 (by decide) iki hk (fun c_32 => ?_) (fun c_32 => ?_)
        · skip
          refine xw_aload_n dX10_findRing_38 rfl ?_
          refine xw_aload_n dX10_findRing_39 rfl ?_
          refine xw_getfield dX10_findRing_40 fl_X10_112 h38 rfl ?_
          refine xw_iload dX10_findRing_43 rfl ?_
          refine xw_iald dX10_findRing_45 h70 (j := i) rfl (by omega) (by decide) ?_
          refine xw_topi (N i : Int) (hon9 i (by omega)) ?_
          refine xw_iload_n dX10_findRing_46 rfl ?_
          have hki : kn i = k := by omega
          refine xw_callV (rc := 0) (rs := 0) (mc2 := 0) (ms2 := 0) (a := 38) (As := [vI (N i : Int), vI k]) (st := []) dX10_findRing_47 mv_X10_303 h38 rfl rfl (by decide) (by decide) (Nat.le_of_ble_eq_true rfl) rfl (ct_shortest h38 hG.2.2.2 hN hgn h40 hK hkn hk (by omega) hki (hir i (by omega)) (hcy i (by omega) hki) (fun F3 aw r G3 K3 a3 ok3 fr3 sh3 r3 => ?_))
          obtain ⟨on3, h703, hon93⟩ := id K3.2.1
          rw [← hE] at sh3
          refine xw_istore dX10_findRing_50 (by decide) ?_
          refine xw_iload dX10_findRing_52 rfl ?_
          refine xw_iload_n dX10_findRing_54 rfl ?_
          refine xw_icmple (tgt := 61) dX10_findRing_55 (by decide) (by first | assumption | (unfold inI; omega) | (unfold inI at *; omega)) (by first | assumption | (unfold inI; omega) | (unfold inI at *; omega)) (fun c_55 => ?_) (fun c_55 => ?_)
          · skip
            refine xw_iload dX10_findRing_61 rfl ?_
            refine xw_istore_n dX10_findRing_63 (by decide) ?_
            refine xw_aload_n dX10_findRing_64 rfl ?_
            refine xw_getfield dX10_findRing_65 fl_X10_112 G3.2.1 rfl ?_
            refine xw_iload dX10_findRing_68 rfl ?_
            refine xw_iald dX10_findRing_70 h703 (j := i) rfl (by omega) (by decide) ?_
            refine xw_topi (N i : Int) (hon93 i (by omega)) ?_
            refine xw_istore_n dX10_findRing_71 (by decide) ?_
            first
              | exact xw_ls [(0, vR 38), (1, vI k), (2, vI le), (3, vI fi), (4, vI (i : Int))] ⟨rfl, rfl, rfl, rfl, rfl, trivial⟩ (nx le fi F hG hK (Or.inl ⟨by omega, rfl, rfl⟩))
              | exact xw_ls [(0, vR 38), (1, vI k), (2, vI le), (3, vI fi), (4, vI (i : Int))] ⟨rfl, rfl, rfl, rfl, rfl, trivial⟩ (nx le fi F3 (gR_tr hG G3) K3 (Or.inr ⟨hki, r, sh3, r3, Or.inl ⟨by omega, rfl, rfl⟩⟩))
              | exact xw_ls [(0, vR 38), (1, vI k), (2, vI (r : Int)), (3, vI (N i : Int)), (4, vI (i : Int))] ⟨rfl, rfl, rfl, rfl, rfl, trivial⟩ (nx _ _ F3 (gR_tr hG G3) K3 (Or.inr ⟨hki, r, sh3, r3, Or.inr ⟨by omega, rfl, rfl⟩⟩))
          · skip
            refine xw_goto (tgt := 72) dX10_findRing_58 (by decide) ?_
            first
              | exact xw_ls [(0, vR 38), (1, vI k), (2, vI le), (3, vI fi), (4, vI (i : Int))] ⟨rfl, rfl, rfl, rfl, rfl, trivial⟩ (nx le fi F hG hK (Or.inl ⟨by omega, rfl, rfl⟩))
              | exact xw_ls [(0, vR 38), (1, vI k), (2, vI le), (3, vI fi), (4, vI (i : Int))] ⟨rfl, rfl, rfl, rfl, rfl, trivial⟩ (nx le fi F3 (gR_tr hG G3) K3 (Or.inr ⟨hki, r, sh3, r3, Or.inl ⟨by omega, rfl, rfl⟩⟩))
              | exact xw_ls [(0, vR 38), (1, vI k), (2, vI (r : Int)), (3, vI (N i : Int)), (4, vI (i : Int))] ⟨rfl, rfl, rfl, rfl, rfl, trivial⟩ (nx _ _ F3 (gR_tr hG G3) K3 (Or.inr ⟨hki, r, sh3, r3, Or.inr ⟨by omega, rfl, rfl⟩⟩))
        · skip
          refine xw_goto (tgt := 72) dX10_findRing_35 (by decide) ?_
          first
            | exact xw_ls [(0, vR 38), (1, vI k), (2, vI le), (3, vI fi), (4, vI (i : Int))] ⟨rfl, rfl, rfl, rfl, rfl, trivial⟩ (nx le fi F hG hK (Or.inl ⟨by omega, rfl, rfl⟩))
            | exact xw_ls [(0, vR 38), (1, vI k), (2, vI le), (3, vI fi), (4, vI (i : Int))] ⟨rfl, rfl, rfl, rfl, rfl, trivial⟩ (nx le fi F3 (gR_tr hG G3) K3 (Or.inr ⟨hki, r, sh3, r3, Or.inl ⟨by omega, rfl, rfl⟩⟩))
            | exact xw_ls [(0, vR 38), (1, vI k), (2, vI (r : Int)), (3, vI (N i : Int)), (4, vI (i : Int))] ⟨rfl, rfl, rfl, rfl, rfl, trivial⟩ (nx _ _ F3 (gR_tr hG G3) K3 (Or.inr ⟨hki, r, sh3, r3, Or.inr ⟨by omega, rfl, rfl⟩⟩))
  refine xw_sipush (z := 1000) dX10_findRing_0 (by decide) ?_
  refine xw_istore_n dX10_findRing_3 (by decide) ?_
  refine xw_iconst dX10_findRing_4 ?_
  refine xw_istore_n dX10_findRing_5 (by decide) ?_
  refine xw_aload_n dX10_findRing_6 rfl ?_
  refine xw_getfield dX10_findRing_7 fl_X10_285 hg rfl ?_
  refine xw_topi (sz : Int) m49 ?_
  refine xw_iconst dX10_findRing_10 ?_
  refine xw_isub dX10_findRing_11 ?_
  refine xw_istore dX10_findRing_12 (by decide) ?_
  exact xw_ls [(0, vR 38), (1, vI k), (2, vI 1000), (3, vI (-1)), (4, vI ((sz : Int) - 1))] ⟨rfl, rfl, rfl, rfl, rfl, trivial⟩ (LI sz 1000 (-1) f (Nat.le_refl _) (gR_rf hg hsh) hS (Or.inl ⟨rfl, rfl, fun q z1 z2 => by omega⟩))
end C9e
