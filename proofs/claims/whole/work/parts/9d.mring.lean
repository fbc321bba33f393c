/-! the model: rings -/
def rgS (E : Nat → Nat → Prop) (p least : Nat) (q : Nat → Nat) (r : Nat) : Prop := q 0 = p ∧ ∀ r', 0 < r' → r' < r → E (q r') (q (r' - 1)) ∧ DS E p (q r') (least - r') ∧ ∀ i, i < q r' → ¬ (E i (q (r' - 1)) ∧ DS E p i (least - r'))
def rgP (E : Nat → Nat → Prop) (sz : Nat) (kn : Nat → Int) (k : Int) (p least : Nat) : Prop := p < sz ∧ kn p = k ∧ SH E p least ∧ ∀ p' v, p' < sz → kn p' = k → SH E p' v → least ≤ v ∧ (p' < p → least < v)
theorem SH_u {E : Nat → Nat → Prop} {p v w : Nat} (h : SH E p v) (h1 : SH E p w) : v = w := by
  have a : ¬ v < w := fun x => h1.2.2 v h.1 x h.2.1
  have b : ¬ w < v := fun x => h.2.2 w h1.1 x h1.2.1
  omega
theorem SH_ex {E : Nat → Nat → Prop} {p : Nat} : ∀ v, 1 ≤ v → pth E p v p → ∃ w, w ≤ v ∧ SH E p w := by
  intro v
  induction v using Nat.strongRecOn with
  | ind v ih =>
    intro h1 h
    by_cases e : ∃ w, 1 ≤ w ∧ w < v ∧ pth E p w p
    · obtain ⟨w, hw1, hw, hp⟩ := e
      obtain ⟨x, hx, hd⟩ := ih w hw hw1 hp
      exact ⟨x, by omega, hd⟩
    · exact ⟨v, Nat.le_refl _, h1, h, fun w hw1 hw hp => e ⟨w, hw1, hw, hp⟩⟩
/-- the next one of a ring is there -/
theorem ring_ex {E : Nat → Nat → Prop} {p least a r : Nat} (hS : SH E p least) (hr1 : 1 ≤ r) (hr2 : r < least) (ha : (r = 1 ∧ a = p) ∨ DS E p a (least - (r - 1))) : ∃ i, E i a ∧ DS E p i (least - r) := by
  rcases ha with ⟨rfl, rfl⟩ | hD
  · obtain ⟨l, hl⟩ : ∃ l, least = l + 1 := ⟨least - 1, by omega⟩
    subst hl
    obtain ⟨i, hi, he⟩ := hS.2.1
    refine ⟨i, he, hi, fun w hw hp => ?_⟩
    exact hS.2.2 (w + 1) (by omega) (by omega) ⟨i, hp, he⟩
  · obtain ⟨l, hl⟩ : ∃ l, least - (r - 1) = l + 1 := ⟨least - r, by omega⟩
    rw [hl] at hD
    obtain ⟨i, hi, he⟩ := hD.1
    have e : least - r = l := by omega
    rw [e]
    exact ⟨i, he, hi, fun w hw hp => hD.2 (w + 1) (by omega) ⟨i, hp, he⟩⟩
section C9d
variable {g : xG} {y : xM} {Q : xP} {n : Nat} {f : xH} {gn : Nat} {σ : Nat → xSt} {m : Nat → Int} {sz : Nat} {N : Nat → Nat} {B : Nat → Nat → Prop} {kn : Nat → Int} {kc : Nat} {k : Int}
set_option maxHeartbeats 8000000 in
theorem ct_shortest {p : Nat} (hg : f 38 = some (oMd m)) (hsh : msh f) (hN : onO gn σ sz N) (hgn : gn ≤ 100) (h40 : sz ≤ 40) (hS : kS f m sz N B kn kc) (hkn : ∀ i, i < sz → inI (kn i)) (hk : inI k) (hp : p < sz) (hkp : kn p = k) (hir : ¬ B p p) (hcy : ∃ v, 1 ≤ v ∧ pth (kE sz kn k B) p v p) (hq : ∀ F aw (r : Nat), gR f F m m → kS F m sz N B kn kc → awF F sz N aw → awOK (kE sz kn k B) p sz aw → fr [74] f F → SH (kE sz kn k B) p r → r ≤ 41 → Q (.inl (some (vI (r : Int)))) n F) : xct g M_X10_shortest 0 0 [vR 38, vI (N p : Int), vI k] n f Q := by
  refine xct_of rfl rfl (Nat.le_of_ble_eq_true rfl) ?_
  obtain ⟨E, hE⟩ : ∃ E, E = kE sz kn k B := ⟨_, rfl⟩
  have np := hN.2 p hp
  have m49 := hS.1
  rw [← hE] at hq hcy
  have LI : ∀ (F : xH) (aw : Nat → Int), gR f F m m → kS F m sz N B kn kc → awF F sz N aw → awOK E p sz aw → fr [74] f F → ∀ (t i : Nat) (le : Int), i + t = sz → ((le = 1000 ∧ ∀ q, q < i → E q p → aw q = -1) ∨ ((∃ q, q < i ∧ E q p ∧ aw q ≠ -1 ∧ le = aw q + 1) ∧ ∀ q, q < i → E q p → aw q ≠ -1 → le ≤ aw q + 1)) → xw g M_X10_shortest Q 0 0 13 [(0, vR 38), (1, vI (N p : Int)), (2, vI k), (3, vI le), (4, vI (i : Int))] [] n F := by
    intro F aw hG hK ha hok hfr t
    have h38 := hG.2.1
    obtain ⟨on, h70, hon9⟩ := id hK.2.1
    obtain ⟨br, h67, hb9⟩ := id hK.2.2.1
    obtain ⟨ko, h72, hk9⟩ := id hK.2.2.2.2
    obtain ⟨aa, h74, ha9⟩ := id ha
    induction t with
    | zero =>
      intro i le hi hle
      have fin : ∃ r : Nat, le = (r : Int) ∧ SH E p r ∧ r ≤ 41 := by
        have lo : ∀ w, 1 ≤ w → pth E p w p → le ≠ 1000 ∧ le ≤ (w : Int) := by
          intro w hw hpw
          obtain ⟨w', rfl⟩ : ∃ w', w = w' + 1 := ⟨w - 1, by omega⟩
          obtain ⟨q, hq1, hq2⟩ := hpw
          have qs : q < sz := by rw [hE] at hq2; exact hq2.1.1
          rcases hok q qs with ⟨_, x⟩ | ⟨v, x1, x2, x3⟩
          · exact absurd hq1 (x w')
          · have x4 : v ≤ w' := Nat.le_of_not_lt (fun z => x3.2 w' z hq1)
            have x5 : aw q ≠ -1 := by omega
            rcases hle with ⟨_, y2⟩ | ⟨⟨q0, y0, y1, y2, y3⟩, y4⟩
            · exact absurd (y2 q (by omega) hq2) x5
            · have z1 := y4 q (by omega) hq2 x5
              have q0s : q0 < sz := by omega
              rcases hok q0 q0s with ⟨x, _⟩ | ⟨v0, z2, z3, _⟩
              · exact absurd x y2
              · omega
        obtain ⟨v, hv1, hv2⟩ := hcy
        have l9 := lo v hv1 hv2
        rcases hle with ⟨y1, _⟩ | ⟨⟨q0, y0, y1, y2, y3⟩, y4⟩
        · exact absurd y1 l9.1
        · rcases hok q0 (by omega) with ⟨x, _⟩ | ⟨v0, z2, z3, z4⟩
          · exact absurd x y2
          · refine ⟨v0 + 1, by omega, ⟨by omega, ⟨q0, z4.1, y1⟩, fun w hw1 hw2 hpw => ?_⟩, by omega⟩
            have := (lo w hw1 hpw).2
            omega
      obtain ⟨r, hr1, hr2, hr3⟩ := fin
      refine xw_iload dX10_shortest_13 rfl ?_
      refine xw_aload_n dX10_shortest_15 rfl ?_
      refine xw_getfield dX10_shortest_16 fl_X10_285 h38 rfl ?_
      refine xw_topi (sz : Int) m49 ?_
      refine xw_icmpge (tgt := 103) dX10_shortest_19 (by decide) (by first | assumption | (unfold inI; omega) | (unfold inI at *; omega)) (by first | assumption | (unfold inI; omega) | (unfold inI at *; omega)) (fun c_19 => ?_) (fun c_19 => ?_)
      · skip
        refine xw_iload_n dX10_shortest_103 rfl ?_
        refine xw_topi (r : Int) hr1 ?_
        exact xw_iret dX10_shortest_104 rfl (hq F aw r hG hK ha hok hfr hr2 hr3)
      · skip
        exfalso; omega
    | succ t ih =>
      intro i le hi hle
      have ni := hN.2 i (by omega)
      have q1 := hb9 i p (by omega) hp
      have ki := hk9 i (by omega)
      have ai := ha9 i (by omega)
      have iki : inI (ko (N i)) := by rw [ki]; exact hkn i (by omega)
      have aib : -1 ≤ aw i ∧ aw i ≤ 40 := by
        rcases hok i (by omega) with ⟨x, _⟩ | ⟨v, x, x2, _⟩ <;> omega
      have leb : -1 ≤ le ∧ le ≤ 1000 := by
        rcases hle with ⟨x, _⟩ | ⟨⟨q0, y0, y1, y2, y3⟩, _⟩
        · omega
        · rcases hok q0 (by omega) with ⟨x, _⟩ | ⟨v0, z2, z3, z4⟩ <;> omega
      have nx : ∀ le2 : Int, (¬ (E i p ∧ aw i ≠ -1) ∧ le2 = le) ∨ ((E i p ∧ aw i ≠ -1) ∧ le ≤ aw i + 1 ∧ le2 = le) ∨ ((E i p ∧ aw i ≠ -1) ∧ aw i + 1 < le ∧ le2 = aw i + 1) → xw g M_X10_shortest Q 0 0 97 [(0, vR 38), (1, vI (N p : Int)), (2, vI k), (3, vI le2), (4, vI (i : Int))] [] n F := by
        intro le2 h2
        refine xw_iinc dX10_shortest_97 rfl (by decide) ?_
        refine xw_goto (tgt := 13) dX10_shortest_100 (by decide) ?_
        exact xw_ls [(0, vR 38), (1, vI (N p : Int)), (2, vI k), (3, vI le2), (4, vI ((i + 1 : Nat) : Int))] ⟨rfl, rfl, rfl, rfl, rfl, trivial⟩ (ih (i + 1) le2 (by omega) (by
          rcases h2 with ⟨x1, rfl⟩ | ⟨x1, x2, rfl⟩ | ⟨x1, x2, rfl⟩
          · rcases hle with ⟨y1, y2⟩ | ⟨⟨q0, y0, y1, y2, y3⟩, y4⟩
            · refine Or.inl ⟨y1, fun q hq9 he => ?_⟩
              by_cases e : q = i
              · subst e; exact Classical.byContradiction (fun z => x1 ⟨he, z⟩)
              · exact y2 q (by omega) he
            · refine Or.inr ⟨⟨q0, by omega, y1, y2, y3⟩, fun q hq9 he h3 => ?_⟩
              by_cases e : q = i
              · subst e; exact absurd ⟨he, h3⟩ x1
              · exact y4 q (by omega) he h3
          · rcases hle with ⟨y1, y2⟩ | ⟨⟨q0, y0, y1, y2, y3⟩, y4⟩
            · omega
            · refine Or.inr ⟨⟨q0, by omega, y1, y2, y3⟩, fun q hq9 he h3 => ?_⟩
              by_cases e : q = i
              · subst e; exact x2
              · exact y4 q (by omega) he h3
          · refine Or.inr ⟨⟨i, by omega, x1.1, x1.2, rfl⟩, fun q hq9 he h3 => ?_⟩
            by_cases e : q = i
            · subst e; omega
            · rcases hle with ⟨y1, y2⟩ | ⟨_, y4⟩
              · exact absurd (y2 q (by omega) he) h3
              · have := y4 q (by omega) he h3; omega))
      have eE : E i p ↔ (kn i = k ∧ B i p) := by rw [hE]; exact ⟨fun x => ⟨x.1.2, x.2.2⟩, fun x => ⟨⟨by omega, x.1⟩, ⟨hp, hkp⟩, x.2⟩⟩
      refine xw_iload dX10_shortest_13 rfl ?_
      refine xw_aload_n dX10_shortest_15 rfl ?_
      refine xw_getfield dX10_shortest_16 fl_X10_285 h38 rfl ?_
      refine xw_topi (sz : Int) m49 ?_
      refine xw_icmpge (tgt := 103) dX10_shortest_19 (by decide) (by first | assumption | (unfold inI; omega) | (unfold inI at *; omega)) (by first | assumption | (unfold inI; omega) | (unfold inI at *; omega)) (fun c_19 => ?_) (fun c_19 => ?_)
      · skip
        exfalso; omega
      · skip
        refine xw_aload_n dX10_shortest_22 rfl ?_
        refine xw_getfield dX10_shortest_23 fl_X10_112 h38 rfl ?_
        refine xw_iload dX10_shortest_26 rfl ?_
        refine xw_iald dX10_shortest_28 h70 (j := i) rfl (by omega) (by decide) ?_
        refine xw_topi (N i : Int) (hon9 i (by omega)) ?_
        refine xw_istore dX10_shortest_29 (by decide) ?_
        refine xw_aload_n dX10_shortest_31 rfl ?_
        refine xw_getfield dX10_shortest_32 fl_X10_118 h38 rfl ?_
        refine xw_iload dX10_shortest_35 rfl ?_
        refine xw_iald dX10_shortest_37 h72 (j := N i) rfl (by omega) (by decide) ?_
        refine xw_iload_n dX10_shortest_38 rfl ?_
        refine xw_icmpne (tgt := 97) dX10_shortest_39 (by decide) iki hk (fun c_39 => ?_) (fun c_39 => ?_)
        · skip
          first
            | exact xw_ls [(0, vR 38), (1, vI (N p : Int)), (2, vI k), (3, vI le), (4, vI (i : Int))] ⟨rfl, rfl, rfl, rfl, rfl, trivial⟩ (nx le (Or.inl ⟨fun x => by have := (eE.1 x.1).1; omega, rfl⟩))
            | exact xw_ls [(0, vR 38), (1, vI (N p : Int)), (2, vI k), (3, vI le), (4, vI (i : Int))] ⟨rfl, rfl, rfl, rfl, rfl, trivial⟩ (nx le (Or.inl ⟨fun x => x.2 (by omega), rfl⟩))
            | exact xw_ls [(0, vR 38), (1, vI (N p : Int)), (2, vI k), (3, vI le), (4, vI (i : Int))] ⟨rfl, rfl, rfl, rfl, rfl, trivial⟩ (nx le (Or.inl ⟨fun x => by have y9 := (eE.1 x.1).2; rw [onO_inj hN (by omega) hp (by omega : N i = N p)] at y9; exact hir y9, rfl⟩))
            | exact xw_ls [(0, vR 38), (1, vI (N p : Int)), (2, vI k), (3, vI le), (4, vI (i : Int))] ⟨rfl, rfl, rfl, rfl, rfl, trivial⟩ (nx le (Or.inl ⟨fun x => by rcases q1 with ⟨_, y1⟩ | ⟨y1, _⟩; exact y1 (eE.1 x.1).2; exact absurd c_71 (by omega), rfl⟩))
            | exact xw_ls [(0, vR 38), (1, vI (N p : Int)), (2, vI k), (3, vI le), (4, vI (i : Int))] ⟨rfl, rfl, rfl, rfl, rfl, trivial⟩ (nx le (Or.inr (Or.inl ⟨⟨eE.2 ⟨by omega, by rcases q1 with ⟨y1, _⟩ | ⟨_, y1⟩; exact absurd y1 c_71; exact y1⟩, by omega⟩, by omega, rfl⟩)))
            | exact xw_ls [(0, vR 38), (1, vI (N p : Int)), (2, vI k), (3, vI (aw i + 1)), (4, vI (i : Int))] ⟨rfl, rfl, rfl, rfl, rfl, trivial⟩ (nx _ (Or.inr (Or.inr ⟨⟨eE.2 ⟨by omega, by rcases q1 with ⟨y1, _⟩ | ⟨_, y1⟩; exact absurd y1 c_71; exact y1⟩, by omega⟩, by omega, rfl⟩)))
        · skip
          refine xw_iload dX10_shortest_42 rfl ?_
          refine xw_iload_n dX10_shortest_44 rfl ?_
          refine xw_icmpeq (tgt := 97) dX10_shortest_45 (by decide) (by first | assumption | (unfold inI; omega) | (unfold inI at *; omega)) (by first | assumption | (unfold inI; omega) | (unfold inI at *; omega)) (fun c_45 => ?_) (fun c_45 => ?_)
          · skip
            first
              | exact xw_ls [(0, vR 38), (1, vI (N p : Int)), (2, vI k), (3, vI le), (4, vI (i : Int))] ⟨rfl, rfl, rfl, rfl, rfl, trivial⟩ (nx le (Or.inl ⟨fun x => by have := (eE.1 x.1).1; omega, rfl⟩))
              | exact xw_ls [(0, vR 38), (1, vI (N p : Int)), (2, vI k), (3, vI le), (4, vI (i : Int))] ⟨rfl, rfl, rfl, rfl, rfl, trivial⟩ (nx le (Or.inl ⟨fun x => x.2 (by omega), rfl⟩))
              | exact xw_ls [(0, vR 38), (1, vI (N p : Int)), (2, vI k), (3, vI le), (4, vI (i : Int))] ⟨rfl, rfl, rfl, rfl, rfl, trivial⟩ (nx le (Or.inl ⟨fun x => by have y9 := (eE.1 x.1).2; rw [onO_inj hN (by omega) hp (by omega : N i = N p)] at y9; exact hir y9, rfl⟩))
              | exact xw_ls [(0, vR 38), (1, vI (N p : Int)), (2, vI k), (3, vI le), (4, vI (i : Int))] ⟨rfl, rfl, rfl, rfl, rfl, trivial⟩ (nx le (Or.inl ⟨fun x => by rcases q1 with ⟨_, y1⟩ | ⟨y1, _⟩; exact y1 (eE.1 x.1).2; exact absurd c_71 (by omega), rfl⟩))
              | exact xw_ls [(0, vR 38), (1, vI (N p : Int)), (2, vI k), (3, vI le), (4, vI (i : Int))] ⟨rfl, rfl, rfl, rfl, rfl, trivial⟩ (nx le (Or.inr (Or.inl ⟨⟨eE.2 ⟨by omega, by rcases q1 with ⟨y1, _⟩ | ⟨_, y1⟩; exact absurd y1 c_71; exact y1⟩, by omega⟩, by omega, rfl⟩)))
              | exact xw_ls [(0, vR 38), (1, vI (N p : Int)), (2, vI k), (3, vI (aw i + 1)), (4, vI (i : Int))] ⟨rfl, rfl, rfl, rfl, rfl, trivial⟩ (nx _ (Or.inr (Or.inr ⟨⟨eE.2 ⟨by omega, by rcases q1 with ⟨y1, _⟩ | ⟨_, y1⟩; exact absurd y1 c_71; exact y1⟩, by omega⟩, by omega, rfl⟩)))
          · skip
            refine xw_aload_n dX10_shortest_48 rfl ?_
            refine xw_getfield dX10_shortest_49 fl_X10_124 h38 rfl ?_
            refine xw_iload dX10_shortest_52 rfl ?_
            refine xw_iald dX10_shortest_54 h74 (j := N i) rfl (by omega) (by decide) ?_
            refine xw_topi (aw i) ai ?_
            refine xw_iconst dX10_shortest_55 ?_
            refine xw_icmpeq (tgt := 97) dX10_shortest_56 (by decide) (by first | assumption | (unfold inI; omega) | (unfold inI at *; omega)) (by first | assumption | (unfold inI; omega) | (unfold inI at *; omega)) (fun c_56 => ?_) (fun c_56 => ?_)
            · skip
              first
                | exact xw_ls [(0, vR 38), (1, vI (N p : Int)), (2, vI k), (3, vI le), (4, vI (i : Int))] ⟨rfl, rfl, rfl, rfl, rfl, trivial⟩ (nx le (Or.inl ⟨fun x => by have := (eE.1 x.1).1; omega, rfl⟩))
                | exact xw_ls [(0, vR 38), (1, vI (N p : Int)), (2, vI k), (3, vI le), (4, vI (i : Int))] ⟨rfl, rfl, rfl, rfl, rfl, trivial⟩ (nx le (Or.inl ⟨fun x => x.2 (by omega), rfl⟩))
                | exact xw_ls [(0, vR 38), (1, vI (N p : Int)), (2, vI k), (3, vI le), (4, vI (i : Int))] ⟨rfl, rfl, rfl, rfl, rfl, trivial⟩ (nx le (Or.inl ⟨fun x => by have y9 := (eE.1 x.1).2; rw [onO_inj hN (by omega) hp (by omega : N i = N p)] at y9; exact hir y9, rfl⟩))
                | exact xw_ls [(0, vR 38), (1, vI (N p : Int)), (2, vI k), (3, vI le), (4, vI (i : Int))] ⟨rfl, rfl, rfl, rfl, rfl, trivial⟩ (nx le (Or.inl ⟨fun x => by rcases q1 with ⟨_, y1⟩ | ⟨y1, _⟩; exact y1 (eE.1 x.1).2; exact absurd c_71 (by omega), rfl⟩))
                | exact xw_ls [(0, vR 38), (1, vI (N p : Int)), (2, vI k), (3, vI le), (4, vI (i : Int))] ⟨rfl, rfl, rfl, rfl, rfl, trivial⟩ (nx le (Or.inr (Or.inl ⟨⟨eE.2 ⟨by omega, by rcases q1 with ⟨y1, _⟩ | ⟨_, y1⟩; exact absurd y1 c_71; exact y1⟩, by omega⟩, by omega, rfl⟩)))
                | exact xw_ls [(0, vR 38), (1, vI (N p : Int)), (2, vI k), (3, vI (aw i + 1)), (4, vI (i : Int))] ⟨rfl, rfl, rfl, rfl, rfl, trivial⟩ (nx _ (Or.inr (Or.inr ⟨⟨eE.2 ⟨by omega, by rcases q1 with ⟨y1, _⟩ | ⟨_, y1⟩; exact absurd y1 c_71; exact y1⟩, by omega⟩, by omega, rfl⟩)))
            · skip
              refine xw_aload_n dX10_shortest_59 rfl ?_
              refine xw_getfield dX10_shortest_60 fl_X10_103 h38 rfl ?_
              refine xw_bipush (z := 100) dX10_shortest_63 (by decide) ?_
              refine xw_iload dX10_shortest_65 rfl ?_
              refine xw_imul dX10_shortest_67 ?_
              refine xw_iload_n dX10_shortest_68 rfl ?_
              refine xw_iadd dX10_shortest_69 ?_
              refine xw_zald dX10_shortest_70 h67 (j := 100 * N i + N p) (by omega) (by omega) (by decide) ?_
              refine xw_ifeq (tgt := 97) dX10_shortest_71 (by decide) (by first | assumption | (unfold inI; omega) | (unfold inI at *; omega)) (fun c_71 => ?_) (fun c_71 => ?_)
              · skip
                first
                  | exact xw_ls [(0, vR 38), (1, vI (N p : Int)), (2, vI k), (3, vI le), (4, vI (i : Int))] ⟨rfl, rfl, rfl, rfl, rfl, trivial⟩ (nx le (Or.inl ⟨fun x => by have := (eE.1 x.1).1; omega, rfl⟩))
                  | exact xw_ls [(0, vR 38), (1, vI (N p : Int)), (2, vI k), (3, vI le), (4, vI (i : Int))] ⟨rfl, rfl, rfl, rfl, rfl, trivial⟩ (nx le (Or.inl ⟨fun x => x.2 (by omega), rfl⟩))
                  | exact xw_ls [(0, vR 38), (1, vI (N p : Int)), (2, vI k), (3, vI le), (4, vI (i : Int))] ⟨rfl, rfl, rfl, rfl, rfl, trivial⟩ (nx le (Or.inl ⟨fun x => by have y9 := (eE.1 x.1).2; rw [onO_inj hN (by omega) hp (by omega : N i = N p)] at y9; exact hir y9, rfl⟩))
                  | exact xw_ls [(0, vR 38), (1, vI (N p : Int)), (2, vI k), (3, vI le), (4, vI (i : Int))] ⟨rfl, rfl, rfl, rfl, rfl, trivial⟩ (nx le (Or.inl ⟨fun x => by rcases q1 with ⟨_, y1⟩ | ⟨y1, _⟩; exact y1 (eE.1 x.1).2; exact absurd c_71 (by omega), rfl⟩))
                  | exact xw_ls [(0, vR 38), (1, vI (N p : Int)), (2, vI k), (3, vI le), (4, vI (i : Int))] ⟨rfl, rfl, rfl, rfl, rfl, trivial⟩ (nx le (Or.inr (Or.inl ⟨⟨eE.2 ⟨by omega, by rcases q1 with ⟨y1, _⟩ | ⟨_, y1⟩; exact absurd y1 c_71; exact y1⟩, by omega⟩, by omega, rfl⟩)))
                  | exact xw_ls [(0, vR 38), (1, vI (N p : Int)), (2, vI k), (3, vI (aw i + 1)), (4, vI (i : Int))] ⟨rfl, rfl, rfl, rfl, rfl, trivial⟩ (nx _ (Or.inr (Or.inr ⟨⟨eE.2 ⟨by omega, by rcases q1 with ⟨y1, _⟩ | ⟨_, y1⟩; exact absurd y1 c_71; exact y1⟩, by omega⟩, by omega, rfl⟩)))
              · skip
                refine xw_aload_n dX10_shortest_74 rfl ?_
                refine xw_getfield dX10_shortest_75 fl_X10_124 h38 rfl ?_
                refine xw_iload dX10_shortest_78 rfl ?_
                refine xw_iald dX10_shortest_80 h74 (j := N i) rfl (by omega) (by decide) ?_
                refine xw_topi (aw i) ai ?_
                refine xw_iconst dX10_shortest_81 ?_
                refine xw_iadd dX10_shortest_82 ?_
                refine xw_iload_n dX10_shortest_83 rfl ?_
                refine xw_icmpge (tgt := 97) dX10_shortest_84 (by decide) (by first | assumption | (unfold inI; omega) | (unfold inI at *; omega)) (by first | assumption | (unfold inI; omega) | (unfold inI at *; omega)) (fun c_84 => ?_) (fun c_84 => ?_)
                · skip
                  first
                    | exact xw_ls [(0, vR 38), (1, vI (N p : Int)), (2, vI k), (3, vI le), (4, vI (i : Int))] ⟨rfl, rfl, rfl, rfl, rfl, trivial⟩ (nx le (Or.inl ⟨fun x => by have := (eE.1 x.1).1; omega, rfl⟩))
                    | exact xw_ls [(0, vR 38), (1, vI (N p : Int)), (2, vI k), (3, vI le), (4, vI (i : Int))] ⟨rfl, rfl, rfl, rfl, rfl, trivial⟩ (nx le (Or.inl ⟨fun x => x.2 (by omega), rfl⟩))
                    | exact xw_ls [(0, vR 38), (1, vI (N p : Int)), (2, vI k), (3, vI le), (4, vI (i : Int))] ⟨rfl, rfl, rfl, rfl, rfl, trivial⟩ (nx le (Or.inl ⟨fun x => by have y9 := (eE.1 x.1).2; rw [onO_inj hN (by omega) hp (by omega : N i = N p)] at y9; exact hir y9, rfl⟩))
                    | exact xw_ls [(0, vR 38), (1, vI (N p : Int)), (2, vI k), (3, vI le), (4, vI (i : Int))] ⟨rfl, rfl, rfl, rfl, rfl, trivial⟩ (nx le (Or.inl ⟨fun x => by rcases q1 with ⟨_, y1⟩ | ⟨y1, _⟩; exact y1 (eE.1 x.1).2; exact absurd c_71 (by omega), rfl⟩))
                    | exact xw_ls [(0, vR 38), (1, vI (N p : Int)), (2, vI k), (3, vI le), (4, vI (i : Int))] ⟨rfl, rfl, rfl, rfl, rfl, trivial⟩ (nx le (Or.inr (Or.inl ⟨⟨eE.2 ⟨by omega, by rcases q1 with ⟨y1, _⟩ | ⟨_, y1⟩; exact absurd y1 c_71; exact y1⟩, by omega⟩, by omega, rfl⟩)))
                    | exact xw_ls [(0, vR 38), (1, vI (N p : Int)), (2, vI k), (3, vI (aw i + 1)), (4, vI (i : Int))] ⟨rfl, rfl, rfl, rfl, rfl, trivial⟩ (nx _ (Or.inr (Or.inr ⟨⟨eE.2 ⟨by omega, by rcases q1 with ⟨y1, _⟩ | ⟨_, y1⟩; exact absurd y1 c_71; exact y1⟩, by omega⟩, by omega, rfl⟩)))
                · skip
                  refine xw_aload_n dX10_shortest_87 rfl ?_
                  refine xw_getfield dX10_shortest_88 fl_X10_124 h38 rfl ?_
                  refine xw_iload dX10_shortest_91 rfl ?_
                  refine xw_iald dX10_shortest_93 h74 (j := N i) rfl (by omega) (by decide) ?_
                  refine xw_topi (aw i) ai ?_
                  refine xw_iconst dX10_shortest_94 ?_
                  refine xw_iadd dX10_shortest_95 ?_
                  refine xw_istore_n dX10_shortest_96 (by decide) ?_
                  first
                    | exact xw_ls [(0, vR 38), (1, vI (N p : Int)), (2, vI k), (3, vI le), (4, vI (i : Int))] ⟨rfl, rfl, rfl, rfl, rfl, trivial⟩ (nx le (Or.inl ⟨fun x => by have := (eE.1 x.1).1; omega, rfl⟩))
                    | exact xw_ls [(0, vR 38), (1, vI (N p : Int)), (2, vI k), (3, vI le), (4, vI (i : Int))] ⟨rfl, rfl, rfl, rfl, rfl, trivial⟩ (nx le (Or.inl ⟨fun x => x.2 (by omega), rfl⟩))
                    | exact xw_ls [(0, vR 38), (1, vI (N p : Int)), (2, vI k), (3, vI le), (4, vI (i : Int))] ⟨rfl, rfl, rfl, rfl, rfl, trivial⟩ (nx le (Or.inl ⟨fun x => by have y9 := (eE.1 x.1).2; rw [onO_inj hN (by omega) hp (by omega : N i = N p)] at y9; exact hir y9, rfl⟩))
                    | exact xw_ls [(0, vR 38), (1, vI (N p : Int)), (2, vI k), (3, vI le), (4, vI (i : Int))] ⟨rfl, rfl, rfl, rfl, rfl, trivial⟩ (nx le (Or.inl ⟨fun x => by rcases q1 with ⟨_, y1⟩ | ⟨y1, _⟩; exact y1 (eE.1 x.1).2; exact absurd c_71 (by omega), rfl⟩))
                    | exact xw_ls [(0, vR 38), (1, vI (N p : Int)), (2, vI k), (3, vI le), (4, vI (i : Int))] ⟨rfl, rfl, rfl, rfl, rfl, trivial⟩ (nx le (Or.inr (Or.inl ⟨⟨eE.2 ⟨by omega, by rcases q1 with ⟨y1, _⟩ | ⟨_, y1⟩; exact absurd y1 c_71; exact y1⟩, by omega⟩, by omega, rfl⟩)))
                    | exact xw_ls [(0, vR 38), (1, vI (N p : Int)), (2, vI k), (3, vI (aw i + 1)), (4, vI (i : Int))] ⟨rfl, rfl, rfl, rfl, rfl, trivial⟩ (nx _ (Or.inr (Or.inr ⟨⟨eE.2 ⟨by omega, by rcases q1 with ⟨y1, _⟩ | ⟨_, y1⟩; exact absurd y1 c_71; exact y1⟩, by omega⟩, by omega, rfl⟩)))
  refine xw_aload_n dX10_shortest_0 rfl ?_
  refine xw_iload_n dX10_shortest_1 rfl ?_
  refine xw_iload_n dX10_shortest_2 rfl ?_
  refine xw_callV (rc := 0) (rs := 0) (mc2 := 0) (ms2 := 0) (a := 38) (As := [vI (N p : Int), vI k]) (st := []) dX10_shortest_3 mv_X10_300 hg rfl rfl (by decide) (by decide) (Nat.le_of_ble_eq_true rfl) rfl (ct_findAway hg hsh hN hgn h40 hS hkn hk hp hkp (fun F aw hG hK ha hok hfr => ?_))
  refine xw_sipush (z := 1000) dX10_shortest_6 (by decide) ?_
  refine xw_istore_n dX10_shortest_9 (by decide) ?_
  refine xw_iconst dX10_shortest_10 ?_
  refine xw_istore dX10_shortest_11 (by decide) ?_
  exact xw_ls [(0, vR 38), (1, vI (N p : Int)), (2, vI k), (3, vI 1000), (4, vI ((0 : Nat) : Int))] ⟨rfl, rfl, rfl, rfl, rfl, trivial⟩ (LI F aw hG hK ha (by rw [hE]; exact hok) hfr sz 0 1000 (by omega) (Or.inl ⟨rfl, fun q hq9 => absurd hq9 (Nat.not_lt_zero _)⟩))
end C9d
