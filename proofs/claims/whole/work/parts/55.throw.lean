/-! what the class throws -/
def dcw (w : Cond) : Bool := match w with
  | .declares _ => true
  | .castable _ _ => true
  | w => goodWord w
theorem dcw_at {g : xG} (hG : okG g) {w : Cond} (hd : dcw w = true) (hw : w ∈ lw_tbl) {s : State} {args : Array Value} (hW : (g0 g).WarmedH s.vm) : w.before args s = true := by
  have h0 := hG.1 w hw
  unfold dcw at hd
  split at hd
  · next x =>
    have h1 : va_Nw (.declares x) (g0 g) := va_Nw.of rfl h0
    have h2 : va_Nw (.declares x) s := va_tabs rfl (rfl : ((g0 g).setVm s.vm).vm = s.vm) (by rw [Cond.declares_setVm hW.alike]; exact h1)
    exact va_Nw.use rfl h2
  · next C T =>
    exact va_Nw.use rfl (va_Nw.warmC hW (va_Nw.of rfl h0))
  · exact xgw hG ⟨hw, hd⟩ hW
abbrev exN : List String := ["java/lang/RuntimeException", "java/lang/Exception"]
def xTh (own : String) (ik is ic : Nat) (cls text : String) : Prop := xin (.classLink own ik cls) ∧ xin (.initialized cls) ∧ Cond.stringRef own is text ∈ lw_tbl ∧ (∀ w ∈ vx_atS own ic cls exN, w ∈ lw_tbl ∧ dcw w = true) ∧ (∀ w ∈ Cond.classLink own ik cls :: Cond.initialized cls :: vx_atS own ic cls exN, vx_ot w = true) ∧ Bundle.fit cls = true ∧ ∀ n ∈ exN, Bundle.fit n = true
theorem xstr {g : xG} (hG : okG g) {own text : String} {is : Nat} (h : Cond.stringRef own is text ∈ lw_tbl) {s : State} (hW : (g0 g).WarmedH s.vm) {c : ClassId} (hown : s.vm.findClass own = some c) : ∃ sa, vk_R own is text sa s := by
  have h0 := hG.1 _ h
  have hcur : (g0 g).vm.findClass own = some c := by rw [← hW.alike.findClass]; exact hown
  obtain ⟨k, cf, j, a, -, -, -, -, -, hev⟩ := Cond.stringRef_spec hcur h0
  exact ⟨a, vk_R.warm hW (vk_R.of (A := #[]) (by first | exact va_any rfl h0 | exact h0) (by first | exact hev | (rw [Term.string_eval_of_vm (args := #[]) rfl]; exact hev)))⟩
section C55
variable {g : xG} {y : xM} {Q : xP} {rc rs pc : Nat} {ls : xS} {st : List xV} {n : Nat} {f : xH}
theorem xthr {H H0 : Heap} (hR : xR g n f H) {E : String} {s t : State} (hq : ∀ n', n ≤ n' → Q (.inr E) n' f) (h1 : H.size ≤ t.heap.size) (h2 : ∀ q : Nat, q < H.size → t.heap[q]? = H[q]?) : xXr g Q E s t := by
  have hz := hR.1
  refine ⟨t.heap.size - gB g, f, ⟨by omega, fun q hq9 => (h2 q (by omega)).trans (hR.2.1 q hq9), fun k e9 hk => ?_⟩, hq _ (by omega)⟩
  have h3 := hR.2.2 k e9 hk
  exact ⟨by omega, xat_kept h3.2 (h2 _ (by omega))⟩
theorem xw_throwS {ik is ic : Nat} {cls text : String} (hT : xTh (mN y).cls ik is ic cls text) (hh : mH y = []) (d0 : decode (mB y) pc = .ok (.new ik, 3)) (d3 : decode (mB y) (pc + 3) = .ok (.dup, 1)) (d4 : decode (mB y) (pc + 4) = .ok (.ldc is, 2)) (d6 : decode (mB y) (pc + 6) = .ok (.invokespecial ic, 3)) (d9 : decode (mB y) (pc + 9) = .ok (.athrow, 1)) (hfr : 5 < mF y) (hlo2 : 82 ≤ mW y) (hq : ∀ n', n ≤ n' → Q (.inr cls) n' f) : xw g y Q (rc + 1) (rs + 6) pc ls [] n f := by
  intro hG p e s m args below meth c H locs mc ms cells slots A C hR hZ hlo hc hs hl
  obtain ⟨hx, hb, hr, hml, hown, hlk, hnm, htb, hW, hB, hbot⟩ := id C
  obtain ⟨t1, t2, t3, t4, t5, t6, t7⟩ := hT
  obtain ⟨sa, hsa⟩ := xstr hG t3 hW hown
  have hk : ∀ a : Nat, a < (g0 g).heap.size → ¬ gF g a → s.heap[a]? = (g0 g).heap[a]? := fun a ha _ => hbot a ha
  exact vx_throwS (A := gF g) (rest := []) hx hb hG.2.1 hown t6 t7 (xgw hG t1 hW) (xgw hG t2 hW) hsa (fun w hw => dcw_at hG (t4 w hw).2 (t4 w hw).1 hW) t5 ((vx_Zq.moved hW.alike hG.2.2.2.2.1).kept hk) ((vx_Zq.moved hW.alike hG.2.2.2.2.2).kept hk)
    ⟨hZ, fun q hq9 hn9 => (hR.2.1 q (by have h9 : ¬ gB g ≤ q := hn9; omega)).trans (hbot q (by have h9 : ¬ gB g ≤ q := hn9; omega)).symm, hlo⟩ (by rw [hml]; exact hl.1) d0 d3 d4 d6 d9 (fun x hx9 => by rw [htb, hh] at hx9; cases hx9)
    hfr (by show 0 + (13 * (2 + 1) + 43) ≤ mW y; omega) (by show cells + 1 ≤ mc; omega) (by show slots + 6 ≤ ms; omega) hlk (fun t _ h1 h2 => xthr (H0 := H) hR hq h1 h2) hlo (by omega) (by omega)
theorem xw_throwSW {ik is ic : Nat} {cls text : String} (hT : xTh (mN y).cls ik is ic cls text) (hh : mH y = []) (d0 : decode (mB y) pc = .ok (.new ik, 3)) (d3 : decode (mB y) (pc + 3) = .ok (.dup, 1)) (d4 : decode (mB y) (pc + 4) = .ok (.ldc_w is, 3)) (d7 : decode (mB y) (pc + 7) = .ok (.invokespecial ic, 3)) (d10 : decode (mB y) (pc + 10) = .ok (.athrow, 1)) (hfr : 5 < mF y) (hlo2 : 82 ≤ mW y) (hq : ∀ n', n ≤ n' → Q (.inr cls) n' f) : xw g y Q (rc + 1) (rs + 6) pc ls [] n f := by
  intro hG p e s m args below meth c H locs mc ms cells slots A C hR hZ hlo hc hs hl
  obtain ⟨hx, hb, hr, hml, hown, hlk, hnm, htb, hW, hB, hbot⟩ := id C
  obtain ⟨t1, t2, t3, t4, t5, t6, t7⟩ := hT
  obtain ⟨sa, hsa⟩ := xstr hG t3 hW hown
  have hk : ∀ a : Nat, a < (g0 g).heap.size → ¬ gF g a → s.heap[a]? = (g0 g).heap[a]? := fun a ha _ => hbot a ha
  exact vx_throwSW (A := gF g) (rest := []) hx hb hG.2.1 hown t6 t7 (xgw hG t1 hW) (xgw hG t2 hW) hsa (fun w hw => dcw_at hG (t4 w hw).2 (t4 w hw).1 hW) t5 ((vx_Zq.moved hW.alike hG.2.2.2.2.1).kept hk) ((vx_Zq.moved hW.alike hG.2.2.2.2.2).kept hk)
    ⟨hZ, fun q hq9 hn9 => (hR.2.1 q (by have h9 : ¬ gB g ≤ q := hn9; omega)).trans (hbot q (by have h9 : ¬ gB g ≤ q := hn9; omega)).symm, hlo⟩ (by rw [hml]; exact hl.1) d0 d3 d4 d7 d10 (fun x hx9 => by rw [htb, hh] at hx9; cases hx9)
    hfr (by show 0 + (13 * (2 + 1) + 43) ≤ mW y; omega) (by show cells + 1 ≤ mc; omega) (by show slots + 6 ≤ ms; omega) hlk (fun t _ h1 h2 => xthr (H0 := H) hR hq h1 h2) hlo (by omega) (by omega)
end C55
