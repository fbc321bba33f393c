/-! the JDK's own Math, as an instruction -/
section XMA
variable {g : xG} {y : xM} {Q : xP} {rc rs pc : Nat} {ls : xS} {st : List xV} {n : Nat} {f : xH}
theorem ifI {p q : Prop} [Decidable p] [Decidable q] (h : p ↔ q) (a b : Int) : (if p then Int32.ofInt a else Int32.ofInt b) = Int32.ofInt (if q then a else b) := by
  by_cases hq : q
  · rw [if_pos (h.mpr hq), if_pos hq]
  · rw [if_neg (fun x => hq (h.mp x)), if_neg hq]
theorem ifL {p q : Prop} [Decidable p] [Decidable q] (h : p ↔ q) (a b : Int) : (if p then Int64.ofInt a else Int64.ofInt b) = Int64.ofInt (if q then a else b) := by
  by_cases hq : q
  · rw [if_pos (h.mpr hq), if_pos hq]
  · rw [if_neg (fun x => hq (h.mp x)), if_neg hq]
theorem xw_maxI {idx : Nat} {a b : Int} (hd : decode (mB y) pc = .ok (.invokestatic idx, 3)) (h1 : xin (.methodLink (mN y).cls idx Lib.Math.max.name)) (h2 : xin (.static Lib.Math.max.name)) (h3 : xin (.initialized "java/lang/Math")) (h4 : xin (.code Lib.Math.max.name Lib.Math.max.code 2 (some .int))) (hfr : 1 ≤ mF y) (hw : 21 ≤ mW y) (hst : (st.map xcat).sum ≤ 8) (ha : inI a) (hb : inI b) (k : xw g y Q rc rs (pc + 3) ls (vI (if a < b then b else a) :: st) n f) : xw g y Q rc rs pc ls (vI b :: vI a :: st) n f := by
  intro hG p e s m args below meth c H locs mc ms cells slots A C hR hZ hlo hc hs hl
  have hW := C.2.2.2.2.2.2.2.2.1
  have hK := k hG p e s m args below meth c H locs mc ms cells slots A C hR hZ hlo hc hs hl
  exact va_mmax C.1 C.2.1 (by rw [C.2.2.2.1]; exact hl.1.symm) C.2.2.2.2.1 (xgw hG h1 hW) (xgw hG h2 hW) (xgw hG h3 hW) (xgw hG h4 hW) hfr (by rw [xcats]; show _ ≤ mW y; omega) (by show cells ≤ mc; omega) (by show slots ≤ ms; omega) hd (by rw [ifI (i32_lt ha hb)]; exact hK)
theorem xw_minI {idx : Nat} {a b : Int} (hd : decode (mB y) pc = .ok (.invokestatic idx, 3)) (h1 : xin (.methodLink (mN y).cls idx Lib.Math.min.name)) (h2 : xin (.static Lib.Math.min.name)) (h3 : xin (.initialized "java/lang/Math")) (h4 : xin (.code Lib.Math.min.name Lib.Math.min.code 2 (some .int))) (hfr : 1 ≤ mF y) (hw : 21 ≤ mW y) (hst : (st.map xcat).sum ≤ 8) (ha : inI a) (hb : inI b) (k : xw g y Q rc rs (pc + 3) ls (vI (if b < a then b else a) :: st) n f) : xw g y Q rc rs pc ls (vI b :: vI a :: st) n f := by
  intro hG p e s m args below meth c H locs mc ms cells slots A C hR hZ hlo hc hs hl
  have hW := C.2.2.2.2.2.2.2.2.1
  have hK := k hG p e s m args below meth c H locs mc ms cells slots A C hR hZ hlo hc hs hl
  exact va_mmin C.1 C.2.1 (by rw [C.2.2.2.1]; exact hl.1.symm) C.2.2.2.2.1 (xgw hG h1 hW) (xgw hG h2 hW) (xgw hG h3 hW) (xgw hG h4 hW) hfr (by rw [xcats]; show _ ≤ mW y; omega) (by show cells ≤ mc; omega) (by show slots ≤ ms; omega) hd (by rw [ifI (i32_lt hb ha)]; exact hK)
theorem xw_maxL {idx : Nat} {a b : Int} (hd : decode (mB y) pc = .ok (.invokestatic idx, 3)) (h1 : xin (.methodLink (mN y).cls idx Lib.MathLoose.max_long.x)) (h2 : xin (.static Lib.MathLoose.max_long.x)) (h3 : xin (.initialized "java/lang/Math")) (h4 : xin (.code Lib.MathLoose.max_long.x Lib.MathLoose.max_long.code 4 (some .long))) (hfr : 1 ≤ mF y) (hw : 23 ≤ mW y) (hst : (st.map xcat).sum ≤ 8) (ha : inL a) (hb : inL b) (k : xw g y Q rc rs (pc + 3) ls (vL (if b < a then a else b) :: st) n f) : xw g y Q rc rs pc ls (vL b :: vL a :: st) n f := by
  intro hG p e s m args below meth c H locs mc ms cells slots A C hR hZ hlo hc hs hl
  have hW := C.2.2.2.2.2.2.2.2.1
  have hK := k hG p e s m args below meth c H locs mc ms cells slots A C hR hZ hlo hc hs hl
  exact va_mmax_long C.1 C.2.1 (by rw [C.2.2.2.1]; exact hl.1.symm) C.2.2.2.2.1 (xgw hG h1 hW) (xgw hG h2 hW) (xgw hG h3 hW) (xgw hG h4 hW) hfr (by rw [xcats]; show _ ≤ mW y; omega) (by show cells ≤ mc; omega) (by show slots ≤ ms; omega) hd (by rw [ifL (i64_lt hb ha)]; exact hK)
theorem xw_minL {idx : Nat} {a b : Int} (hd : decode (mB y) pc = .ok (.invokestatic idx, 3)) (h1 : xin (.methodLink (mN y).cls idx Lib.MathLoose.min_long.x)) (h2 : xin (.static Lib.MathLoose.min_long.x)) (h3 : xin (.initialized "java/lang/Math")) (h4 : xin (.code Lib.MathLoose.min_long.x Lib.MathLoose.min_long.code 4 (some .long))) (hfr : 1 ≤ mF y) (hw : 23 ≤ mW y) (hst : (st.map xcat).sum ≤ 8) (ha : inL a) (hb : inL b) (k : xw g y Q rc rs (pc + 3) ls (vL (if b < a then b else a) :: st) n f) : xw g y Q rc rs pc ls (vL b :: vL a :: st) n f := by
  intro hG p e s m args below meth c H locs mc ms cells slots A C hR hZ hlo hc hs hl
  have hW := C.2.2.2.2.2.2.2.2.1
  have hK := k hG p e s m args below meth c H locs mc ms cells slots A C hR hZ hlo hc hs hl
  exact va_mmin_long C.1 C.2.1 (by rw [C.2.2.2.1]; exact hl.1.symm) C.2.2.2.2.1 (xgw hG h1 hW) (xgw hG h2 hW) (xgw hG h3 hW) (xgw hG h4 hW) hfr (by rw [xcats]; show _ ≤ mW y; omega) (by show cells ≤ mc; omega) (by show slots ≤ ms; omega) hd (by rw [ifL (i64_lt hb ha)]; exact hK)
theorem xw_absL {idx : Nat} {a : Int} (hd : decode (mB y) pc = .ok (.invokestatic idx, 3)) (h1 : xin (.methodLink (mN y).cls idx Lib.MathLoose.abs_long.x)) (h2 : xin (.static Lib.MathLoose.abs_long.x)) (h3 : xin (.initialized "java/lang/Math")) (h4 : xin (.code Lib.MathLoose.abs_long.x Lib.MathLoose.abs_long.code 2 (some .long))) (hfr : 1 ≤ mF y) (hw : 21 ≤ mW y) (hst : (st.map xcat).sum ≤ 8) (ha : inL a) (k : xw g y Q rc rs (pc + 3) ls (vL (if 0 < a then a else -a) :: st) n f) : xw g y Q rc rs pc ls (vL a :: st) n f := by
  intro hG p e s m args below meth c H locs mc ms cells slots A C hR hZ hlo hc hs hl
  have hW := C.2.2.2.2.2.2.2.2.1
  have hK := k hG p e s m args below meth c H locs mc ms cells slots A C hR hZ hlo hc hs hl
  exact va_mabs_long C.1 C.2.1 (by rw [C.2.2.2.1]; exact hl.1.symm) C.2.2.2.2.1 (xgw hG h1 hW) (xgw hG h2 hW) (xgw hG h3 hW) (xgw hG h4 hW) hfr (by rw [xcats]; show _ ≤ mW y; omega) (by show cells ≤ mc; omega) (by show slots ≤ ms; omega) hd (by rw [← Int64.ofInt_neg, show (0 : Int64) = Int64.ofInt 0 from rfl, ifL (i64_lt (show inL 0 by unfold inL; omega) ha)]; exact hK)
end XMA
