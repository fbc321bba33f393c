/-! the law's wrappers: their words, and which clause takes which exception -/
theorem cs_IAE : Cond.castable eIAE eIAE ∈ lw_tbl := xj3 70 rfl
theorem cs_ISE : Cond.castable eISE eISE ∈ lw_tbl := xj3 138 rfl
theorem cs_IOB : Cond.castable eIOB eIOB ∈ lw_tbl := xj3 183 rfl
theorem cs_NSE : Cond.castable eNSE eNSE ∈ lw_tbl := xj4 115 rfl
theorem cl_L_13 : xin (.classLink RL 13 eIAE) := xi3 62 rfl rfl
theorem cl_L_15 : xin (.classLink RL 15 eISE) := xi3 63 rfl rfl
theorem cl_L_21 : xin (.classLink RL 21 eIOB) := xi3 172 rfl rfl
theorem cl_L_43 : xin (.classLink RL 43 eNSE) := xi4 104 rfl rfl
theorem msw_L_85 : xMSW RL 85 3 M_L_box := ⟨rfl, xi3 61 rfl rfl, xi1 0 rfl rfl, ⟨by decide +kernel, by decide +kernel⟩, by decide +kernel, xi3 59 rfl rfl, xi3 60 rfl rfl⟩
theorem msw_L_95 : xMSW RL 95 5 M_L_row := ⟨rfl, xi3 171 rfl rfl, xi1 0 rfl rfl, ⟨by decide +kernel, by decide +kernel⟩, by decide +kernel, xi3 169 rfl rfl, xi3 170 rfl rfl⟩
theorem msw_L_101 : xMSW RL 101 6 M_L_put := ⟨rfl, xi3 203 rfl rfl, xi1 0 rfl rfl, ⟨by decide +kernel, by decide +kernel⟩, by decide +kernel, xi3 201 rfl rfl, xi3 202 rfl rfl⟩
theorem msw_L_105 : xMSW RL 105 9 M_L_copy := ⟨rfl, xi3 219 rfl rfl, xi1 0 rfl rfl, ⟨by decide +kernel, by decide +kernel⟩, by decide +kernel, xi3 217 rfl rfl, xi3 218 rfl rfl⟩
theorem msw_L_109 : xMSW RL 109 4 M_L_tear := ⟨rfl, xi3 229 rfl rfl, xi1 0 rfl rfl, ⟨by decide +kernel, by decide +kernel⟩, by decide +kernel, xi3 227 rfl rfl, xi3 228 rfl rfl⟩
theorem msw_L_113 : xMSW RL 113 7 M_L_lay := ⟨rfl, xi4 0 rfl rfl, xi1 0 rfl rfl, ⟨by decide +kernel, by decide +kernel⟩, by decide +kernel, xi3 238 rfl rfl, xi3 239 rfl rfl⟩
theorem msw_L_117 : xMSW RL 117 6 M_L_move := ⟨rfl, xi4 103 rfl rfl, xi1 0 rfl rfl, ⟨by decide +kernel, by decide +kernel⟩, by decide +kernel, xi4 101 rfl rfl, xi4 102 rfl rfl⟩
theorem msw_L_121 : xMSW RL 121 3 M_L_away := ⟨rfl, xi4 135 rfl rfl, xi1 0 rfl rfl, ⟨by decide +kernel, by decide +kernel⟩, by decide +kernel, xi4 133 rfl rfl, xi4 134 rfl rfl⟩
theorem msw_L_124 : xMSW RL 124 3 M_L_lift := ⟨rfl, xi4 142 rfl rfl, xi1 0 rfl rfl, ⟨by decide +kernel, by decide +kernel⟩, by decide +kernel, xi4 140 rfl rfl, xi4 141 rfl rfl⟩
theorem msw_L_127 : xMSW RL 127 4 M_L_turn := ⟨rfl, xi4 157 rfl rfl, xi1 0 rfl rfl, ⟨by decide +kernel, by decide +kernel⟩, by decide +kernel, xi4 155 rfl rfl, xi4 156 rfl rfl⟩
theorem msw_L_135 : xMSW RL 135 4 M_L_told := ⟨rfl, xi4 172 rfl rfl, xi1 0 rfl rfl, ⟨by decide +kernel, by decide +kernel⟩, by decide +kernel, xi4 170 rfl rfl, xi4 171 rfl rfl⟩
theorem msw_L_146 : xMSW RL 146 4 M_L_bars := ⟨rfl, xi4 181 rfl rfl, xi1 0 rfl rfl, ⟨by decide +kernel, by decide +kernel⟩, by decide +kernel, xi4 179 rfl rfl, xi4 180 rfl rfl⟩
theorem msw_L_149 : xMSW RL 149 3 M_L_crossings := ⟨rfl, xi4 190 rfl rfl, xi1 0 rfl rfl, ⟨by decide +kernel, by decide +kernel⟩, by decide +kernel, xi4 188 rfl rfl, xi4 189 rfl rfl⟩
theorem msw_L_152 : xMSW RL 152 5 M_L_crossing := ⟨rfl, xi5 11 rfl rfl, xi1 0 rfl rfl, ⟨by decide +kernel, by decide +kernel⟩, by decide +kernel, xi5 9 rfl rfl, xi5 10 rfl rfl⟩
theorem msw_L_155 : xMSW RL 155 5 M_L_print := ⟨rfl, xi5 22 rfl rfl, xi1 0 rfl rfl, ⟨by decide +kernel, by decide +kernel⟩, by decide +kernel, xi5 20 rfl rfl, xi5 21 rfl rfl⟩
theorem msw_L_158 : xMSW RL 158 3 M_L_free := ⟨rfl, xi5 47 rfl rfl, xi1 0 rfl rfl, ⟨by decide +kernel, by decide +kernel⟩, by decide +kernel, xi5 45 rfl rfl, xi5 46 rfl rfl⟩
theorem msw_L_181 : xMSW RL 181 3 M_L_layer := ⟨rfl, xi5 54 rfl rfl, xi1 0 rfl rfl, ⟨by decide +kernel, by decide +kernel⟩, by decide +kernel, xi5 52 rfl rfl, xi5 53 rfl rfl⟩
theorem msw_L_188 : xMSW RL 188 3 M_L_check := ⟨rfl, xi5 61 rfl rfl, xi1 0 rfl rfl, ⟨by decide +kernel, by decide +kernel⟩, by decide +kernel, xi5 59 rfl rfl, xi5 60 rfl rfl⟩
/-- which exceptions are not of which class -/
def okX (g : xG) : Prop := va_Nc eISE eIAE (g0 g) ∧ va_Nc eIAE eIOB (g0 g) ∧ va_Nc eIAE eNSE (g0 g)
theorem hd_box_IAE {g : xG} : xHd g M_L_box 4 eIAE 1 := ⟨[], ⟨0, 9, 12, 13⟩, [⟨0, 9, 15, 15⟩], rfl, (fun _ h => by cases h), by decide, by decide, ⟨eIAE, cl_L_13, cs_IAE⟩, Or.inl ⟨3, dL_box_12, by decide, dL_box_13, dL_box_14⟩⟩
theorem hd_box_ISE {g : xG} (hX : okX g) : xHd g M_L_box 4 eISE 2 := ⟨[⟨0, 9, 12, 13⟩], ⟨0, 9, 15, 15⟩, [], rfl, (fun y9 h => by rw [List.mem_singleton] at h; subst h; exact ⟨by decide, by decide, eIAE, cl_L_13, hX.1⟩), by decide, by decide, ⟨eISE, cl_L_15, cs_ISE⟩, Or.inl ⟨3, dL_box_15, by decide, dL_box_16, dL_box_17⟩⟩
theorem hd_row_IOB {g : xG} : xHd g M_L_row 7 eIOB 1 := ⟨[], ⟨0, 12, 15, 21⟩, [], rfl, (fun _ h => by cases h), by decide, by decide, ⟨eIOB, cl_L_21, cs_IOB⟩, Or.inr ⟨5, dL_row_15, by decide, dL_row_17, dL_row_18⟩⟩
theorem hd_put_IOB {g : xG} : xHd g M_L_put 9 eIOB 1 := ⟨[], ⟨0, 14, 17, 21⟩, [], rfl, (fun _ h => by cases h), by decide, by decide, ⟨eIOB, cl_L_21, cs_IOB⟩, Or.inr ⟨7, dL_put_17, by decide, dL_put_19, dL_put_20⟩⟩
theorem hd_copy_IOB {g : xG} : xHd g M_L_copy 15 eIOB 1 := ⟨[], ⟨0, 20, 23, 21⟩, [], rfl, (fun _ h => by cases h), by decide, by decide, ⟨eIOB, cl_L_21, cs_IOB⟩, Or.inr ⟨9, dL_copy_23, by decide, dL_copy_25, dL_copy_26⟩⟩
theorem hd_tear_IOB {g : xG} : xHd g M_L_tear 5 eIOB 1 := ⟨[], ⟨0, 10, 13, 21⟩, [], rfl, (fun _ h => by cases h), by decide, by decide, ⟨eIOB, cl_L_21, cs_IOB⟩, Or.inr ⟨4, dL_tear_13, by decide, dL_tear_15, dL_tear_16⟩⟩
theorem hd_lay_IOB {g : xG} : xHd g M_L_lay 11 eIOB 1 := ⟨[], ⟨0, 16, 19, 21⟩, [⟨0, 16, 23, 13⟩], rfl, (fun _ h => by cases h), by decide, by decide, ⟨eIOB, cl_L_21, cs_IOB⟩, Or.inr ⟨7, dL_lay_19, by decide, dL_lay_21, dL_lay_22⟩⟩
theorem hd_lay_IAE {g : xG} (hX : okX g) : xHd g M_L_lay 11 eIAE 2 := ⟨[⟨0, 16, 19, 21⟩], ⟨0, 16, 23, 13⟩, [], rfl, (fun y9 h => by rw [List.mem_singleton] at h; subst h; exact ⟨by decide, by decide, eIOB, cl_L_21, hX.2.1⟩), by decide, by decide, ⟨eIAE, cl_L_13, cs_IAE⟩, Or.inr ⟨7, dL_lay_23, by decide, dL_lay_25, dL_lay_26⟩⟩
theorem hd_move_NSE {g : xG} : xHd g M_L_move 9 eNSE 1 := ⟨[], ⟨0, 14, 17, 43⟩, [], rfl, (fun _ h => by cases h), by decide, by decide, ⟨eNSE, cl_L_43, cs_NSE⟩, Or.inr ⟨6, dL_move_17, by decide, dL_move_19, dL_move_20⟩⟩
theorem hd_away_NSE {g : xG} : xHd g M_L_away 4 eNSE 1 := ⟨[], ⟨0, 9, 12, 43⟩, [], rfl, (fun _ h => by cases h), by decide, by decide, ⟨eNSE, cl_L_43, cs_NSE⟩, Or.inl ⟨3, dL_away_12, by decide, dL_away_13, dL_away_14⟩⟩
theorem hd_lift_NSE {g : xG} : xHd g M_L_lift 4 eNSE 1 := ⟨[], ⟨0, 16, 19, 43⟩, [], rfl, (fun _ h => by cases h), by decide, by decide, ⟨eNSE, cl_L_43, cs_NSE⟩, Or.inl ⟨3, dL_lift_19, by decide, dL_lift_20, dL_lift_21⟩⟩
theorem hd_turn_IAE {g : xG} : xHd g M_L_turn 4 eIAE 1 := ⟨[], ⟨0, 7, 10, 13⟩, [], rfl, (fun _ h => by cases h), by decide, by decide, ⟨eIAE, cl_L_13, cs_IAE⟩, Or.inr ⟨4, dL_turn_10, by decide, dL_turn_12, dL_turn_13⟩⟩
theorem hd_told_NSE {g : xG} : xHd g M_L_told 5 eNSE 1 := ⟨[], ⟨0, 10, 13, 43⟩, [⟨0, 10, 17, 13⟩], rfl, (fun _ h => by cases h), by decide, by decide, ⟨eNSE, cl_L_43, cs_NSE⟩, Or.inr ⟨4, dL_told_13, by decide, dL_told_15, dL_told_16⟩⟩
theorem hd_told_IAE {g : xG} (hX : okX g) : xHd g M_L_told 5 eIAE 2 := ⟨[⟨0, 10, 13, 43⟩], ⟨0, 10, 17, 13⟩, [], rfl, (fun y9 h => by rw [List.mem_singleton] at h; subst h; exact ⟨by decide, by decide, eNSE, cl_L_43, hX.2.2⟩), by decide, by decide, ⟨eIAE, cl_L_13, cs_IAE⟩, Or.inr ⟨4, dL_told_17, by decide, dL_told_19, dL_told_20⟩⟩
theorem hd_bars_NSE {g : xG} : xHd g M_L_bars 5 eNSE 1 := ⟨[], ⟨0, 17, 20, 43⟩, [], rfl, (fun _ h => by cases h), by decide, by decide, ⟨eNSE, cl_L_43, cs_NSE⟩, Or.inr ⟨4, dL_bars_20, by decide, dL_bars_22, dL_bars_23⟩⟩
theorem hd_crossings_NSE {g : xG} : xHd g M_L_crossings 4 eNSE 1 := ⟨[], ⟨0, 9, 12, 43⟩, [], rfl, (fun _ h => by cases h), by decide, by decide, ⟨eNSE, cl_L_43, cs_NSE⟩, Or.inl ⟨3, dL_crossings_12, by decide, dL_crossings_13, dL_crossings_14⟩⟩
theorem hd_crossing_NSE {g : xG} : xHd g M_L_crossing 7 eNSE 1 := ⟨[], ⟨0, 12, 15, 43⟩, [], rfl, (fun _ h => by cases h), by decide, by decide, ⟨eNSE, cl_L_43, cs_NSE⟩, Or.inr ⟨5, dL_crossing_15, by decide, dL_crossing_17, dL_crossing_18⟩⟩
theorem hd_print_NSE {g : xG} : xHd g M_L_print 7 eNSE 1 := ⟨[], ⟨0, 12, 15, 43⟩, [], rfl, (fun _ h => by cases h), by decide, by decide, ⟨eNSE, cl_L_43, cs_NSE⟩, Or.inr ⟨5, dL_print_15, by decide, dL_print_17, dL_print_18⟩⟩
theorem hd_free_NSE {g : xG} : xHd g M_L_free 4 eNSE 1 := ⟨[], ⟨0, 16, 19, 43⟩, [], rfl, (fun _ h => by cases h), by decide, by decide, ⟨eNSE, cl_L_43, cs_NSE⟩, Or.inl ⟨3, dL_free_19, by decide, dL_free_20, dL_free_21⟩⟩
theorem hd_layer_NSE {g : xG} : xHd g M_L_layer 4 eNSE 1 := ⟨[], ⟨0, 9, 12, 43⟩, [], rfl, (fun _ h => by cases h), by decide, by decide, ⟨eNSE, cl_L_43, cs_NSE⟩, Or.inl ⟨3, dL_layer_12, by decide, dL_layer_13, dL_layer_14⟩⟩
theorem hd_check_IAE {g : xG} : xHd g M_L_check 4 eIAE 1 := ⟨[], ⟨0, 9, 12, 13⟩, [], rfl, (fun _ h => by cases h), by decide, by decide, ⟨eIAE, cl_L_13, cs_IAE⟩, Or.inl ⟨3, dL_check_12, by decide, dL_check_13, dL_check_14⟩⟩
def nrm (v : Int) : Int := (Int32.ofInt v).toInt
theorem nrm_in (v : Int) : inI (nrm v) := by
  have h1 := Int32.le_toInt (Int32.ofInt v)
  have h2 := Int32.toInt_lt (Int32.ofInt v)
  unfold inI nrm
  omega
theorem nrm_cv (B : Nat) (v : Int) : xcv B (vI v) = xcv B (vI (nrm v)) := by show Value.int _ = Value.int (Int32.ofInt _); unfold nrm; rw [Int32.ofInt_toInt]
theorem xw_nrm {g : xG} {y : xM} {Q : xP} {rc rs pc : Nat} {ls : xS} {st : List xV} {n : Nat} {f : xH} {v : Int} (kk : xw g y Q rc rs pc ls (vI (nrm v) :: st) n f) : xw g y Q rc rs pc ls (vI v :: st) n f := by
  intro hG p e s m args below meth c H locs mc ms cells slots A C hR hZ hlo hc hs hl
  have := kk hG p e s m args below meth c H locs mc ms cells slots A C hR hZ hlo hc hs hl
  rw [List.map_cons, ← nrm_cv] at this
  exact this
theorem xl_nrm {g : xG} {k : scT} {rc rs pc : Nat} {ls : xS} {st : List xV} {n : Nat} {f : xH} {v : Int} (kk : xl g k rc rs pc ls (vI (nrm v) :: st) n f) : xl g k rc rs pc ls (vI v :: st) n f := by
  intro hG hX hb p e m below meth c H locs cells slots A C hR hlo hc hs hl
  have := kk hG hX hb p e m below meth c H locs cells slots A C hR hlo hc hs hl
  rw [List.map_cons, ← nrm_cv] at this
  exact this
theorem xl_icmpsame {g : xG} {k : scT} {rc rs pc tgt : Nat} {ls : xS} {st : List xV} {n : Nat} {f : xH} {a off : Int} (hd : decode cL_law pc = .ok (.if_icmp .eq off, 3)) (ht : (pc : Int) + off = (tgt : Int)) (kk : xl g k rc rs tgt ls st n f) : xl g k rc rs pc ls (vI a :: vI a :: st) n f := by
  intro hG hX hb p e m below meth c H locs cells slots A C hR hlo hc hs hl
  exact lv_icmp_eq C.1 C.2.1 hd ht (fun _ => kk hG hX hb p e m below meth c H locs cells slots A C hR hlo hc hs hl) (fun q => absurd rfl q)
