/-! the model follows the class: boxes, acts -/
theorem ltR_u {gn : Nat} {σ : Nat → xSt} {X : xSt} {ok : Nat → Prop} {r r' : Int} (h : ltR gn σ X ok r) (h' : ltR gn σ X ok r') : r = r' := by
  rcases h with ⟨e, a⟩ | ⟨s, h1, e, h2, h3, h4, h5⟩
  · rcases h' with ⟨e', _⟩ | ⟨s', h1', e', h2', h3', h4', h5'⟩
    · rw [e, e']
    · exact absurd h4' (a s' h1' h2' h3')
  · rcases h' with ⟨e', a'⟩ | ⟨s', h1', e', h2', h3', h4', h5'⟩
    · exact absurd h4 (a' s h1 h2 h3)
    · rw [e, e']
      rcases Nat.lt_trichotomy s s' with k | k | k
      · exact absurd h4 (h5' s k h2 h3)
      · rw [k]
      · exact absurd h4' (h5 s' k h2' h3')
theorem layN_u {β : Nat → xBx} {gn : Nat} {σ : Nat → xSt} {kd mk wo r r' : Int} {b k : Nat} (h : layN β gn σ kd mk wo b k r) (h' : layN β gn σ kd mk wo b k r') : r = r' := by
  unfold layN at h h'
  rcases h with ⟨e, a⟩ | ⟨e, a1, a2⟩ | ⟨a, h⟩
  · rcases h' with ⟨e', a'⟩ | ⟨e', a1', a2'⟩ | ⟨a', h'⟩
    · rw [e, e']
    · exact absurd a a1'
    · exfalso; omega
  · rcases h' with ⟨e', a'⟩ | ⟨e', a1', a2'⟩ | ⟨a', h'⟩
    · exact absurd a' a1
    · rw [e, e']
    · exfalso; omega
  · rcases h' with ⟨e', a'⟩ | ⟨e', a1', a2'⟩ | ⟨a', h'⟩
    · exfalso; omega
    · exfalso; omega
    · rcases h with ⟨e, j, hj, hn⟩ | ⟨hn, h⟩
      · rcases h' with ⟨e', _⟩ | ⟨hn', _⟩
        · rw [e, e']
        · exact absurd (hn' j hj) hn
      · rcases h' with ⟨e', j, hj, hn'⟩ | ⟨hn', h'⟩
        · exact absurd (hn j hj) hn'
        · rcases h with ⟨e, hp⟩ | ⟨hp, h⟩
          · rcases h' with ⟨e', _⟩ | ⟨hp', _⟩
            · rw [e, e']
            · exact absurd hp' hp
          · rcases h' with ⟨e', hp'⟩ | ⟨hp', h'⟩
            · exact absurd hp hp'
            · rcases h with ⟨e, hf⟩ | ⟨hf, t, ht, _, e⟩
              · rcases h' with ⟨e', _⟩ | ⟨hf', _⟩
                · rw [e, e']
                · exact absurd hf' hf
              · rcases h' with ⟨e', hf'⟩ | ⟨hf', t', ht', _, e'⟩
                · exact absurd hf hf'
                · rw [e, e', ltR_u ht ht']
theorem layN_Y {β : Nat → xBx} {gn : Nat} {σ : Nat → xSt} {kd mk wo r : Int} {b k : Nat} (h : layN β gn σ kd mk wo b k r) (h' : layY β gn σ kd mk wo b k) : False := by
  unfold layN at h
  obtain ⟨a, b9, c, d9, e9⟩ := h'
  rcases h with ⟨e, a'⟩ | ⟨e, a1, a2⟩ | ⟨_, ⟨e, j, hj, hn⟩ | ⟨_, ⟨e, hp⟩ | ⟨_, ⟨e, hf⟩ | ⟨_, t, ht, hn, _⟩⟩⟩⟩
  · omega
  · omega
  · exact hn (b9 j hj)
  · exact hp c
  · exact hf d9
  · exact hn (ltR_u ht e9)
theorem tldA_u {X : xSt} {w r r' : Int} (h : tldA X w r) (h' : tldA X w r') : r = r' := by
  unfold tldA at h h'
  omega
theorem hre_s {gn : Nat} {σ : Nat → xSt} {z : Int} {s : Nat} (e : z = (s : Int)) (h1 : s < gn) (h2 : hrS (σ s) = 1) : hre gn σ z := ⟨s, e, h1, h2⟩
section Cb6
variable {g : xG} {Q : xP} {n : Nat} {f : xH} {th : Int} {bn : Nat} {β : Nat → xBx} {gn : Nat} {σ : Nat → xSt} {d : Nat → Int} {as : List xAc} {ps : Nat} {pb : Nat → Int} {pu : Nat} {pr : Nat → Int} {k v : Int} {S1 : LSt}
theorem mwt_box {w : Int} (h : MSs f th (mkS bn β gn σ d as ps pb pu pr)) (hw : inI w) (hr : rl_box bn β gn σ d as ps pb pu pr w k v S1) (hq : ∀ f1 v', MSs f1 k S1 → kC f f1 → (k = 0 → v' = v) → Q (.inl (some (vI v'))) n f1) : xct g M_X10_box 0 0 [vR 38, vI w] n f Q := by
  have h : MS f th bn β gn σ d as ps pb pu pr := h
  refine mct_box h hw (fun a b f1 hM hC => ?_) (fun a f1 hM hC => ?_) (fun a b f1 hM hC => ?_)
  · rcases hr with ⟨_, _, rfl, rfl, rfl⟩ | ⟨c, _⟩ | ⟨_, c, _⟩
    · exact hq f1 _ hM hC (fun _ => rfl)
    · exact absurd a c
    · exact absurd b c
  · rcases hr with ⟨c, _⟩ | ⟨_, rfl, rfl⟩ | ⟨c, _⟩
    · exact absurd c a
    · exact hq f1 _ hM hC (fun e => absurd e (by decide))
    · exact absurd c a
  · rcases hr with ⟨_, c, _⟩ | ⟨c, _⟩ | ⟨_, _, rfl, rfl⟩
    · exact absurd c b
    · exact absurd a c
    · exact hq f1 _ hM hC (fun e => absurd e (by decide))
theorem mwt_row {z w m : Int} (h : MSs f th (mkS bn β gn σ d as ps pb pu pr)) (hz : inI z) (hw : inI w) (hm : inI m) (hr : rl_row bn β gn σ d as ps pb pu pr z w m k v S1) (hq : ∀ f1 v', MSs f1 k S1 → kC f f1 → (k = 0 → v' = v) → Q (.inl (some (vI v'))) n f1) : xct g M_X10_row 0 0 [vR 38, vI z, vI w, vI m] n f Q := by
  have h : MS f th bn β gn σ d as ps pb pu pr := h
  refine mct_row h hz hw hm (fun b kk e1 e2 h1 h2 h3 f1 hM hC => ?_) (fun b kk e1 e2 h1 h2 h3 f1 hM hC => ?_) (fun a f1 hM hC => ?_)
  · rcases hr with ⟨b', kk', e1', e2', q1, q2, rfl, hr⟩ | ⟨c, _⟩
    · obtain rfl : b' = b := by omega
      obtain rfl : kk' = kk := by omega
      rcases hr with ⟨_, rfl, rfl⟩ | ⟨c, _⟩
      · exact hq f1 _ hM hC (fun _ => rfl)
      · exact absurd h3 c
    · exact absurd ⟨⟨by omega, by omega⟩, by omega, by omega⟩ c
  · rcases hr with ⟨b', kk', e1', e2', q1, q2, rfl, hr⟩ | ⟨c, _⟩
    · rcases hr with ⟨c, _⟩ | ⟨_, rfl, rfl⟩
      · exact absurd c h3
      · exact hq f1 _ hM hC (fun _ => rfl)
    · exact absurd ⟨⟨by omega, by omega⟩, by omega, by omega⟩ c
  · rcases hr with ⟨b', kk', e1', e2', q1, q2, _⟩ | ⟨_, rfl, rfl⟩
    · exact absurd ⟨⟨by omega, by omega⟩, by omega, by omega⟩ a
    · exact hq f1 _ hM hC (fun e => absurd e (by decide))
theorem mwt_put {z w m x : Int} (h : MSs f th (mkS bn β gn σ d as ps pb pu pr)) (hz : inI z) (hw : inI w) (hm : inI m) (hx : inL x) (hr : rl_put bn β gn σ d as ps pb pu pr z w m x k v S1) (hq : ∀ f1 v', MSs f1 k S1 → kC f f1 → (k = 0 → v' = v) → Q (.inl (some (vI v'))) n f1) : xct g M_X10_put 0 0 [vR 38, vI z, vI w, vI m, vL x] n f Q := by
  have h : MS f th bn β gn σ d as ps pb pu pr := h
  refine mct_put h hz hw hm hx (fun b kk i e1 e2 e3 h1 h2 h3 f1 hM hC => ?_) (fun b kk e1 e2 h1 h2 h3 f1 hM hC => ?_) (fun b kk e1 e2 h1 h2 h3 h4 f1 hM hC => ?_) (fun a f1 hM hC => ?_)
  · rcases hr with ⟨b', kk', e1', e2', q1, q2, rfl, hr⟩ | ⟨c, _⟩
    · obtain rfl : b' = b := by omega
      obtain rfl : kk' = kk := by omega
      rcases hr with ⟨i', e3', _, rfl, rfl⟩ | ⟨c, _⟩ | ⟨_, c, _⟩
      · obtain rfl : i' = i := by omega
        exact hq f1 _ hM hC (fun _ => rfl)
      · exfalso; omega
      · exact absurd ⟨by omega, by omega⟩ c
    · exact absurd ⟨⟨by omega, by omega⟩, by omega, by omega⟩ c
  · rcases hr with ⟨b', kk', e1', e2', q1, q2, rfl, hr⟩ | ⟨c, _⟩
    · obtain rfl : b' = b := by omega
      obtain rfl : kk' = kk := by omega
      rcases hr with ⟨i', e3', c, _⟩ | ⟨_, rfl, rfl⟩ | ⟨c, _⟩
      · exfalso; omega
      · exact hq f1 _ hM hC (fun _ => rfl)
      · exact absurd h3 c
    · exact absurd ⟨⟨by omega, by omega⟩, by omega, by omega⟩ c
  · rcases hr with ⟨b', kk', e1', e2', q1, q2, rfl, hr⟩ | ⟨c, _⟩
    · obtain rfl : b' = b := by omega
      obtain rfl : kk' = kk := by omega
      rcases hr with ⟨i', e3', c, _⟩ | ⟨c, _⟩ | ⟨_, _, rfl, rfl⟩
      · exact absurd ⟨by omega, by omega⟩ h4
      · exact absurd c h3
      · exact hq f1 _ hM hC (fun _ => rfl)
    · exact absurd ⟨⟨by omega, by omega⟩, by omega, by omega⟩ c
  · rcases hr with ⟨b', kk', e1', e2', q1, q2, _⟩ | ⟨_, rfl, rfl⟩
    · exact absurd ⟨⟨by omega, by omega⟩, by omega, by omega⟩ a
    · exact hq f1 _ hM hC (fun e => absurd e (by decide))
theorem mwt_copy {z w x z2 w2 x2 m : Int} (h : MSs f th (mkS bn β gn σ d as ps pb pu pr)) (hz : inI z) (hw : inI w) (hx : inI x) (hz2 : inI z2) (hw2 : inI w2) (hx2 : inI x2) (hm : inI m) (hr : rl_copy bn β gn σ d as ps pb pu pr z w x z2 w2 x2 m k v S1) (hq : ∀ f1 v', MSs f1 k S1 → kC f f1 → (k = 0 → v' = v) → Q (.inl (some (vI v'))) n f1) : xct g M_X10_copy 0 0 [vR 38, vI z, vI w, vI x, vI z2, vI w2, vI x2, vI m] n f Q := by
  have h : MS f th bn β gn σ d as ps pb pu pr := h
  refine mct_copy h hz hw hx hz2 hw2 hx2 hm (fun b kk b2 k2 e1 e2 e3 e4 h1 h2 h3 h4 => ?_) (fun a f1 hM hC => ?_)
  · rcases hr with ⟨b', kk', b2', k2', e1', e2', e3', e4', q1, q2, q3, q4, rfl, hr⟩ | ⟨c, _⟩
    · obtain rfl : b' = b := by omega
      obtain rfl : kk' = kk := by omega
      obtain rfl : b2' = b2 := by omega
      obtain rfl : k2' = k2 := by omega
      refine ⟨fun h5 f1 hM hC => ?_, fun h5 h6 f1 hM hC => ?_, fun h5 h6 h7 f1 hM hC => ?_, fun h5 i i2 c e5 e6 e7 h6 h7 h8 f1 hM hC => ?_⟩
      · rcases hr with ⟨_, rfl, rfl⟩ | ⟨c, _⟩ | ⟨c, _⟩ | ⟨c, _⟩
        · exact hq f1 _ hM hC (fun _ => rfl)
        · exact absurd h5 c
        · exact absurd h5 c
        · exact absurd h5 c
      · rcases hr with ⟨c, _⟩ | ⟨_, _, rfl, rfl⟩ | ⟨_, c, _⟩ | ⟨_, i', i2', c', e5', e6', e7', h6', h7', _⟩
        · exact absurd c h5
        · exact hq f1 _ hM hC (fun _ => rfl)
        · exact absurd c h6
        · exact absurd ⟨by omega, by omega, by omega, by omega, by omega⟩ h6
      · rcases hr with ⟨c, _⟩ | ⟨_, c, _⟩ | ⟨_, _, _, rfl, rfl⟩ | ⟨_, i', i2', c', e5', e6', e7', h6', h7', h8', _⟩
        · exact absurd c h5
        · exact absurd h6 c
        · exact hq f1 _ hM hC (fun _ => rfl)
        · exact absurd h8' h7
      · rcases hr with ⟨c, _⟩ | ⟨_, c, _⟩ | ⟨_, _, c, _⟩ | ⟨_, i', i2', c', e5', e6', e7', h6', h7', h8', rfl, rfl⟩
        · exact absurd c h5
        · exact absurd ⟨by omega, by omega, by omega, by omega, by omega⟩ c
        · exact absurd h8 c
        · obtain rfl : i' = i := by omega
          obtain rfl : i2' = i2 := by omega
          obtain rfl : c' = c := by omega
          exact hq f1 _ hM hC (fun _ => rfl)
    · exact absurd ⟨⟨⟨by omega, by omega⟩, by omega, by omega⟩, ⟨by omega, by omega⟩, by omega, by omega⟩ c
  · rcases hr with ⟨b', kk', b2', k2', e1', e2', e3', e4', q1, q2, q3, q4, _⟩ | ⟨_, rfl, rfl⟩
    · exact absurd ⟨⟨⟨by omega, by omega⟩, by omega, by omega⟩, ⟨by omega, by omega⟩, by omega, by omega⟩ a
    · exact hq f1 _ hM hC (fun e => absurd e (by decide))
theorem mwt_tear {z w : Int} (h : MSs f th (mkS bn β gn σ d as ps pb pu pr)) (hz : inI z) (hw : inI w) (hr : rl_tear bn β gn σ d as ps pb pu pr z w k v S1) (hq : ∀ f1 v', MSs f1 k S1 → kC f f1 → (k = 0 → v' = v) → Q (.inl (some (vI v'))) n f1) : xct g M_X10_tear 0 0 [vR 38, vI z, vI w] n f Q := by
  have h : MS f th bn β gn σ d as ps pb pu pr := h
  refine mct_tear h hz hw (fun b kk e1 e2 h1 h2 f1 hM hC => ?_) (fun a f1 hM hC => ?_)
  · rcases hr with ⟨b', kk', e1', e2', q1, q2, rfl, rfl, rfl⟩ | ⟨c, _⟩
    · obtain rfl : b' = b := by omega
      obtain rfl : kk' = kk := by omega
      exact hq f1 _ hM hC (fun _ => rfl)
    · exact absurd ⟨⟨by omega, by omega⟩, by omega, by omega⟩ c
  · rcases hr with ⟨b', kk', e1', e2', q1, q2, _⟩ | ⟨_, rfl, rfl⟩
    · exact absurd ⟨⟨by omega, by omega⟩, by omega, by omega⟩ a
    · exact hq f1 _ hM hC (fun e => absurd e (by decide))
theorem mwt_lay {kd z w mk wo : Int} (h : MSs f th (mkS bn β gn σ d as ps pb pu pr)) (hi : chn gn σ as) (hkd : inI kd) (hz : inI z) (hw : inI w) (hmk : inI mk) (hwo : inI wo) (hr : rl_lay bn β gn σ d as ps pb pu pr kd z w mk wo k v S1) (hq : ∀ f1 v', MSs f1 k S1 → kC f f1 → (k = 0 → v' = v) → Q (.inl (some (vI v'))) n f1) : xct g M_X10_lay 0 0 [vR 38, vI kd, vI z, vI w, vI mk, vI wo] n f Q := by
  have h : MS f th bn β gn σ d as ps pb pu pr := h
  refine mct_lay h (chn_mem as σ hi) hkd hz hw hmk hwo (fun b kk r f1 e1 e2 h1 h2 h3 h4 hM hC => ?_) (fun b kk f1 e1 e2 h1 h2 h3 h4 hM hC => ?_) (fun a f1 hM hC => ?_) (fun a b f1 hM hC => ?_)
  · rcases hr with ⟨b', kk', e1', e2', q1, q2, q3, rfl, hr⟩ | ⟨c, _⟩ | ⟨_, c, _⟩
    · obtain rfl : b' = b := by omega
      obtain rfl : kk' = kk := by omega
      rcases hr with ⟨c, rfl⟩ | ⟨c, _⟩
      · exact hq f1 _ hM hC (fun _ => layN_u h4 c)
      · exact (layN_Y h4 c).elim
    · exact absurd ⟨⟨by omega, by omega⟩, by omega, by omega⟩ c
    · exact absurd h3 c
  · rcases hr with ⟨b', kk', e1', e2', q1, q2, q3, rfl, hr⟩ | ⟨c, _⟩ | ⟨_, c, _⟩
    · obtain rfl : b' = b := by omega
      obtain rfl : kk' = kk := by omega
      rcases hr with ⟨c, rfl⟩ | ⟨c, rfl, rfl⟩
      · exact (layN_Y c h4).elim
      · exact hq f1 _ hM hC (fun _ => rfl)
    · exact absurd ⟨⟨by omega, by omega⟩, by omega, by omega⟩ c
    · exact absurd h3 c
  · rcases hr with ⟨b', kk', e1', e2', q1, q2, _⟩ | ⟨_, rfl, rfl⟩ | ⟨c, _⟩
    · exact absurd ⟨⟨by omega, by omega⟩, by omega, by omega⟩ a
    · exact hq f1 _ hM hC (fun e => absurd e (by decide))
    · exact absurd c a
  · rcases hr with ⟨b', kk', e1', e2', q1, q2, q3, _⟩ | ⟨c, _⟩ | ⟨_, _, rfl, rfl⟩
    · exact absurd q3 b
    · exact absurd a c
    · exact hq f1 _ hM hC (fun e => absurd e (by decide))
theorem mwt_move {z x y9 w : Int} (h : MSs f th (mkS bn β gn σ d as ps pb pu pr)) (hi : chn gn σ as) (hz : inI z) (hx : inI x) (hy9 : inI y9) (hw : inI w) (hr : rl_move bn β gn σ d as ps pb pu pr z x y9 w k v S1) (hq : ∀ f1 v', MSs f1 k S1 → kC f f1 → (k = 0 → v' = v) → Q (.inl (some (vI v'))) n f1) : xct g M_X10_move 0 0 [vR 38, vI z, vI x, vI y9, vI w] n f Q := by
  have h : MS f th bn β gn σ d as ps pb pu pr := h
  refine mct_move h (chn_mem as σ hi) hz hx hy9 hw (fun s f1 e1 h1 h2 h3 hM hC => ?_) (fun s r f1 e1 h1 h2 h3 h4 h5 hM hC => ?_) (fun s f1 e1 h1 h2 h3 h4 hM hC => ?_) (fun a f1 hM hC => ?_)
  · rcases hr with ⟨s', e1', q1, q2, rfl, hr⟩ | ⟨c, _⟩
    · obtain rfl : s' = s := by omega
      rcases hr with ⟨_, rfl, rfl⟩ | ⟨c, _⟩ | ⟨c, _⟩
      · exact hq f1 _ hM hC (fun _ => rfl)
      · exact absurd c h3
      · exact absurd c h3
    · exact absurd (hre_s e1 h1 h2) c
  · rcases hr with ⟨s', e1', q1, q2, rfl, hr⟩ | ⟨c, _⟩
    · obtain rfl : s' = s := by omega
      rcases hr with ⟨c, _⟩ | ⟨_, r', c1, c2, rfl, rfl⟩ | ⟨_, c1, _⟩
      · exact absurd h3 c
      · exact hq f1 _ hM hC (fun _ => by rw [ltR_u h4 c1])
      · exact absurd (ltR_u h4 c1) h5
    · exact absurd (hre_s e1 h1 h2) c
  · rcases hr with ⟨s', e1', q1, q2, rfl, hr⟩ | ⟨c, _⟩
    · obtain rfl : s' = s := by omega
      rcases hr with ⟨c, _⟩ | ⟨_, r', c1, c2, _⟩ | ⟨_, c1, rfl, rfl⟩
      · exact absurd h3 c
      · exact absurd (ltR_u c1 h4) c2
      · exact hq f1 _ hM hC (fun _ => rfl)
    · exact absurd (hre_s e1 h1 h2) c
  · rcases hr with ⟨s', e1', q1, q2, _⟩ | ⟨_, rfl, rfl⟩
    · exact absurd (hre_s e1' q1 q2) a
    · exact hq f1 _ hM hC (fun e => absurd e (by decide))
theorem mwt_away {z : Int} (h : MSs f th (mkS bn β gn σ d as ps pb pu pr)) (hi : chn gn σ as) (hz : inI z) (hr : rl_away bn β gn σ d as ps pb pu pr z k v S1) (hq : ∀ f1 v', MSs f1 k S1 → kC f f1 → (k = 0 → v' = v) → Q (.inl (some (vI v'))) n f1) : xct g M_X10_away 0 0 [vR 38, vI z] n f Q := by
  have h : MS f th bn β gn σ d as ps pb pu pr := h
  refine mct_away h (chn_mem as σ hi) hz (fun s f1 e1 h1 h2 hM hC => ?_) (fun a f1 hM hC => ?_)
  · rcases hr with ⟨s', e1', q1, q2, rfl, rfl, rfl⟩ | ⟨c, _⟩
    · obtain rfl : s' = s := by omega
      exact hq f1 _ hM hC (fun _ => rfl)
    · exact absurd (hre_s e1 h1 h2) c
  · rcases hr with ⟨s', e1', q1, q2, _⟩ | ⟨_, rfl, rfl⟩
    · exact absurd (hre_s e1' q1 q2) a
    · exact hq f1 _ hM hC (fun e => absurd e (by decide))
theorem mwt_turn {a b c : Int} (h : MSs f th (mkS bn β gn σ d as ps pb pu pr)) (ha : inI a) (hb : inI b) (hc : inI c) (hr : rl_turn bn β gn σ d as ps pb pu pr a b c k v S1) (hq : ∀ f1, MSs f1 k S1 → kC f f1 → Q (.inl none) n f1) : xct g M_X10_turn 0 0 [vR 38, vI a, vI b, vI c] n f Q := by
  have h : MS f th bn β gn σ d as ps pb pu pr := h
  refine mct_turn h ha hb hc (fun h1 h2 f1 hM hC => ?_) (fun a f1 hM hC => ?_)
  · rcases hr with ⟨_, _, rfl, rfl⟩ | ⟨c, _⟩
    · exact hq f1 hM hC
    · exact absurd ⟨h1, h2⟩ c
  · rcases hr with ⟨c1, c2, _⟩ | ⟨_, rfl, rfl⟩
    · exact absurd ⟨c1, c2⟩ a
    · exact hq f1 hM hC
theorem mwt_told {z w : Int} (h : MSs f th (mkS bn β gn σ d as ps pb pu pr)) (hz : inI z) (hw : inI w) (hr : rl_told bn β gn σ d as ps pb pu pr z w k v S1) (hq : ∀ f1 v', MSs f1 k S1 → kC f f1 → (k = 0 → v' = v) → Q (.inl (some (vI v'))) n f1) : xct g M_X10_told 0 0 [vR 38, vI z, vI w] n f Q := by
  have h : MS f th bn β gn σ d as ps pb pu pr := h
  have tin : ∀ X : xSt, ∀ r, tldA X w r → (0 ≤ w ∧ w < 4 + 3 * ((pcS X : Int) + 1)) := by intro X r q; unfold tldA at q; omega
  refine mct_told h hz hw (fun s r f1 e1 h1 h2 h3 hM hC => ?_) (fun a f1 hM hC => ?_) (fun s e1 h1 h2 h3 f1 hM hC => ?_)
  · rcases hr with ⟨s', e1', q1, q2, ⟨rfl, c⟩ | ⟨_, c⟩, rfl⟩ | ⟨c, _⟩
    · obtain rfl : s' = s := by omega
      exact hq f1 _ hM hC (fun _ => tldA_u h3 c)
    · obtain rfl : s' = s := by omega
      exact absurd (tin _ _ h3) c
    · exact absurd (hre_s e1 h1 h2) c
  · rcases hr with ⟨s', e1', q1, q2, _⟩ | ⟨_, rfl, rfl⟩
    · exact absurd (hre_s e1' q1 q2) a
    · exact hq f1 _ hM hC (fun e => absurd e (by decide))
  · rcases hr with ⟨s', e1', q1, q2, ⟨rfl, c⟩ | ⟨rfl, c⟩, rfl⟩ | ⟨c, _⟩
    · obtain rfl : s' = s := by omega
      exact absurd (tin _ _ c) h3
    · exact hq f1 _ hM hC (fun e => absurd e (by decide))
    · exact absurd (hre_s e1 h1 h2) c
end Cb6
