theorem us_lo {t : ct_St} {i k a : Nat} {v : Int32} (h : a < 30) (hi : 30 ≤ i) : us t i k v a = t a := us_ne (by omega)
theorem us_hi {t : ct_St} {i k a : Nat} {v : Int32} (h : i < 30) (hi : 30 ≤ a) : us t i k v a = t a := us_ne (by omega)
theorem ur_hi {t : ct_St} {i a : Nat} {f : Nat → Int32} (h : i < 30) (hi : 30 ≤ a) : ur t i f a = t a := ur_ne _ _ (by omega)
theorem us_col {t : ct_St} {i k r j : Nat} {v : Int32} (h : j ≠ k) : us t i k v r j = t r j := by
  unfold us ur
  split
  · next e => rw [pk_un h, e]
  · rfl
theorem us_same {t : ct_St} {i k : Nat} {v : Int32} : us t i k v i k = v := by rw [us_at, pk_us]
theorem wi_r {a b c : Int32} (h : ¬ X7_within_r a b c = 0) : b.toInt ≤ a.toInt ∧ a.toInt ≤ c.toInt := by
  unfold X7_within_r at h
  split at h
  · exact absurd rfl h
  · split at h
    · exact absurd rfl h
    · next h1 h2 =>
      rw [Int32.lt_iff_toInt_lt] at h1 h2
      omega
theorem eq8 (a : Int32) : X8_within_r a 0 7 = X7_isOneOf_r 8 a := by
  unfold X8_within_r X7_isOneOf_r
  have := lt_iff_succ (a := a) (n := 7) (by decide)
  have h : ((8 : Int32) ≤ a) = ((7 : Int32) < a) := propext this
  simp only [h]
/-- one column of the counters is new -/
theorem PC_up {t u : ct_St} (h : PC t) {k : Nat} (hF : ∀ j, j < 4 → j ≠ k → u (12 + j) = t (12 + j)) (hM : ∀ j, j < 4 → j ≠ k → ∀ r, 31 ≤ r → r ≤ 41 → u r j = t r j) (hk : rc (u (12 + k)) u k ∧ ic (u (12 + k))) (h34 : u 34 0 ≠ 2) (h41 : bl (u 41)) : PC u := by
  refine ⟨fun j hj => ?_, h34, h41⟩
  by_cases e : j = k
  · subst e; exact hk
  · unfold rc
    rw [hF j hj e, hM j hj e 31 (by omega) (by omega), hM j hj e 32 (by omega) (by omega), hM j hj e 33 (by omega) (by omega), hM j hj e 34 (by omega) (by omega), hM j hj e 35 (by omega) (by omega), hM j hj e 36 (by omega) (by omega), hM j hj e 37 (by omega) (by omega), hM j hj e 38 (by omega) (by omega), hM j hj e 39 (by omega) (by omega), hM j hj e 40 (by omega) (by omega), hM j hj e 41 (by omega) (by omega)]
    exact h.1 j hj
theorem PI_up {t u : ct_St} (h : PI t) {k : Nat} (hF : ∀ j, j < 4 → j ≠ k → u (16 + j) = t (16 + j)) (hM : ∀ j, j < 4 → j ≠ k → ∀ r, 42 ≤ r → r ≤ 46 → u r j = t r j) (hk : ri (u (16 + k)) u k ∧ 0 < (u (16 + k) 3).toInt) : PI u := by
  intro j hj
  by_cases e : j = k
  · subst e; exact hk
  · unfold ri
    rw [hF j hj e, hM j hj e 42 (by omega) (by omega), hM j hj e 43 (by omega) (by omega), hM j hj e 44 (by omega) (by omega), hM j hj e 45 (by omega) (by omega), hM j hj e 46 (by omega) (by omega)]
    exact h j hj
theorem PT_up {t u : ct_St} (h : PT t) {k : Nat} (hF : ∀ j, j < 4 → j ≠ k → u (20 + j) = t (20 + j)) (hM : ∀ j, j < 4 → j ≠ k → ∀ r, 47 ≤ r → r ≤ 53 → u r j = t r j) (hk : rt (u (20 + k)) u k ∧ it (u (20 + k))) : PT u := by
  intro j hj
  by_cases e : j = k
  · subst e; exact hk
  · unfold rt
    rw [hF j hj e, hM j hj e 47 (by omega) (by omega), hM j hj e 48 (by omega) (by omega), hM j hj e 49 (by omega) (by omega), hM j hj e 50 (by omega) (by omega), hM j hj e 51 (by omega) (by omega), hM j hj e 52 (by omega) (by omega), hM j hj e 53 (by omega) (by omega)]
    exact h j hj
theorem PH_up {t u : ct_St} (h : PH t) {k : Nat} (hF : ∀ j, j < 4 → j ≠ k → u (24 + j) = t (24 + j)) (hM : ∀ j, j < 4 → j ≠ k → ∀ r, 54 ≤ r → r ≤ 61 → u r j = t r j) (hk : rh (u (24 + k)) u k ∧ ih (u (24 + k))) : PH u := by
  intro j hj
  by_cases e : j = k
  · subst e; exact hk
  · unfold rh
    rw [hF j hj e, hM j hj e 54 (by omega) (by omega), hM j hj e 55 (by omega) (by omega), hM j hj e 56 (by omega) (by omega), hM j hj e 57 (by omega) (by omega), hM j hj e 58 (by omega) (by omega), hM j hj e 59 (by omega) (by omega), hM j hj e 60 (by omega) (by omega), hM j hj e 61 (by omega) (by omega)]
    exact h j hj
/-- getters -/
theorem op_ofCounter (t : ct_St) (a1 a2 : Int32) (h : J t) : X7_ofCounter_r a1 a2 t = X8_ofCounter_r a1 a2 t := by
  dsimp only [X7_ofCounter_r, X8_ofCounter_r]
  simp only [eq1]
  by_cases c1 : X7_isOneOf_r 4 a1 = 0
  · simp only [if_pos c1]
  · simp only [if_neg c1]
    obtain ⟨⟨e0, e1, e2, e3, e4, e5, e6, e7, e8, e9, e10⟩, -⟩ := h.1.1 (ix a1) (vp_lt (isOneOf4_in c1))
    simp only [X2_tell_r, e0, e1, e2, e3, e4, e5, e6, e7, e8]
theorem op_ofInput (t : ct_St) (a1 a2 : Int32) (h : J t) : X7_ofInput_r a1 a2 t = X8_ofInput_r a1 a2 t := by
  dsimp only [X7_ofInput_r, X8_ofInput_r]
  simp only [eq1]
  by_cases c1 : X7_isOneOf_r 4 a1 = 0
  · simp only [if_pos c1]
  · simp only [if_neg c1]
    obtain ⟨⟨e0, e1, e2, e3, e4⟩, -⟩ := h.2.1 (ix a1) (vp_lt (isOneOf4_in c1))
    simp only [X3_tell_r, e0, e1, e2, e3]
theorem op_ofCatcher (t : ct_St) (a1 a2 : Int32) (h : J t) : X7_ofCatcher_r a1 a2 t = X8_ofCatcher_r a1 a2 t := by
  dsimp only [X7_ofCatcher_r, X8_ofCatcher_r]
  simp only [eq1]
  by_cases c1 : X7_isOneOf_r 4 a1 = 0
  · simp only [if_pos c1]
  · simp only [if_neg c1]
    obtain ⟨⟨e0, e1, e2, e3, e4, e5, e6⟩, -⟩ := h.2.2.1 (ix a1) (vp_lt (isOneOf4_in c1))
    simp only [X0_tell_r, e0, e1, e2, e3, e4, e5, e6]
theorem op_pin (t : ct_St) (a1 : Int32) (h : J t) : X7_pin_r a1 t = X8_pin_r a1 t := by
  dsimp only [X7_pin_r, X8_pin_r]
  simp only [eq8]
  by_cases c1 : X7_isOneOf_r 8 a1 = 0
  · simp only [if_pos c1]
  · simp only [if_neg c1]
    exact h.2.2.2.2.2.2.1 (ix a1) (vp_lt (isOneOf8_in c1))
theorem op_crossed (t : ct_St) (a1 : Int32) (h : J t) : X7_crossed_r a1 t = X8_crossed_r a1 t := by
  dsimp only [X7_crossed_r, X8_crossed_r, X6_tell_r]
  obtain ⟨⟨e0, e1, e2, e3, e4, -⟩, -⟩ := h.2.2.2.2.2.1
  simp only [e0, e1, e2, e3, e4]
theorem pr_ix {k : Int32} (h : vp_in k 2) : ix (2 * k) < 4 ∧ ix (2 * k + 1) < 4 ∧ ix (2 * k + 1 - 1) = ix (2 * k) := by
  obtain ⟨j, hj, rfl⟩ := vp_in_of h (by decide)
  rcases (show j = 0 ∨ j = 1 by omega) with rfl | rfl <;> decide
theorem eqWh (t : ct_St) (a1 : Int32) (h : J t) (hk : vp_in a1 2) : X8_isWhole_r a1 t = X7_isWhole_r a1 t := by
  obtain ⟨p1, p2, p3⟩ := pr_ix hk
  dsimp only [X7_isWhole_r, X8_isWhole_r]
  obtain ⟨⟨e0, e1, e2, e3, -⟩, -⟩ := h.1.1 _ p2
  obtain ⟨⟨d0, -⟩, -⟩ := h.1.1 _ p1
  simp only [e0, e2, e3, d0, p3]
theorem op_wide (t : ct_St) (a1 : Int32) (h : J t) : X7_wide_r a1 t = X8_wide_r a1 t := by
  dsimp only [X7_wide_r, X8_wide_r]
  simp only [eq2]
  by_cases c1 : X7_isOneOf_r 2 a1 = 0
  · simp only [if_pos c1]
  · simp only [if_neg c1, eqWh t a1 h (isOneOf2_in c1)]
    obtain ⟨p1, p2, p3⟩ := pr_ix (isOneOf2_in c1)
    obtain ⟨⟨e0, e1, e2, e3, e4, -⟩, -⟩ := h.1.1 _ p2
    obtain ⟨⟨d0, d1, d2, d3, d4, -⟩, -⟩ := h.1.1 _ p1
    simp only [e4, d1, d4]
/-- setters -/
theorem wn {a b c : Int32} (h : ¬ X7_within_r a b c = 0) : ¬ X8_within_r a b c = 0 := h
theorem wp {a b c : Int32} (h : X7_within_r a b c = 0) : X8_within_r a b c = 0 := h
theorem on4 {a : Int32} (h : ¬ X7_isOneOf_r 4 a = 0) : ¬ X8_isOne_r a = 0 := by rw [eq1]; exact h
theorem op4 {a : Int32} (h : X7_isOneOf_r 4 a = 0) : X8_isOne_r a = 0 := by rw [eq1]; exact h
theorem on2 {a : Int32} (h : ¬ X7_isOneOf_r 2 a = 0) : ¬ X8_isPair_r a = 0 := by rw [eq2]; exact h
theorem op2 {a : Int32} (h : X7_isOneOf_r 2 a = 0) : X8_isPair_r a = 0 := by rw [eq2]; exact h
theorem i0 : (0 : Int32).toInt = 0 := by decide
theorem i1 : (1 : Int32).toInt = 1 := by decide
theorem i9999 : (9999 : Int32).toInt = 9999 := by decide
theorem i8 : (8 : Int32).toInt = 8 := by decide
theorem op_counter (t : ct_St) (a1 a2 a3 a4 : Int32) (h : J t) : X7_counter_r a1 a2 a3 a4 = X8_counter_r a1 a2 a3 a4 ∧ J (X8_counter_s a1 a2 a3 a4 (X7_counter_s a1 a2 a3 a4 t)) := by
  dsimp only [X7_counter_r, X8_counter_r, X7_counter_s, X8_counter_s]
  by_cases c1 : X7_isOneOf_r 4 a1 = 0
  · simp only [if_pos c1, if_pos (op4 c1)]; exact ⟨trivial, h⟩
  simp only [if_neg c1, if_neg (on4 c1)]
  by_cases c2 : X7_within_r a2 0 2 = 0
  · simp only [if_pos c2, if_pos (wp c2)]; exact ⟨trivial, h⟩
  simp only [if_neg c2, if_neg (wn c2)]
  by_cases c3 : X7_within_r a3 1 9999 = 0
  · simp only [if_pos c3, if_pos (wp c3)]; exact ⟨trivial, h⟩
  simp only [if_neg c3, if_neg (wn c3)]
  by_cases c4 : X7_within_r a4 1 64 = 0
  · simp only [if_pos c4, if_pos (wp c4)]; exact ⟨trivial, h⟩
  simp only [if_neg c4, if_neg (wn c4)]
  refine ⟨trivial, ?_⟩
  have hl := vp_lt (isOneOf4_in c1)
  generalize ix a1 = k at hl ⊢
  have hlo : 12 + k < 30 := by omega
  refine J_c h (fun r h1 h2 => ?_) (PC_up h.1 (k := k) (fun j hj e => ?_) (fun j hj e r h1 h2 => ?_) ?_ ?_ ?_)
  · rw [us_ne (by omega), us_ne (by omega), us_ne (by omega), us_ne (by omega), us_ne (by omega), us_ne (by omega), us_ne (by omega), us_ne (by omega), ur_ne _ _ (by omega)]
  · have : 12 + j < 30 := by omega
    simp (decide := true) only [us_lo this]
    rw [ur_ne _ _ (by omega)]
  · simp only [us_col e]
    rw [ur_hi hlo (by omega)]
  · have w := wi_r c3
    rw [i1, i9999] at w
    obtain ⟨⟨e0, e1, e2, e3, e4, e5, e6, e7, e8, e9, e10⟩, f1, f2, f3, f4⟩ := h.1.1 k hl
    simp (decide := true) only [us_lo hlo, ur_at]
    refine ⟨?_, w, ⟨by rw [show X2_setUp_s a2 a3 a4 (t (12 + k)) 4 = 0 from rfl, i0]; omega, by rw [show X2_setUp_s a2 a3 a4 (t (12 + k)) 4 = 0 from rfl, i0, show X2_setUp_s a2 a3 a4 (t (12 + k)) 1 = a3 from rfl]; omega⟩, Or.inr rfl, Or.inl rfl⟩
    unfold rc
    simp (decide := true) only [us_same, us_ne, ne_eq, ur_hi hlo]
    exact ⟨rfl, rfl, rfl, e3, rfl, rfl, rfl, rfl, rfl, e9, e10⟩
  · simp (decide := true) only [us_ne, ne_eq, ur_hi hlo]
    exact h.1.2.1
  · simp (decide := true) only [us_ne, ne_eq, ur_hi hlo]
    exact h.1.2.2
theorem op_top (t : ct_St) (a1 a2 : Int32) (h : J t) : X7_top_r a1 a2 t = X8_top_r a1 a2 (X7_top_s a1 a2 t) ∧ J (X8_top_s a1 a2 (X7_top_s a1 a2 t)) := by
  dsimp only [X7_top_r, X8_top_r, X7_top_s, X8_top_s]
  by_cases c1 : X7_isOneOf_r 4 a1 = 0
  · simp only [if_pos c1, if_pos (op4 c1)]; exact ⟨trivial, h⟩
  simp only [if_neg c1, if_neg (on4 c1)]
  by_cases c2 : X7_within_r a2 1 9999 = 0
  · simp only [if_pos c2, if_pos (wp c2)]; exact ⟨trivial, h⟩
  simp only [if_neg c2, if_neg (wn c2)]
  have hl := vp_lt (isOneOf4_in c1)
  refine ⟨?_, ?_⟩
  · have hlo : 12 + ix a1 < 30 := by omega
    rw [us_off (j := 1) (by decide), us_ne (a := 32) (by decide), us_hi (a := 32) hlo (by decide)]
    exact (h.1.1 (ix a1) hl).1.2.1
  generalize ix a1 = k at hl ⊢
  have hlo : 12 + k < 30 := by omega
  refine J_c h (fun r h1 h2 => ?_) (PC_up h.1 (k := k) (fun j hj e => ?_) (fun j hj e r h1 h2 => ?_) ?_ ?_ ?_)
  · rw [us_ne (by omega), us_ne (by omega)]
  · have : 12 + j < 30 := by omega
    simp (decide := true) only [us_lo this]
    rw [us_ne (by omega)]
  · simp only [us_col e]
    rw [us_hi hlo (by omega)]
  · have w := wi_r c2
    rw [i1, i9999] at w
    obtain ⟨⟨e0, e1, e2, e3, e4, e5, e6, e7, e8, e9, e10⟩, f1, f2, f3, f4⟩ := h.1.1 k hl
    simp (decide := true) only [us_lo hlo, us_at]
    refine ⟨?_, f1, f2, f3, Or.inr w⟩
    unfold rc
    simp (decide := true) only [us_same, us_ne, ne_eq, us_hi hlo]
    exact ⟨e0, e1, e2, e3, e4, e5, e6, e7, rfl, e9, e10⟩
  · simp (decide := true) only [us_ne, ne_eq, us_hi hlo]
    exact h.1.2.1
  · simp (decide := true) only [us_ne, ne_eq, us_hi hlo]
    exact h.1.2.2
