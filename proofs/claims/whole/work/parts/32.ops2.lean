theorem J_src {t : ct_St} {k : Nat} {a2 : Int32} (h : J t) (hl : k < 4) (hz : k = 0 → a2 ≠ 2) : J (us (us t (12 + k) 3 a2) 34 k a2) := by
  have hlo : 12 + k < 30 := by omega
  refine J_c h (fun r h1 h2 => ?_) (PC_up h.1 (k := k) (fun j hj e => ?_) (fun j hj e r h1 h2 => ?_) ?_ ?_ ?_)
  · rw [us_ne (by omega), us_ne (by omega)]
  · rw [us_lo (by omega) (by decide), us_ne (by omega)]
  · rw [us_col e, us_hi hlo (by omega)]
  · obtain ⟨⟨e0, e1, e2, e3, e4, e5, e6, e7, e8, e9, e10⟩, f⟩ := h.1.1 k hl
    rw [us_lo hlo (by decide), us_at]
    refine ⟨?_, f⟩
    unfold rc
    simp (decide := true) only [us_same, us_ne, ne_eq, us_hi hlo]
    exact ⟨e0, e1, e2, rfl, e4, e5, e6, e7, e8, e9, e10⟩
  · rw [us_at, us_hi hlo (by decide)]
    by_cases q : k = 0
    · subst q; rw [pk_us]; exact hz rfl
    · rw [pk_un (fun z => q z.symm)]; exact h.1.2.1
  · rw [us_ne (by decide), us_hi hlo (by decide)]; exact h.1.2.2
theorem op_source (t : ct_St) (a1 a2 : Int32) (h : J t) : X7_source_r a1 a2 t = X8_source_r a1 a2 (X7_source_s a1 a2 t) ∧ J (X8_source_s a1 a2 (X7_source_s a1 a2 t)) := by
  dsimp only [X7_source_r, X8_source_r, X7_source_s, X8_source_s]
  by_cases c1 : X7_isOneOf_r 4 a1 = 0
  · simp only [if_pos c1, if_pos (op4 c1)]; exact ⟨trivial, h⟩
  simp only [if_neg c1, if_neg (on4 c1)]
  by_cases c2 : X7_within_r a2 0 3 = 0
  · simp only [if_pos c2, if_pos (wp c2)]; exact ⟨trivial, h⟩
  simp only [if_neg c2, if_neg (wn c2)]
  have hl := vp_lt (isOneOf4_in c1)
  have hlo : 12 + ix a1 < 30 := by omega
  have e3 := (h.1.1 (ix a1) hl).1.2.2.2.1
  by_cases c3 : a2 = 2
  · simp only [if_pos c3]
    by_cases c4 : a1 = 0
    · simp only [if_pos c4]; exact ⟨trivial, h⟩
    · simp only [if_neg c4]
      refine ⟨by rw [us_hi (a := 34) hlo (by decide)]; exact e3, J_src h hl (fun z => absurd ?_ c4)⟩
      obtain ⟨j, hj, rfl⟩ := vp_in_of (isOneOf4_in c1) (by decide)
      rw [show ix (nI j) = j from nI_clamp (by omega)] at z
      rw [z]; rfl
  · simp only [if_neg c3]
    exact ⟨by rw [us_hi (a := 34) hlo (by decide)]; exact e3, J_src h hl (fun _ => c3)⟩
theorem op_count (t : ct_St) (a1 a2 : Int32) (h : J t) : X7_count_r a1 a2 t = X8_count_r a1 a2 (X7_count_s a1 a2 t) ∧ J (X8_count_s a1 a2 (X7_count_s a1 a2 t)) := by
  dsimp only [X7_count_r, X8_count_r, X7_count_s, X8_count_s]
  by_cases c1 : X7_isOneOf_r 4 a1 = 0
  · simp only [if_pos c1, if_pos (op4 c1)]; exact ⟨trivial, h⟩
  simp only [if_neg c1, if_neg (on4 c1)]
  have hl := vp_lt (isOneOf4_in c1)
  have hlo : 12 + ix a1 < 30 := by omega
  obtain ⟨⟨e0, e1, e2, e3, e4, e5, e6, e7, e8, e9, e10⟩, f1, f2, f3, f4⟩ := h.1.1 (ix a1) hl
  by_cases c2 : X7_within_r a2 0 (t (12 + ix a1) 1) = 0
  · have c3 : X8_within_r a2 0 (t 32 (ix a1)) = 0 := by rw [← e1]; exact c2
    simp only [if_pos c2, if_pos c3]; exact ⟨trivial, h⟩
  have c3 : ¬ X8_within_r a2 0 (us t (12 + ix a1) 4 a2 32 (ix a1)) = 0 := by rw [us_hi (a := 32) hlo (by decide), ← e1]; exact c2
  simp only [if_neg c2, if_neg c3]
  refine ⟨by rw [us_hi (a := 35) hlo (by decide)]; exact e4, ?_⟩
  have w := wi_r c2
  rw [i0] at w
  clear c3 c2 c1
  generalize ix a1 = k at *
  refine J_c h (fun r h1 h2 => ?_) (PC_up h.1 (k := k) (fun j hj e => ?_) (fun j hj e r h1 h2 => ?_) ?_ ?_ ?_)
  · rw [us_ne (by omega), us_ne (by omega)]
  · rw [us_lo (by omega) (by decide), us_ne (by omega)]
  · rw [us_col e, us_hi hlo (by omega)]
  · rw [us_lo hlo (by decide), us_at]
    refine ⟨?_, f1, w, f3, f4⟩
    unfold rc
    simp (decide := true) only [us_same, us_ne, ne_eq, us_hi hlo]
    exact ⟨e0, e1, e2, e3, rfl, e5, e6, e7, e8, e9, e10⟩
  · rw [us_ne (by decide), us_hi hlo (by decide)]; exact h.1.2.1
  · rw [us_ne (by decide), us_hi hlo (by decide)]; exact h.1.2.2
theorem op_input (t : ct_St) (a1 a2 : Int32) (h : J t) : X7_input_r a1 a2 t = X8_input_r a1 a2 (X7_input_s a1 a2 t) ∧ J (X8_input_s a1 a2 (X7_input_s a1 a2 t)) := by
  dsimp only [X7_input_r, X8_input_r, X7_input_s, X8_input_s]
  by_cases c1 : X7_isOneOf_r 4 a1 = 0
  · simp only [if_pos c1, if_pos (op4 c1)]; exact ⟨trivial, h⟩
  simp only [if_neg c1, if_neg (on4 c1)]
  by_cases c2 : X7_within_r a2 0 1 = 0
  · simp only [if_pos c2, if_pos (wp c2)]; exact ⟨trivial, h⟩
  simp only [if_neg c2, if_neg (wn c2)]
  have hl := vp_lt (isOneOf4_in c1)
  have hlo : 16 + ix a1 < 30 := by omega
  obtain ⟨⟨e0, e1, e2, e3, e4⟩, f⟩ := h.2.1 (ix a1) hl
  refine ⟨by rw [us_hi (a := 42) hlo (by decide)]; exact e0, ?_⟩
  clear c2 c1
  generalize ix a1 = k at *
  refine J_i h (fun r h1 h2 => ?_) (PI_up h.2.1 (k := k) (fun j hj e => ?_) (fun j hj e r h1 h2 => ?_) ?_)
  · rw [us_ne (by omega), us_ne (by omega)]
  · rw [us_lo (by omega) (by decide), us_ne (by omega)]
  · rw [us_col e, us_hi hlo (by omega)]
  · rw [us_lo hlo (by decide), us_at]
    refine ⟨?_, f⟩
    unfold ri
    simp (decide := true) only [us_same, us_ne, ne_eq, us_hi hlo]
    exact ⟨rfl, e1, e2, e3, e4⟩
theorem op_filter (t : ct_St) (a1 a2 : Int32) (h : J t) : X7_filter_r a1 a2 t = X8_filter_r a1 a2 (X7_filter_s a1 a2 t) ∧ J (X8_filter_s a1 a2 (X7_filter_s a1 a2 t)) := by
  dsimp only [X7_filter_r, X8_filter_r, X7_filter_s, X8_filter_s]
  by_cases c1 : X7_isOneOf_r 4 a1 = 0
  · simp only [if_pos c1, if_pos (op4 c1)]; exact ⟨trivial, h⟩
  simp only [if_neg c1, if_neg (on4 c1)]
  by_cases c2 : X7_within_r a2 1 8 = 0
  · simp only [if_pos c2, if_pos (wp c2)]; exact ⟨trivial, h⟩
  simp only [if_neg c2, if_neg (wn c2)]
  have hl := vp_lt (isOneOf4_in c1)
  have hlo : 16 + ix a1 < 30 := by omega
  have w := wi_r c2
  rw [i1] at w
  obtain ⟨⟨e0, e1, e2, e3, e4⟩, f⟩ := h.2.1 (ix a1) hl
  refine ⟨by rw [us_hi (a := 44) hlo (by decide)]; exact e3, ?_⟩
  clear c2 c1
  generalize ix a1 = k at *
  refine J_i h (fun r h1 h2 => ?_) (PI_up h.2.1 (k := k) (fun j hj e => ?_) (fun j hj e r h1 h2 => ?_) ?_)
  · rw [us_ne (by omega), us_ne (by omega)]
  · rw [us_lo (by omega) (by decide), us_ne (by omega)]
  · rw [us_col e, us_hi hlo (by omega)]
  · rw [us_lo hlo (by decide), us_at]
    refine ⟨?_, show 0 < a2.toInt by omega⟩
    unfold ri
    simp (decide := true) only [us_same, us_ne, ne_eq, us_hi hlo]
    exact ⟨e0, e1, e2, rfl, e4⟩
theorem op_catcher (t : ct_St) (a1 a2 a3 a4 : Int32) (h : J t) : X7_catcher_r a1 a2 a3 a4 = X8_catcher_r a1 a2 a3 a4 ∧ J (X8_catcher_s a1 a2 a3 a4 (X7_catcher_s a1 a2 a3 a4 t)) := by
  dsimp only [X7_catcher_r, X8_catcher_r, X7_catcher_s, X8_catcher_s]
  by_cases c1 : X7_isOneOf_r 4 a1 = 0
  · simp only [if_pos c1, if_pos (op4 c1)]; exact ⟨trivial, h⟩
  simp only [if_neg c1, if_neg (on4 c1)]
  by_cases c0 : X7_isOneOf_r 4 a2 = 0
  · simp only [if_pos c0, if_pos (op4 c0)]; exact ⟨trivial, h⟩
  simp only [if_neg c0, if_neg (on4 c0)]
  by_cases c2 : X7_within_r a3 0 3 = 0
  · simp only [if_pos c2, if_pos (wp c2)]; exact ⟨trivial, h⟩
  simp only [if_neg c2, if_neg (wn c2)]
  by_cases c3 : X7_within_r a4 1 4 = 0
  · simp only [if_pos c3, if_pos (wp c3)]; exact ⟨trivial, h⟩
  simp only [if_neg c3, if_neg (wn c3)]
  refine ⟨trivial, ?_⟩
  have hl := vp_lt (isOneOf4_in c1)
  have hlo : 20 + ix a1 < 30 := by omega
  have w := wi_r c3
  rw [i1] at w
  have w2 := isOneOf4_in c0
  clear c3 c2 c1 c0
  generalize ix a1 = k at *
  refine J_t h (fun r h1 h2 => ?_) (PT_up h.2.2.1 (k := k) (fun j hj e => ?_) (fun j hj e r h1 h2 => ?_) ?_)
  · rw [us_ne (by omega), us_ne (by omega), us_ne (by omega), us_ne (by omega), us_ne (by omega), us_ne (by omega), us_ne (by omega), ur_ne _ _ (by omega)]
  · have : 20 + j < 30 := by omega
    simp (decide := true) only [us_lo this]
    rw [ur_ne _ _ (by omega)]
  · simp only [us_col e]
    rw [ur_hi hlo (by omega)]
  · simp (decide := true) only [us_lo hlo, ur_at]
    refine ⟨?_, w2, ?_, Or.inl rfl⟩
    · unfold rt
      simp (decide := true) only [us_same, us_ne, ne_eq, ur_hi hlo]
      exact ⟨rfl, rfl, rfl, rfl, rfl, rfl, rfl⟩
    · show ¬ a4 = 0
      intro z
      rw [z, i0] at w
      omega
theorem J_tk {t : ct_St} {k : Nat} {f : Nat → Int32} {u : ct_St} (h : J t) (hl : k < 4) (hf : f = upd (t (20 + k)) 5 0) (hu : (∀ r, r ≠ 52 → u r = ur t (20 + k) f r) ∧ (∀ j, j ≠ k → u 52 j = t 52 j) ∧ u 52 k = 0) : J u := by
  have hlo : 20 + k < 30 := by omega
  obtain ⟨u1, u2, u3⟩ := hu
  refine J_t h (fun r h1 h2 => ?_) (PT_up h.2.2.1 (k := k) (fun j hj e => ?_) (fun j hj e r h1 h2 => ?_) ?_)
  · rw [u1 r (by omega), ur_ne _ _ (by omega)]
  · rw [u1 _ (by omega), ur_ne _ _ (by omega)]
  · by_cases q : r = 52
    · subst q; exact u2 j e
    · rw [u1 r q, ur_hi hlo (by omega)]
  · obtain ⟨⟨e0, e1, e2, e3, e4, e5, e6⟩, g1, g2, g3⟩ := h.2.2.1 k hl
    unfold rt
    rw [u1 (20 + k) (by omega), ur_at, u1 47 (by decide), u1 48 (by decide), u1 49 (by decide), u1 50 (by decide), u1 51 (by decide), u1 53 (by decide), u3]
    simp (decide := true) only [ur_hi hlo]
    subst hf
    exact ⟨⟨e0, e1, e2, e3, e4, rfl, e6⟩, g1, g2, Or.inl rfl⟩
theorem op_taken (t : ct_St) (a1 : Int32) (h : J t) : X7_taken_r a1 t = X8_taken_r a1 (X7_taken_s a1 t) ∧ J (X8_taken_s a1 (X7_taken_s a1 t)) := by
  dsimp only [X7_taken_r, X8_taken_r, X7_taken_s, X8_taken_s]
  by_cases c1 : X7_isOneOf_r 4 a1 = 0
  · simp only [if_pos c1, if_pos (op4 c1)]; exact ⟨trivial, h⟩
  simp only [if_neg c1, if_neg (on4 c1)]
  have hl := vp_lt (isOneOf4_in c1)
  have hlo : 20 + ix a1 < 30 := by omega
  obtain ⟨⟨e0, e1, e2, e3, e4, e5, e6⟩, g1, g2, g3⟩ := h.2.2.1 (ix a1) hl
  clear c1
  generalize ix a1 = k at *
  have hs : X0_handOver_s (t (20 + k)) = upd (t (20 + k)) 5 0 := by
    unfold X0_handOver_s
    split <;> rfl
  have h52 : ∀ f, ur t (20 + k) f 52 = t 52 := fun f => ur_hi hlo (by decide)
  have h51 : ∀ f, ur t (20 + k) f 51 = t 51 := fun f => ur_hi hlo (by decide)
  simp (decide := true) only [us_ne, ne_eq, h52, h51]
  rcases g3 with q | q
  · have q2 : t 52 k = 0 := by rw [← e5]; exact q
    simp only [if_pos q2]
    refine ⟨?_, J_tk h hl hs ⟨fun r _ => rfl, fun j _ => by rw [h52], by rw [h52]; exact q2⟩⟩
    unfold X0_handOver_r
    rw [if_neg (by rw [q]; decide)]
  · have q2 : ¬ t 52 k = 0 := by rw [← e5, q]; decide
    simp only [if_neg q2]
    refine ⟨?_, J_tk h hl hs ⟨fun r hr => us_ne hr, fun j hj => by rw [us_col hj, h52], us_same⟩⟩
    unfold X0_handOver_r
    rw [if_pos q]
    exact e4
theorem J_pp {t u : ct_St} {k : Nat} (h : J t) (hl : k < 2) (hu : ∀ r, r ≠ 28 + k → r ≠ 66 → r ≠ 67 → u r = t r) (h66 : ∀ j, j ≠ k → u 66 j = t 66 j) (h67 : ∀ j, j ≠ k → u 67 j = t 67 j) (hk : u (28 + k) 0 = u 66 k ∧ u (28 + k) 1 = u 67 k ∧ (u (28 + k) 0 = 0 ∨ u (28 + k) 0 = 1)) : J u := by
  refine J_p h (fun r h1 h2 => hu r (by omega) (by omega) (by omega)) (fun j hj => ?_)
  by_cases e : j = k
  · subst e; exact hk
  · rw [hu (28 + j) (by omega) (by omega) (by omega), h66 j e, h67 j e]
    exact h.2.2.2.2.1 j hj
theorem op_holds (t : ct_St) (a1 a2 : Int32) (h : J t) : X7_holds_r a1 a2 t = X8_holds_r a1 a2 (X7_holds_s a1 a2 t) ∧ J (X8_holds_s a1 a2 (X7_holds_s a1 a2 t)) := by
  dsimp only [X7_holds_r, X8_holds_r, X7_holds_s, X8_holds_s]
  by_cases c1 : X7_isOneOf_r 2 a1 = 0
  · simp only [if_pos c1, if_pos (op2 c1)]; exact ⟨trivial, h⟩
  simp only [if_neg c1, if_neg (on2 c1)]
  by_cases c2 : X7_within_r a2 0 1 = 0
  · simp only [if_pos c2, if_pos (wp c2)]; exact ⟨trivial, h⟩
  simp only [if_neg c2, if_neg (wn c2)]
  have hl := vp_lt (isOneOf2_in c1)
  have hlo : 28 + ix a1 < 30 := by omega
  have w := wi_r c2
  rw [i0, i1] at w
  have hv : a2 = 0 ∨ a2 = 1 := by
    rcases (show a2.toInt = 0 ∨ a2.toInt = 1 by omega) with q | q
    · exact Or.inl (Int32.toInt_inj.mp (by rw [q, i0]))
    · exact Or.inr (Int32.toInt_inj.mp (by rw [q, i1]))
  obtain ⟨e0, e1, g⟩ := h.2.2.2.2.1 (ix a1) hl
  clear c1 c2 w
  generalize ix a1 = k at *
  have h66 : us (us t (28 + k) 0 a2) (28 + k) 1 (-9) 66 = t 66 := by rw [us_hi hlo (by decide), us_hi hlo (by decide)]
  have h67 : us (us t (28 + k) 0 a2) (28 + k) 1 (-9) 67 = t 67 := by rw [us_hi hlo (by decide), us_hi hlo (by decide)]
  simp only [h66]
  have fin : ∀ v : Int32, v = a2 → J (us (us (us (us t (28 + k) 0 a2) (28 + k) 1 (-9)) 66 k v) 67 k (-9)) := by
    intro v hvv
    refine J_pp h hl (fun r h1 h2 h3 => ?_) (fun j hj => ?_) (fun j hj => ?_) ?_
    · rw [us_ne h3, us_ne h2, us_ne h1, us_ne h1]
    · rw [us_col hj, us_col hj, h66]
    · rw [us_col hj, us_ne (by decide), h67]
    · rw [us_lo hlo (by decide), us_lo hlo (by decide), us_off (j := 0) (by decide), us_same, us_same, us_ne (a := 66) (by decide), us_same, us_same]
      exact ⟨hvv.symm, rfl, hv⟩
  have r0 : t 66 k = 0 ∨ t 66 k = 1 := by rw [← e0]; exact g
  rcases hv with q | q <;> rcases r0 with z | z
  · have n1 : ¬ a2 = 1 := by rw [q]; decide
    simp only [if_pos z, if_neg n1]
    exact ⟨by rw [e0, z], fin 0 q.symm⟩
  · have n1 : ¬ a2 = 1 := by rw [q]; decide
    have n2 : ¬ t 66 k = 0 := by rw [z]; decide
    simp only [if_neg n2, if_neg n1]
    exact ⟨by rw [e0, z], fin 0 q.symm⟩
  · simp only [if_pos z, if_pos q]
    exact ⟨by rw [e0, z], fin 1 q.symm⟩
  · have n2 : ¬ t 66 k = 0 := by rw [z]; decide
    simp only [if_neg n2, if_pos q]
    exact ⟨by rw [e0, z], fin 1 q.symm⟩
theorem whole_us (t : ct_St) (a1 : Int32) {i k : Nat} {v : Int32} (hi : 28 ≤ i) (hi2 : i < 30) : X8_isWhole_r a1 (us t i k v) = X8_isWhole_r a1 t := by
  dsimp only [X8_isWhole_r]
  rw [us_hi hi2 (by decide), us_hi hi2 (by decide), us_hi hi2 (by decide)]
theorem whole_ur (t : ct_St) (a1 : Int32) {i : Nat} {f : Nat → Int32} (hi2 : i < 30) : X8_isWhole_r a1 (ur t i f) = X8_isWhole_r a1 t := by
  dsimp only [X8_isWhole_r]
  rw [ur_hi hi2 (by decide), ur_hi hi2 (by decide), ur_hi hi2 (by decide)]
theorem op_read (t : ct_St) (a1 a2 : Int32) (h : J t) : X7_read_r a1 a2 t = X8_read_r a1 a2 (X7_read_s a1 a2 t) ∧ J (X8_read_s a1 a2 (X7_read_s a1 a2 t)) := by
  dsimp only [X7_read_r, X8_read_r, X7_read_s, X8_read_s]
  by_cases c1 : X7_isOneOf_r 2 a1 = 0
  · simp only [if_pos c1, if_pos (op2 c1)]; exact ⟨trivial, h⟩
  simp only [if_neg c1, if_neg (on2 c1)]
  by_cases c2 : X7_within_r a2 0 1 = 0
  · simp only [if_pos c2, if_pos (wp c2)]; exact ⟨trivial, h⟩
  simp only [if_neg c2, if_neg (wn c2)]
  have ew := eqWh t a1 h (isOneOf2_in c1)
  by_cases c3 : X7_isWhole_r a1 t = 0
  · have c4 : X8_isWhole_r a1 t = 0 := by rw [ew]; exact c3
    simp only [if_pos c3, if_pos c4]; exact ⟨trivial, h⟩
  have c4 : ¬ X8_isWhole_r a1 t = 0 := by rw [ew]; exact c3
  have hl := vp_lt (isOneOf2_in c1)
  have hlo : 28 + ix a1 < 30 := by omega
  obtain ⟨p1, p2, -⟩ := pr_ix (isOneOf2_in c1)
  have e4 := (h.1.1 _ p2).1.2.2.2.2.1
  have d4 := (h.1.1 _ p1).1.2.2.2.2.1
  obtain ⟨e0, e1, g⟩ := h.2.2.2.2.1 (ix a1) hl
  have w := wi_r c2
  rw [i0, i1] at w
  rcases (show a2.toInt = 0 ∨ a2.toInt = 1 by omega) with q | q
  · obtain rfl : a2 = 0 := Int32.toInt_inj.mp (by rw [q, i0])
    have n1 : ¬ (0 : Int32) = 1 := by decide
    have c5 : ¬ X8_isWhole_r a1 (us t (28 + ix a1) 1 (t (12 + ix (2 * a1 + 1)) 4)) = 0 := by rw [whole_us t a1 (by omega) hlo]; exact c4
    simp only [if_neg c3, if_neg n1, if_neg c5, if_true]
    have h35 : us t (28 + ix a1) 1 (t (12 + ix (2 * a1 + 1)) 4) 35 = t 35 := us_hi hlo (by decide)
    refine ⟨?_, ?_⟩
    · rw [us_ne (a := 12 + ix (2 * a1)) (by omega), us_ne (a := 35) (by decide), h35]
      exact d4
    · rw [h35, ← e4]
      refine J_pp h hl (fun r h1 h2 h3 => ?_) (fun j hj => ?_) (fun j hj => ?_) ?_
      · rw [us_ne h3, us_ne h1]
      · rw [us_col hj, us_hi hlo (by decide)]
      · rw [us_col hj, us_hi hlo (by decide)]
      · rw [us_lo hlo (by decide), us_off (j := 0) (by decide), us_same, us_same, us_ne (a := 66) (by decide), us_hi hlo (by decide)]
        exact ⟨e0, rfl, g⟩
  · obtain rfl : a2 = 1 := Int32.toInt_inj.mp (by rw [q, i1])
    have n1 : ¬ (1 : Int32) = 0 := by decide
    have c5 : ¬ X8_isWhole_r a1 (ur t (28 + ix a1) (X4_takeHigh_s (t (12 + ix (2 * a1 + 1)) 4) (t (28 + ix a1)))) = 0 := by rw [whole_ur t a1 hlo]; exact c4
    simp only [if_neg c3, if_neg n1, if_neg c5, if_true]
    have hh : ∀ r, 30 ≤ r → ur t (28 + ix a1) (X4_takeHigh_s (t (12 + ix (2 * a1 + 1)) 4) (t (28 + ix a1))) r = t r := fun r hr => ur_hi hlo hr
    simp only [hh 66 (by decide), hh 67 (by decide), hh 35 (by decide)]
    dsimp only [X4_takeHigh_r, X4_takeHigh_s]
    rw [e0, e1, e4]
    by_cases z0 : t 66 (ix a1) = 0
    · simp only [if_pos z0]
      refine ⟨trivial, ?_⟩
      rw [ur_self]; exact h
    · simp only [if_neg z0]
      by_cases z1 : t 67 (ix a1) = -9
      · simp only [if_pos z1]
        refine ⟨trivial, ?_⟩
        rw [ur_self]; exact h
      · simp only [if_neg z1]
        refine ⟨trivial, ?_⟩
        refine J_pp h hl (fun r h1 h2 h3 => ?_) (fun j hj => ?_) (fun j hj => ?_) ?_
        · rw [us_ne h3, ur_ne _ _ h1]
        · rw [us_col hj, ur_hi hlo (by decide)]
        · rw [us_col hj, ur_hi hlo (by decide)]
        · rw [us_lo hlo (by decide), ur_at, us_same, us_ne (a := 66) (by decide), ur_hi hlo (by decide)]
          exact ⟨e0, rfl, g⟩
theorem op_slow (t : ct_St) (a1 a2 a3 : Int32) (h : J t) : X7_slow_r a1 a2 a3 = X8_slow_r a1 a2 a3 ∧ J (X8_slow_s a1 a2 a3 (X7_slow_s a1 a2 a3 t)) := by
  dsimp only [X7_slow_r, X8_slow_r, X7_slow_s, X8_slow_s]
  by_cases c1 : X7_isOneOf_r 4 a2 = 0
  · simp only [if_pos c1, if_pos (op4 c1)]; exact ⟨trivial, h⟩
  simp only [if_neg c1, if_neg (on4 c1)]
  by_cases c2 : X7_within_r a1 2 16 = 0
  · simp only [if_pos c2, if_pos (wp c2)]; exact ⟨trivial, h⟩
  simp only [if_neg c2, if_neg (wn c2)]
  by_cases c3 : X7_within_r a3 0 1 = 0
  · simp only [if_pos c3, if_pos (wp c3)]; exact ⟨trivial, h⟩
  simp only [if_neg c3, if_neg (wn c3)]
  refine ⟨trivial, ?_⟩
  have w1 := wi_r c2
  have w3 := wi_r c3
  rw [show (2 : Int32).toInt = 2 from by decide] at w1
  rw [i0, i1] at w3
  have hv : a3 = 0 ∨ a3 = 1 := by
    rcases (show a3.toInt = 0 ∨ a3.toInt = 1 by omega) with q | q
    · exact Or.inl (Int32.toInt_inj.mp (by rw [q, i0]))
    · exact Or.inr (Int32.toInt_inj.mp (by rw [q, i1]))
  have hz : ¬ a1 = 0 := by intro z; rw [z, i0] at w1; omega
  obtain ⟨⟨-, -, -, -, -, e5, e6⟩, -, -, -, g⟩ := h.2.2.2.2.2.1
  refine J_g h (fun r h1 h2 h3 => ?_) ?_ ?_
  · rw [us_ne h3, us_ne h3, us_ne h3, us_ne h3, us_ne h3, ur_ne _ _ h1]
  · rw [us_off (by decide), us_off (by decide), us_off (by decide), us_off (by decide), us_off (by decide), ur_ne _ _ (by decide)]
  · unfold PG
    simp (decide := true) only [us_lo, us_same, us_off, ne_eq, ur_at, ur_ne]
    exact ⟨⟨rfl, rfl, rfl, rfl, rfl, e5, e6⟩, isOneOf4_in c1, hz, hv, g⟩
