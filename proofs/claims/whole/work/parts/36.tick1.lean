theorem ru0 {F : Nat → Int32} {u : ct_St} {k : Nat} {v w : Int32} (h : rc F u k) (hv : v = w) : rc (upd F 0 v) (us u 31 k w) k := ⟨hv.trans us_same.symm, h.2.1, h.2.2.1, h.2.2.2.1, h.2.2.2.2.1, h.2.2.2.2.2.1, h.2.2.2.2.2.2.1, h.2.2.2.2.2.2.2.1, h.2.2.2.2.2.2.2.2.1, h.2.2.2.2.2.2.2.2.2.1, h.2.2.2.2.2.2.2.2.2.2⟩
theorem ru1 {F : Nat → Int32} {u : ct_St} {k : Nat} {v w : Int32} (h : rc F u k) (hv : v = w) : rc (upd F 1 v) (us u 32 k w) k := ⟨h.1, hv.trans us_same.symm, h.2.2.1, h.2.2.2.1, h.2.2.2.2.1, h.2.2.2.2.2.1, h.2.2.2.2.2.2.1, h.2.2.2.2.2.2.2.1, h.2.2.2.2.2.2.2.2.1, h.2.2.2.2.2.2.2.2.2.1, h.2.2.2.2.2.2.2.2.2.2⟩
theorem ru2 {F : Nat → Int32} {u : ct_St} {k : Nat} {v w : Int32} (h : rc F u k) (hv : v = w) : rc (upd F 2 v) (us u 33 k w) k := ⟨h.1, h.2.1, hv.trans us_same.symm, h.2.2.2.1, h.2.2.2.2.1, h.2.2.2.2.2.1, h.2.2.2.2.2.2.1, h.2.2.2.2.2.2.2.1, h.2.2.2.2.2.2.2.2.1, h.2.2.2.2.2.2.2.2.2.1, h.2.2.2.2.2.2.2.2.2.2⟩
theorem ru3 {F : Nat → Int32} {u : ct_St} {k : Nat} {v w : Int32} (h : rc F u k) (hv : v = w) : rc (upd F 3 v) (us u 34 k w) k := ⟨h.1, h.2.1, h.2.2.1, hv.trans us_same.symm, h.2.2.2.2.1, h.2.2.2.2.2.1, h.2.2.2.2.2.2.1, h.2.2.2.2.2.2.2.1, h.2.2.2.2.2.2.2.2.1, h.2.2.2.2.2.2.2.2.2.1, h.2.2.2.2.2.2.2.2.2.2⟩
theorem ru4 {F : Nat → Int32} {u : ct_St} {k : Nat} {v w : Int32} (h : rc F u k) (hv : v = w) : rc (upd F 4 v) (us u 35 k w) k := ⟨h.1, h.2.1, h.2.2.1, h.2.2.2.1, hv.trans us_same.symm, h.2.2.2.2.2.1, h.2.2.2.2.2.2.1, h.2.2.2.2.2.2.2.1, h.2.2.2.2.2.2.2.2.1, h.2.2.2.2.2.2.2.2.2.1, h.2.2.2.2.2.2.2.2.2.2⟩
theorem ru5 {F : Nat → Int32} {u : ct_St} {k : Nat} {v w : Int32} (h : rc F u k) (hv : v = w) : rc (upd F 5 v) (us u 36 k w) k := ⟨h.1, h.2.1, h.2.2.1, h.2.2.2.1, h.2.2.2.2.1, hv.trans us_same.symm, h.2.2.2.2.2.2.1, h.2.2.2.2.2.2.2.1, h.2.2.2.2.2.2.2.2.1, h.2.2.2.2.2.2.2.2.2.1, h.2.2.2.2.2.2.2.2.2.2⟩
theorem ru6 {F : Nat → Int32} {u : ct_St} {k : Nat} {v w : Int32} (h : rc F u k) (hv : v = w) : rc (upd F 6 v) (us u 37 k w) k := ⟨h.1, h.2.1, h.2.2.1, h.2.2.2.1, h.2.2.2.2.1, h.2.2.2.2.2.1, hv.trans us_same.symm, h.2.2.2.2.2.2.2.1, h.2.2.2.2.2.2.2.2.1, h.2.2.2.2.2.2.2.2.2.1, h.2.2.2.2.2.2.2.2.2.2⟩
theorem ru7 {F : Nat → Int32} {u : ct_St} {k : Nat} {v w : Int32} (h : rc F u k) (hv : v = w) : rc (upd F 7 v) (us u 38 k w) k := ⟨h.1, h.2.1, h.2.2.1, h.2.2.2.1, h.2.2.2.2.1, h.2.2.2.2.2.1, h.2.2.2.2.2.2.1, hv.trans us_same.symm, h.2.2.2.2.2.2.2.2.1, h.2.2.2.2.2.2.2.2.2.1, h.2.2.2.2.2.2.2.2.2.2⟩
theorem ru8 {F : Nat → Int32} {u : ct_St} {k : Nat} {v w : Int32} (h : rc F u k) (hv : v = w) : rc (upd F 8 v) (us u 39 k w) k := ⟨h.1, h.2.1, h.2.2.1, h.2.2.2.1, h.2.2.2.2.1, h.2.2.2.2.2.1, h.2.2.2.2.2.2.1, h.2.2.2.2.2.2.2.1, hv.trans us_same.symm, h.2.2.2.2.2.2.2.2.2.1, h.2.2.2.2.2.2.2.2.2.2⟩
theorem ru9 {F : Nat → Int32} {u : ct_St} {k : Nat} {v w : Int32} (h : rc F u k) (hv : v = w) : rc (upd F 9 v) (us u 41 k w) k := ⟨h.1, h.2.1, h.2.2.1, h.2.2.2.1, h.2.2.2.2.1, h.2.2.2.2.2.1, h.2.2.2.2.2.2.1, h.2.2.2.2.2.2.2.1, h.2.2.2.2.2.2.2.2.1, hv.trans us_same.symm, h.2.2.2.2.2.2.2.2.2.2⟩
theorem ru10 {F : Nat → Int32} {u : ct_St} {k : Nat} {v w : Int32} (h : rc F u k) (hv : v = w) : rc (upd F 10 v) (us u 40 k w) k := ⟨h.1, h.2.1, h.2.2.1, h.2.2.2.1, h.2.2.2.2.1, h.2.2.2.2.2.1, h.2.2.2.2.2.2.1, h.2.2.2.2.2.2.2.1, h.2.2.2.2.2.2.2.2.1, h.2.2.2.2.2.2.2.2.2.1, hv.trans us_same.symm⟩
theorem upd_self (F : Nat → Int32) (i : Nat) : upd F i (F i) = F := by
  funext j
  unfold upd
  split
  · next e => rw [e]
  · rfl
theorem go_rc {F : Nat → Int32} {u : ct_St} {a : Int32} (h : rc F u (ix a)) : rc (X2_goOver_s F) (X8_goesOver_s a u) (ix a) := by
  have h1 := ru9 (v := 1) h rfl
  exact ru7 h1 (congrArg (· + 1) h1.2.2.2.2.2.2.2.1)
theorem tk_rc {F : Nat → Int32} {u : ct_St} {a : Int32} (h : rc F u (ix a)) : rc (X2_takeWaitingTop_s F) (X8_takesTop_s a u) (ix a) := by
  have e8 := h.2.2.2.2.2.2.2.2.1
  have e1 := h.2.1
  dsimp only [X2_takeWaitingTop_s, X8_takesTop_s]
  by_cases c : F 8 = -9
  · have c' : u 39 (ix a) = -9 := by rw [← e8]; exact c
    rw [if_pos c, if_pos c']
    have h2 := ru8 (v := F 8) (ru1 (v := F 1) h e1) c
    have e : upd (upd F 1 (F 1)) 8 (F 8) = F := by rw [upd_self, upd_self]
    rw [e] at h2
    exact h2
  · have c' : ¬ u 39 (ix a) = -9 := by rw [← e8]; exact c
    rw [if_neg c, if_neg c']
    exact ru8 (ru1 h e8) rfl
theorem up_rc {F : Nat → Int32} {u : ct_St} {a : Int32} (h : rc F u (ix a)) : rc (X2_stepUp_s F) (X8_stepsUp_s a u) (ix a) := by
  have e1 := h.2.1
  have e4 := h.2.2.2.2.1
  dsimp only [X2_stepUp_s, X8_stepsUp_s]
  rw [← e1, ← e4]
  by_cases c : F 4 = F 1
  · rw [if_pos c, if_pos c]
    exact ru4 (tk_rc (go_rc h)) rfl
  · rw [if_neg c, if_neg c]
    exact ru4 h rfl
theorem dn_rc {F : Nat → Int32} {u : ct_St} {a : Int32} (h : rc F u (ix a)) : rc (X2_stepDown_s F) (X8_stepsDown_s a u) (ix a) := by
  have e4 := h.2.2.2.2.1
  dsimp only [X2_stepDown_s, X8_stepsDown_s]
  rw [← e4]
  by_cases c : F 4 = 0
  · rw [if_pos c, if_pos c]
    have h2 := tk_rc (go_rc h)
    exact ru4 h2 h2.2.1
  · rw [if_neg c, if_neg c]
    exact ru4 h rfl
theorem fin_rc {F : Nat → Int32} {u : ct_St} {a : Int32} (h : rc F u (ix a)) : rc (if F 6 = 1 then upd F 4 (F 4 + 1) else upd F 4 (F 4 + -1)) (if u 37 (ix a) = 1 then us u 35 (ix a) (u 35 (ix a) + 1) else us u 35 (ix a) (u 35 (ix a) + -1)) (ix a) := by
  have e6 := h.2.2.2.2.2.2.1
  have e4 := h.2.2.2.2.1
  rw [← e6, ← e4]
  by_cases c : F 6 = 1
  · rw [if_pos c, if_pos c]; exact ru4 h rfl
  · rw [if_neg c, if_neg c]; exact ru4 h rfl
theorem bo_rc {F : Nat → Int32} {u : ct_St} {a : Int32} (h : rc F u (ix a)) : rc (X2_stepBothWays_s F) (X8_stepsBoth_s a u) (ix a) := by
  have e1 := h.2.1
  have e4 := h.2.2.2.2.1
  have e6 := h.2.2.2.2.2.2.1
  dsimp only [X2_stepBothWays_s, X8_stepsBoth_s]
  by_cases c1 : F 6 = 1
  · have c1' : u 37 (ix a) = 1 := by rw [← e6]; exact c1
    rw [if_pos c1, if_pos c1']
    by_cases c2 : F 4 = F 1
    · have c2' : u 35 (ix a) = u 32 (ix a) := by rw [← e4, ← e1]; exact c2
      rw [if_pos c2, if_pos c2']
      exact fin_rc (ru6 (v := 0) (go_rc h) rfl)
    · have c2' : ¬ u 35 (ix a) = u 32 (ix a) := by rw [← e4, ← e1]; exact c2
      rw [if_neg c2, if_neg c2']
      have n6 : ¬ F 6 = 0 := by rw [c1]; decide
      have n6' : ¬ u 37 (ix a) = 0 := by rw [c1']; decide
      rw [if_neg n6, if_neg n6']
      exact ru4 h (by rw [e4])
  · have c1' : ¬ u 37 (ix a) = 1 := by rw [← e6]; exact c1
    rw [if_neg c1, if_neg c1']
    by_cases c2 : F 6 = 0
    · have c2' : u 37 (ix a) = 0 := by rw [← e6]; exact c2
      rw [if_pos c2, if_pos c2']
      by_cases c3 : F 4 = 0
      · have c3' : u 35 (ix a) = 0 := by rw [← e4]; exact c3
        rw [if_pos c3, if_pos c3']
        exact fin_rc (tk_rc (ru6 (v := 1) (go_rc h) rfl))
      · have c3' : ¬ u 35 (ix a) = 0 := by rw [← e4]; exact c3
        rw [if_neg c3, if_neg c3']
        exact ru4 h (by rw [e4])
    · have c2' : ¬ u 37 (ix a) = 0 := by rw [← e6]; exact c2
      rw [if_neg c2, if_neg c2']
      exact ru4 h (by rw [e4])
theorem st_rc {F : Nat → Int32} {u : ct_St} {a : Int32} (h : rc F u (ix a)) : rc (X2_step_s F) (X8_steps_s a u) (ix a) := by
  have h1 := ru10 (v := 1) h rfl
  have e0 := h1.1
  dsimp only [X2_step_s, X8_steps_s]
  rw [← e0]
  by_cases c1 : upd F 10 1 0 = 0
  · rw [if_pos c1, if_pos c1]; exact up_rc h1
  · rw [if_neg c1, if_neg c1]
    by_cases c2 : upd F 10 1 0 = 1
    · rw [if_pos c2, if_pos c2]; exact dn_rc h1
    · rw [if_neg c2, if_neg c2]; exact bo_rc h1
theorem pass_rc {F : Nat → Int32} {u : ct_St} {x b : Int32} (h : rc F u (ix x)) (hb : b = 0 ↔ X8_hasPulse_r x (us (us u 40 (ix x) 0) 41 (ix x) 0) = 0) : rc (X2_pass_s b F) (X8_counters_it x u) (ix x) := by
  have h1 : rc (upd (upd F 9 0) 10 0) (us (us u 40 (ix x) 0) 41 (ix x) 0) (ix x) := by
    have h2 := ru9 (v := 0) (ru10 (v := 0) h rfl) rfl
    have e : upd (upd F 10 0) 9 0 = upd (upd F 9 0) 10 0 := by
      funext j
      unfold upd
      by_cases c : j = 9
      · subst c; rfl
      · by_cases c2 : j = 10
        · subst c2; rfl
        · simp only [if_neg c, if_neg c2]
    rw [e] at h2
    exact h2
  dsimp only [X2_pass_s, X8_counters_it]
  by_cases c1 : b = 0
  · rw [if_pos c1, if_pos (hb.mp c1)]; exact h1
  · rw [if_neg c1, if_neg (fun z => c1 (hb.mpr z))]
    have h3 := ru5 h1 (congrArg (· + 1) h1.2.2.2.2.2.1)
    have e5 := h3.2.2.2.2.2.1
    have e2 := h3.2.2.1
    by_cases c2 : upd (upd (upd F 9 0) 10 0) 5 (upd (upd F 9 0) 10 0 5 + 1) 5 = upd (upd (upd F 9 0) 10 0) 5 (upd (upd F 9 0) 10 0 5 + 1) 2
    · have c2' := e5.symm.trans (c2.trans e2)
      rw [if_pos c2, if_pos c2']
      exact st_rc (ru5 (v := 0) h3 rfl)
    · have c2' := fun z => c2 (Eq.trans e5 (Eq.trans z e2.symm))
      rw [if_neg c2, if_neg c2']
      exact h3
/-- what a counter keeps -/
theorem t_inc {x : Int32} (h0 : 0 ≤ x.toInt) (h : x.toInt < 10000) : (x + 1).toInt = x.toInt + 1 := by
  obtain ⟨j, hj, rfl⟩ := nI_of (x := x) (by rw [Int32.lt_iff_toInt_lt, i0]; omega)
  rw [nI_toInt hj] at h ⊢
  rw [nI_1, nI_toInt (by omega)]
  omega
theorem t_dec {x : Int32} (h0 : 0 < x.toInt) : (x - 1).toInt = x.toInt - 1 ∧ (x + -1).toInt = x.toInt - 1 := by
  obtain ⟨j, hj, rfl⟩ := nI_of (x := x) (by rw [Int32.lt_iff_toInt_lt, i0]; omega)
  rw [nI_toInt hj] at h0 ⊢
  obtain ⟨i, rfl⟩ : ∃ i, j = i + 1 := ⟨j - 1, by omega⟩
  rw [nI_pred, pk_m1, nI_toInt (by omega)]
  omega
def ie (F : Nat → Int32) : Prop := (1 ≤ (F 1).toInt ∧ (F 1).toInt ≤ 9999) ∧ (F 6 = 0 ∨ F 6 = 1) ∧ (F 8 = -9 ∨ (1 ≤ (F 8).toInt ∧ (F 8).toInt ≤ 9999))
theorem tk_ie {F : Nat → Int32} (h : ie F) : ie (X2_takeWaitingTop_s F) ∧ X2_takeWaitingTop_s F 4 = F 4 ∧ X2_takeWaitingTop_s F 6 = F 6 := by
  dsimp only [X2_takeWaitingTop_s]
  split
  · exact ⟨h, rfl, rfl⟩
  · next c =>
    refine ⟨⟨?_, h.2.1, Or.inl rfl⟩, rfl, rfl⟩
    rcases h.2.2 with q | q
    · exact absurd q c
    · exact q
theorem up_ic {F : Nat → Int32} (h : ic F) : ic (X2_stepUp_s F) := by
  obtain ⟨h1, h4, h6, h8⟩ := h
  dsimp only [X2_stepUp_s]
  by_cases c : F 4 = F 1
  · rw [if_pos c]
    obtain ⟨⟨k1, k2, k3⟩, -, -⟩ := tk_ie (F := X2_goOver_s F) ⟨h1, h6, h8⟩
    refine ⟨k1, ⟨?_, ?_⟩, k2, k3⟩
    · show 0 ≤ (0 : Int32).toInt; rw [i0]; omega
    · show (0 : Int32).toInt ≤ (X2_takeWaitingTop_s (X2_goOver_s F) 1).toInt; rw [i0]; omega
  · rw [if_neg c]
    have hne : (F 4).toInt ≠ (F 1).toInt := fun z => c (Int32.toInt_inj.mp z)
    refine ⟨h1, ⟨?_, ?_⟩, h6, h8⟩
    · show 0 ≤ (F 4 + 1).toInt; rw [t_inc h4.1 (by omega)]; omega
    · show (F 4 + 1).toInt ≤ (F 1).toInt; rw [t_inc h4.1 (by omega)]; omega
theorem dn_ic {F : Nat → Int32} (h : ic F) : ic (X2_stepDown_s F) := by
  obtain ⟨h1, h4, h6, h8⟩ := h
  dsimp only [X2_stepDown_s]
  by_cases c : F 4 = 0
  · rw [if_pos c]
    obtain ⟨⟨k1, k2, k3⟩, -, -⟩ := tk_ie (F := X2_goOver_s F) ⟨h1, h6, h8⟩
    refine ⟨k1, ⟨?_, ?_⟩, k2, k3⟩
    · show 0 ≤ (X2_takeWaitingTop_s (X2_goOver_s F) 1).toInt; omega
    · show (X2_takeWaitingTop_s (X2_goOver_s F) 1).toInt ≤ (X2_takeWaitingTop_s (X2_goOver_s F) 1).toInt; omega
  · rw [if_neg c]
    have hne : (F 4).toInt ≠ 0 := fun z => c (Int32.toInt_inj.mp (by rw [z, i0]))
    have hd := (t_dec (x := F 4) (by omega)).1
    refine ⟨h1, ⟨?_, ?_⟩, h6, h8⟩
    · show 0 ≤ (F 4 - 1).toInt; rw [hd]; omega
    · show (F 4 - 1).toInt ≤ (F 1).toInt; rw [hd]; omega
theorem bo_ic {F : Nat → Int32} (h : ic F) : ic (X2_stepBothWays_s F) := by
  obtain ⟨h1, h4, h6, h8⟩ := h
  dsimp only [X2_stepBothWays_s]
  by_cases c1 : F 6 = 1
  · rw [if_pos c1]
    by_cases c2 : F 4 = F 1
    · rw [if_pos c2]
      have n1 : ¬ upd (X2_goOver_s F) 6 0 6 = 1 := by show ¬ (0 : Int32) = 1; decide
      rw [if_neg n1]
      have hd := (t_dec (x := F 4) (by rw [c2]; omega)).2
      refine ⟨h1, ⟨?_, ?_⟩, Or.inl rfl, h8⟩
      · show 0 ≤ (F 4 + -1).toInt; rw [hd, c2]; omega
      · show (F 4 + -1).toInt ≤ (F 1).toInt; rw [hd, c2]; omega
    · rw [if_neg c2]
      have n6 : ¬ F 6 = 0 := by rw [c1]; decide
      rw [if_neg n6]
      have hne : (F 4).toInt ≠ (F 1).toInt := fun z => c2 (Int32.toInt_inj.mp z)
      refine ⟨h1, ⟨?_, ?_⟩, h6, h8⟩
      · show 0 ≤ (F 4 + 1).toInt; rw [t_inc h4.1 (by omega)]; omega
      · show (F 4 + 1).toInt ≤ (F 1).toInt; rw [t_inc h4.1 (by omega)]; omega
  · rw [if_neg c1]
    have c2 : F 6 = 0 := h6.resolve_right c1
    rw [if_pos c2]
    by_cases c3 : F 4 = 0
    · rw [if_pos c3]
      obtain ⟨⟨k1, k2, k3⟩, k4, k6⟩ := tk_ie (F := upd (X2_goOver_s F) 6 1) ⟨h1, Or.inr rfl, h8⟩
      have k6' : X2_takeWaitingTop_s (upd (X2_goOver_s F) 6 1) 6 = 1 := k6
      have k4' : X2_takeWaitingTop_s (upd (X2_goOver_s F) 6 1) 4 = 0 := k4.trans c3
      rw [if_pos k6', k4']
      refine ⟨k1, ⟨?_, ?_⟩, k2, k3⟩
      · show 0 ≤ ((0 : Int32) + 1).toInt; decide
      · show ((0 : Int32) + 1).toInt ≤ (X2_takeWaitingTop_s (upd (X2_goOver_s F) 6 1) 1).toInt
        rw [show ((0 : Int32) + 1).toInt = 1 from by decide]
        exact k1.1
    · rw [if_neg c3]
      have hne : (F 4).toInt ≠ 0 := fun z => c3 (Int32.toInt_inj.mp (by rw [z, i0]))
      have hd := (t_dec (x := F 4) (by omega)).2
      refine ⟨h1, ⟨?_, ?_⟩, h6, h8⟩
      · show 0 ≤ (F 4 + -1).toInt; rw [hd]; omega
      · show (F 4 + -1).toInt ≤ (F 1).toInt; rw [hd]; omega
theorem pass_ic {F : Nat → Int32} (b : Int32) (h : ic F) : ic (X2_pass_s b F) := by
  dsimp only [X2_pass_s]
  split
  · exact h
  · split
    · dsimp only [X2_step_s]
      split
      · exact up_ic (F := upd (upd (upd (upd (upd F 9 0) 10 0) 5 _) 5 0) 10 1) h
      · split
        · exact dn_ic (F := upd (upd (upd (upd (upd F 9 0) 10 0) 5 _) 5 0) 10 1) h
        · exact bo_ic (F := upd (upd (upd (upd (upd F 9 0) 10 0) 5 _) 5 0) 10 1) h
    · exact h
/-- other columns -/
theorem go_col {u : ct_St} {a : Int32} {r j : Nat} (h : j ≠ ix a) : X8_goesOver_s a u r j = u r j := by
  dsimp only [X8_goesOver_s]
  rw [us_col h, us_col h]
theorem tk_col {u : ct_St} {a : Int32} {r j : Nat} (h : j ≠ ix a) : X8_takesTop_s a u r j = u r j := by
  dsimp only [X8_takesTop_s]
  split <;> rw [us_col h, us_col h]
theorem up_col {u : ct_St} {a : Int32} {r j : Nat} (h : j ≠ ix a) : X8_stepsUp_s a u r j = u r j := by
  dsimp only [X8_stepsUp_s]
  split <;> simp only [us_col h, tk_col h, go_col h]
theorem dn_col {u : ct_St} {a : Int32} {r j : Nat} (h : j ≠ ix a) : X8_stepsDown_s a u r j = u r j := by
  dsimp only [X8_stepsDown_s]
  split <;> simp only [us_col h, tk_col h, go_col h]
theorem bo_col {u : ct_St} {a : Int32} {r j : Nat} (h : j ≠ ix a) : X8_stepsBoth_s a u r j = u r j := by
  dsimp only [X8_stepsBoth_s]
  (repeat' split) <;> simp only [us_col h, tk_col h, go_col h]
theorem st_col {u : ct_St} {a : Int32} {r j : Nat} (h : j ≠ ix a) : X8_steps_s a u r j = u r j := by
  dsimp only [X8_steps_s]
  (repeat' split) <;> simp only [us_col h, up_col h, dn_col h, bo_col h]
theorem cn_col {u : ct_St} {x : Int32} {r j : Nat} (h : j ≠ ix x) : X8_counters_it x u r j = u r j := by
  dsimp only [X8_counters_it]
  (repeat' split) <;> simp only [us_col h, st_col h]
