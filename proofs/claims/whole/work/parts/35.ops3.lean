theorem vl_0_100 : vp_in (0 : Int32) 100 := by unfold vp_in; decide
theorem J2c {s u s' u' : ct_St} (h : J2 s u) (hs : ∀ r, r < 30 → ¬ (12 ≤ r ∧ r < 16) → s' r = s r) (hu : ∀ r, 30 ≤ r → ¬ (31 ≤ r ∧ r ≤ 41) → u' r = u r) (hp : PC2 s' u') : J2 s' u' :=
  ⟨hp, PI2_of h.2.1 (fun r _ _ => hs r (by omega) (by omega)) (fun r _ _ => hu r (by omega) (by omega)), PT2_of h.2.2.1 (fun r _ _ => hs r (by omega) (by omega)) (fun r _ _ => hu r (by omega) (by omega)), PH2_of h.2.2.2.1 (fun r _ _ => hs r (by omega) (by omega)) (fun r _ _ => hu r (by omega) (by omega)), PP2_of h.2.2.2.2.1 (fun r _ _ => hs r (by omega) (by omega)) (fun r _ _ => hu r (by omega) (by omega)), PG2_of h.2.2.2.2.2.1 (hs 7 (by omega) (by omega)) (hs 0 (by omega) (by omega)) (fun k _ => by rw [hu 30 (by omega) (by omega)]), RR_of h.2.2.2.2.2.2 (fun r hr => hs r (by omega) (by omega)) (fun r _ _ => hu r (by omega) (by omega)) (by rw [hu 30 (by omega) (by omega)])⟩
theorem PC2_up {s u s' u' : ct_St} (h : PC2 s u) {k : Nat} (hF : ∀ j, j < 4 → j ≠ k → s' (12 + j) = s (12 + j)) (hM : ∀ j, j < 4 → j ≠ k → ∀ r, 31 ≤ r → r ≤ 41 → u' r j = u r j) (hk : rc (s' (12 + k)) u' k ∧ ic (s' (12 + k))) (h34 : u' 34 0 ≠ 2) (h41 : bl (u' 41)) : PC2 s' u' := by
  refine ⟨fun j hj => ?_, h34, h41⟩
  by_cases e : j = k
  · subst e; exact hk
  · unfold rc
    rw [hF j hj e, hM j hj e 31 (by omega) (by omega), hM j hj e 32 (by omega) (by omega), hM j hj e 33 (by omega) (by omega), hM j hj e 34 (by omega) (by omega), hM j hj e 35 (by omega) (by omega), hM j hj e 36 (by omega) (by omega), hM j hj e 37 (by omega) (by omega), hM j hj e 38 (by omega) (by omega), hM j hj e 39 (by omega) (by omega), hM j hj e 40 (by omega) (by omega), hM j hj e 41 (by omega) (by omega)]
    exact h.1 j hj
theorem J2i {s u s' u' : ct_St} (h : J2 s u) (hs : ∀ r, r < 30 → ¬ (16 ≤ r ∧ r < 20) → s' r = s r) (hu : ∀ r, 30 ≤ r → ¬ (42 ≤ r ∧ r ≤ 46) → u' r = u r) (hp : PI2 s' u') : J2 s' u' :=
  ⟨PC2_of h.1 (fun r _ _ => hs r (by omega) (by omega)) (fun r _ _ => hu r (by omega) (by omega)), hp, PT2_of h.2.2.1 (fun r _ _ => hs r (by omega) (by omega)) (fun r _ _ => hu r (by omega) (by omega)), PH2_of h.2.2.2.1 (fun r _ _ => hs r (by omega) (by omega)) (fun r _ _ => hu r (by omega) (by omega)), PP2_of h.2.2.2.2.1 (fun r _ _ => hs r (by omega) (by omega)) (fun r _ _ => hu r (by omega) (by omega)), PG2_of h.2.2.2.2.2.1 (hs 7 (by omega) (by omega)) (hs 0 (by omega) (by omega)) (fun k _ => by rw [hu 30 (by omega) (by omega)]), RR_of h.2.2.2.2.2.2 (fun r hr => hs r (by omega) (by omega)) (fun r _ _ => hu r (by omega) (by omega)) (by rw [hu 30 (by omega) (by omega)])⟩
theorem PI2_up {s u s' u' : ct_St} (h : PI2 s u) {k : Nat} (hF : ∀ j, j < 4 → j ≠ k → s' (16 + j) = s (16 + j)) (hM : ∀ j, j < 4 → j ≠ k → ∀ r, 42 ≤ r → r ≤ 46 → u' r j = u r j) (hk : ri (s' (16 + k)) u' k ∧ 0 < (s' (16 + k) 3).toInt) : PI2 s' u' := by
  intro j hj
  by_cases e : j = k
  · subst e; exact hk
  · unfold ri
    rw [hF j hj e, hM j hj e 42 (by omega) (by omega), hM j hj e 43 (by omega) (by omega), hM j hj e 44 (by omega) (by omega), hM j hj e 45 (by omega) (by omega), hM j hj e 46 (by omega) (by omega)]
    exact h j hj
theorem J2t {s u s' u' : ct_St} (h : J2 s u) (hs : ∀ r, r < 30 → ¬ (20 ≤ r ∧ r < 24) → s' r = s r) (hu : ∀ r, 30 ≤ r → ¬ (47 ≤ r ∧ r ≤ 53) → u' r = u r) (hp : PT2 s' u') : J2 s' u' :=
  ⟨PC2_of h.1 (fun r _ _ => hs r (by omega) (by omega)) (fun r _ _ => hu r (by omega) (by omega)), PI2_of h.2.1 (fun r _ _ => hs r (by omega) (by omega)) (fun r _ _ => hu r (by omega) (by omega)), hp, PH2_of h.2.2.2.1 (fun r _ _ => hs r (by omega) (by omega)) (fun r _ _ => hu r (by omega) (by omega)), PP2_of h.2.2.2.2.1 (fun r _ _ => hs r (by omega) (by omega)) (fun r _ _ => hu r (by omega) (by omega)), PG2_of h.2.2.2.2.2.1 (hs 7 (by omega) (by omega)) (hs 0 (by omega) (by omega)) (fun k _ => by rw [hu 30 (by omega) (by omega)]), RR_of h.2.2.2.2.2.2 (fun r hr => hs r (by omega) (by omega)) (fun r _ _ => hu r (by omega) (by omega)) (by rw [hu 30 (by omega) (by omega)])⟩
theorem PT2_up {s u s' u' : ct_St} (h : PT2 s u) {k : Nat} (hF : ∀ j, j < 4 → j ≠ k → s' (20 + j) = s (20 + j)) (hM : ∀ j, j < 4 → j ≠ k → ∀ r, 47 ≤ r → r ≤ 53 → u' r j = u r j) (hk : rt (s' (20 + k)) u' k ∧ it (s' (20 + k))) : PT2 s' u' := by
  intro j hj
  by_cases e : j = k
  · subst e; exact hk
  · unfold rt
    rw [hF j hj e, hM j hj e 47 (by omega) (by omega), hM j hj e 48 (by omega) (by omega), hM j hj e 49 (by omega) (by omega), hM j hj e 50 (by omega) (by omega), hM j hj e 51 (by omega) (by omega), hM j hj e 52 (by omega) (by omega), hM j hj e 53 (by omega) (by omega)]
    exact h j hj
theorem J2h {s u s' u' : ct_St} (h : J2 s u) (hs : ∀ r, r < 30 → ¬ (24 ≤ r ∧ r < 28) → s' r = s r) (hu : ∀ r, 30 ≤ r → ¬ (54 ≤ r ∧ r ≤ 61) → u' r = u r) (hp : PH2 s' u') : J2 s' u' :=
  ⟨PC2_of h.1 (fun r _ _ => hs r (by omega) (by omega)) (fun r _ _ => hu r (by omega) (by omega)), PI2_of h.2.1 (fun r _ _ => hs r (by omega) (by omega)) (fun r _ _ => hu r (by omega) (by omega)), PT2_of h.2.2.1 (fun r _ _ => hs r (by omega) (by omega)) (fun r _ _ => hu r (by omega) (by omega)), hp, PP2_of h.2.2.2.2.1 (fun r _ _ => hs r (by omega) (by omega)) (fun r _ _ => hu r (by omega) (by omega)), PG2_of h.2.2.2.2.2.1 (hs 7 (by omega) (by omega)) (hs 0 (by omega) (by omega)) (fun k _ => by rw [hu 30 (by omega) (by omega)]), RR_of h.2.2.2.2.2.2 (fun r hr => hs r (by omega) (by omega)) (fun r _ _ => hu r (by omega) (by omega)) (by rw [hu 30 (by omega) (by omega)])⟩
theorem PH2_up {s u s' u' : ct_St} (h : PH2 s u) {k : Nat} (hF : ∀ j, j < 4 → j ≠ k → s' (24 + j) = s (24 + j)) (hM : ∀ j, j < 4 → j ≠ k → ∀ r, 54 ≤ r → r ≤ 61 → u' r j = u r j) (hk : rh (s' (24 + k)) u' k ∧ ih (s' (24 + k))) : PH2 s' u' := by
  intro j hj
  by_cases e : j = k
  · subst e; exact hk
  · unfold rh
    rw [hF j hj e, hM j hj e 54 (by omega) (by omega), hM j hj e 55 (by omega) (by omega), hM j hj e 56 (by omega) (by omega), hM j hj e 57 (by omega) (by omega), hM j hj e 58 (by omega) (by omega), hM j hj e 59 (by omega) (by omega), hM j hj e 60 (by omega) (by omega), hM j hj e 61 (by omega) (by omega)]
    exact h j hj
theorem okM_row {t u : ct_St} (h : okM t) (hu : ∀ r, 30 ≤ r → u r = t r) : okM u := okM_of h (hu 34 (by decide)) (by rw [hu 41 (by decide)]; exact h.2.1) (hu 49 (by decide)) (hu 47 (by decide)) (hu 54 (by decide)) (hu 30 (by decide))
theorem wop_hi (t : ct_St) {r : Nat} (h : 30 ≤ r) : X7_workOutPins_s t r = t r := X7_workOutPins_s_fr t (by omega) (by omega) (by omega) (by omega) (by omega)
theorem pins_lo (t : ct_St) {r : Nat} (h : r < 30) : X8_pins_s t r = t r := X8_pins_s_fr t (by omega) (by omega) (by omega) (by omega) (by omega)
/-- the end of a call that works the pins out anew: class rows tc, reference's rows tm on top of what the class left -/
theorem J_fin {tc tm : ct_St} (h : J2 tc tm) (hlo : ∀ r, r < 30 → tm r = X7_workOutPins_s tc r) : J (X8_pins_s tm) :=
  J2_J (J2_of (J2_pins h) (fun r hr => by rw [pins_lo tm hr, hlo r hr]) (fun _ _ => rfl))
/-- one column of the channels is new, and the pins are worked out anew -/
theorem J_chn {t u : ct_St} {k : Nat} {F : Nat → Int32} (h : J t) (hl : k < 4) (ulo : ∀ r, r < 30 → u r = X7_workOutPins_s (ur t (24 + k) F) r) (uhi : ∀ r, 30 ≤ r → ¬ (54 ≤ r ∧ r ≤ 61) → u r = t r) (ucol : ∀ j, j ≠ k → ∀ r, 54 ≤ r → r ≤ 61 → u r j = t r j) (hk : rh F u k ∧ ih F) : J (X8_pins_s u) := by
  refine J_fin (tc := ur t (24 + k) F) ?_ ulo
  refine J2h (J_J2 h) (fun r h1 h2 => ur_ne _ _ (by omega)) uhi (PH2_up h.2.2.2.1 (k := k) (fun j hj e => ur_ne _ _ (by omega)) (fun j hj e r h1 h2 => ucol j e r h1 h2) ?_)
  rw [ur_at]
  exact hk
theorem wops_hi (t : ct_St) {k : Nat} {F : Nat → Int32} (hl : k < 4) : ∀ r, 30 ≤ r → X7_workOutPins_s (ur t (24 + k) F) r = t r := fun r hr => by rw [wop_hi _ hr, ur_hi (by omega) hr]
theorem sn {a : Int32} (h : ¬ X7_isSetOfOutputs_r a = 0) : ¬ X8_within_r a 0 3 = 0 := h
theorem sp {a : Int32} (h : X7_isSetOfOutputs_r a = 0) : X8_within_r a 0 3 = 0 := h
theorem op_channel (t : ct_St) (a1 a2 a3 a4 : Int32) (h : J t) : okM (X7_channel_s a1 a2 a3 a4 t) ∧ X7_channel_r a1 a2 a3 a4 = X8_channel_r a1 a2 a3 a4 ∧ J (X8_channel_s a1 a2 a3 a4 (X7_channel_s a1 a2 a3 a4 t)) := by
  dsimp only [X7_channel_r, X8_channel_r, X7_channel_s, X8_channel_s]
  by_cases c1 : X7_isOneOf_r 4 a1 = 0
  · simp only [if_pos c1, if_pos (op4 c1)]; exact ⟨J_okM h, trivial, h⟩
  simp only [if_neg c1, if_neg (on4 c1)]
  by_cases c2 : X7_isOneOf_r 4 a2 = 0
  · simp only [if_pos c2, if_pos (op4 c2)]; exact ⟨J_okM h, trivial, h⟩
  simp only [if_neg c2, if_neg (on4 c2)]
  by_cases c3 : X7_within_r a3 0 4 = 0
  · simp only [if_pos c3, if_pos (wp c3)]; exact ⟨J_okM h, trivial, h⟩
  simp only [if_neg c3, if_neg (wn c3)]
  by_cases c4 : X7_within_r a4 0 9999 = 0
  · simp only [if_pos c4, if_pos (wp c4)]; exact ⟨J_okM h, trivial, h⟩
  simp only [if_neg c4, if_neg (wn c4)]
  have hl := vp_lt (isOneOf4_in c1)
  have w2 := isOneOf4_in c2
  have w3 : vp_in a3 5 := by
    have w := wi_r c3
    rw [i0, show (4 : Int32).toInt = 4 from by decide] at w
    rw [vp_in_iff]
    omega
  clear c1 c2 c3 c4
  generalize ix a1 = k at *
  have t1hi := wops_hi t (k := k) (F := X1_setUp_s a2 a3 a4 (t (24 + k))) hl
  obtain ⟨⟨e0, e1, e2, e3, e4, e5, e6, e7⟩, g1, g2, g3, g4, g5⟩ := h.2.2.2.1 k hl
  have fin : ∀ v, (∀ r, 30 ≤ r → v r = t r) → (∀ r, r < 30 → v r = X7_workOutPins_s (ur t (24 + k) (X1_setUp_s a2 a3 a4 (t (24 + k)))) r) → J (X8_pins_s (us (us (us (us (us v 54 k a2) 55 k a3) 56 k a4) 57 k 0) 58 k 0)) := by
    intro v vhi vlo
    refine J_chn (F := X1_setUp_s a2 a3 a4 (t (24 + k))) h hl (fun r hr => ?_) (fun r h1 h2 => ?_) (fun j e r h1 h2 => ?_) ⟨?_, w2, w3, Or.inl rfl, vl_0_100, g5⟩
    · rw [us_lo hr (by decide), us_lo hr (by decide), us_lo hr (by decide), us_lo hr (by decide), us_lo hr (by decide)]
      exact vlo r hr
    · rw [us_ne (by omega), us_ne (by omega), us_ne (by omega), us_ne (by omega), us_ne (by omega), vhi r h1]
    · rw [us_col e, us_col e, us_col e, us_col e, us_col e, vhi r (by omega)]
    · unfold rh
      simp (decide := true) only [us_same, us_ne, ne_eq]
      rw [vhi 59 (by decide), vhi 60 (by decide), vhi 61 (by decide)]
      exact ⟨rfl, rfl, rfl, rfl, rfl, e5, e6, e7⟩
  exact ⟨okM_row (J_okM h) t1hi, trivial, fin _ t1hi (fun _ _ => rfl)⟩
theorem op_outputs (t : ct_St) (a1 a2 a3 a4 : Int32) (h : J t) : okM (X7_outputs_s a1 a2 a3 a4 t) ∧ X7_outputs_r a1 a2 a3 a4 = X8_outputs_r a1 a2 a3 a4 ∧ J (X8_outputs_s a1 a2 a3 a4 (X7_outputs_s a1 a2 a3 a4 t)) := by
  dsimp only [X7_outputs_r, X8_outputs_r, X7_outputs_s, X8_outputs_s]
  by_cases c1 : X7_isOneOf_r 4 a1 = 0
  · simp only [if_pos c1, if_pos (op4 c1)]; exact ⟨J_okM h, trivial, h⟩
  simp only [if_neg c1, if_neg (on4 c1)]
  by_cases c2 : X7_within_r a2 0 20 = 0
  · simp only [if_pos c2, if_pos (wp c2)]; exact ⟨J_okM h, trivial, h⟩
  simp only [if_neg c2, if_neg (wn c2)]
  by_cases c3 : X7_isSetOfOutputs_r a3 = 0
  · simp only [if_pos c3, if_pos (sp c3)]; exact ⟨J_okM h, trivial, h⟩
  simp only [if_neg c3, if_neg (sn c3)]
  by_cases c4 : X7_isSetOfOutputs_r a4 = 0
  · simp only [if_pos c4, if_pos (sp c4)]; exact ⟨J_okM h, trivial, h⟩
  simp only [if_neg c4, if_neg (sn c4)]
  have hl := vp_lt (isOneOf4_in c1)
  have w3 : vp_in a3 4 := by
    have w := wi_r (show ¬ X7_within_r a3 0 3 = 0 from c3)
    rw [i0, show (3 : Int32).toInt = 3 from by decide] at w
    rw [vp_in_iff]
    omega
  clear c1 c2 c3 c4
  generalize ix a1 = k at *
  have t1hi := wops_hi t (k := k) (F := X1_shapeOutputs_s a2 a3 a4 (t (24 + k))) hl
  obtain ⟨⟨e0, e1, e2, e3, e4, e5, e6, e7⟩, g1, g2, g3, g4, g5⟩ := h.2.2.2.1 k hl
  have fin : ∀ v, (∀ r, 30 ≤ r → v r = t r) → (∀ r, r < 30 → v r = X7_workOutPins_s (ur t (24 + k) (X1_shapeOutputs_s a2 a3 a4 (t (24 + k)))) r) → J (X8_pins_s (us (us (us v 59 k a2) 60 k a3) 61 k a4)) := by
    intro v vhi vlo
    refine J_chn (F := X1_shapeOutputs_s a2 a3 a4 (t (24 + k))) h hl (fun r hr => ?_) (fun r h1 h2 => ?_) (fun j e r h1 h2 => ?_) ⟨?_, g1, g2, g3, g4, w3⟩
    · rw [us_lo hr (by decide), us_lo hr (by decide), us_lo hr (by decide)]
      exact vlo r hr
    · rw [us_ne (by omega), us_ne (by omega), us_ne (by omega), vhi r h1]
    · rw [us_col e, us_col e, us_col e, vhi r (by omega)]
    · unfold rh
      simp (decide := true) only [us_same, us_ne, ne_eq]
      rw [vhi 54 (by decide), vhi 55 (by decide), vhi 56 (by decide), vhi 57 (by decide), vhi 58 (by decide)]
      exact ⟨e0, e1, e2, e3, e4, rfl, rfl, rfl⟩
  exact ⟨okM_row (J_okM h) t1hi, trivial, fin _ t1hi (fun _ _ => rfl)⟩
theorem J_brk (t w : ct_St) (v : Int32) (hv : v = 0 ∨ v = 1) (h : J t) (t1hi : ∀ r, 30 ≤ r → w r = t r) (t1lo : ∀ r, r < 30 → w r = X7_workOutPins_s (us t 0 8 v) r) : J (X8_pins_s (us w 30 32 v)) := by
  refine J_fin (tc := us t 0 8 v) ?_ (fun r hr => (us_lo hr (by decide)).trans (t1lo r hr))
  have hs : ∀ r, r < 30 → r ≠ 0 → us t 0 8 v r = t r := fun r _ hr => us_ne hr
  have hu : ∀ r, 30 ≤ r → r ≠ 30 → us w 30 32 v r = t r := fun r h1 hr => by rw [us_ne hr, t1hi r h1]
  obtain ⟨⟨e0, e1, e2, e3, e4, e5, e6⟩, f1, f2, f3, f4⟩ := h.2.2.2.2.2.1
  refine ⟨PC2_of h.1 (fun r _ _ => hs r (by omega) (by omega)) (fun r _ _ => hu r (by omega) (by omega)), PI2_of h.2.1 (fun r _ _ => hs r (by omega) (by omega)) (fun r _ _ => hu r (by omega) (by omega)), PT2_of h.2.2.1 (fun r _ _ => hs r (by omega) (by omega)) (fun r _ _ => hu r (by omega) (by omega)), PH2_of h.2.2.2.1 (fun r _ _ => hs r (by omega) (by omega)) (fun r _ _ => hu r (by omega) (by omega)), PP2_of h.2.2.2.2.1 (fun r _ _ => hs r (by omega) (by omega)) (fun r _ _ => hu r (by omega) (by omega)), ?_, RR_of (J_J2 h).2.2.2.2.2.2 (fun r hr => hs r (by omega) (by omega)) (fun r _ _ => hu r (by omega) (by omega)) (by rw [us_off (by decide), t1hi 30 (by decide)])⟩
  have q30 : ∀ k, k ≠ 32 → us w 30 32 v 30 k = t 30 k := fun k hk => by rw [us_off hk, t1hi 30 (by decide)]
  unfold PG2
  rw [us_ne (a := 7) (by decide), q30 40 (by decide), q30 41 (by decide), q30 42 (by decide), q30 43 (by decide), q30 44 (by decide), q30 0 (by decide), us_off (j := 7) (by decide), us_same, us_same]
  exact ⟨⟨e0, e1, e2, e3, e4, e5, rfl⟩, f1, f2, f3, hv⟩
theorem op_brake (t : ct_St) (h : J t) : okM (X7_brake_s t) ∧ X7_brake_r t = X8_brake_r (X7_brake_s t) ∧ J (X8_brake_s (X7_brake_s t)) := by
  have e6 := h.2.2.2.2.2.1.1.2.2.2.2.2.2
  have g := h.2.2.2.2.2.1.2.2.2.2
  have t1hi : ∀ r, 30 ≤ r → X7_workOutPins_s (us t 0 8 1) r = t r := fun r hr => by rw [wop_hi _ hr, us_hi (by decide) hr]
  have hs : X7_brake_s t = X7_workOutPins_s (us t 0 8 1) := by
    dsimp only [X7_brake_s]
    split <;> rfl
  have hs8 : ∀ v, X8_brake_s v = X8_pins_s (us v 30 32 1) := fun v => by
    dsimp only [X8_brake_s, X8_brakes_s]
    split <;> rfl
  rw [hs8, hs]
  refine ⟨okM_row (J_okM h) t1hi, ?_, J_brk t _ 1 (Or.inr rfl) h t1hi (fun _ _ => rfl)⟩
  have h32 : X7_workOutPins_s (us t 0 8 1) 30 32 = t 0 8 := by rw [t1hi 30 (by decide)]; exact e6.symm
  show (if t 0 8 = 0 then (1 : Int32) else 0) = if X7_workOutPins_s (us t 0 8 1) 30 32 = 1 then 0 else 1
  rw [h32]
  rcases g with q | q
  · rw [q]; rfl
  · rw [q]; rfl
theorem op_arm (t : ct_St) (h : J t) : okM (X7_arm_s t) ∧ X7_arm_r t = X8_arm_r (X7_arm_s t) ∧ J (X8_arm_s (X7_arm_s t)) := by
  have e6 := h.2.2.2.2.2.1.1.2.2.2.2.2.2
  have t1hi : ∀ r, 30 ≤ r → X7_workOutPins_s (us t 0 8 0) r = t r := fun r hr => by rw [wop_hi _ hr, us_hi (by decide) hr]
  have hs : X7_arm_s t = X7_workOutPins_s (us t 0 8 0) := by
    dsimp only [X7_arm_s]
    split <;> rfl
  have hs8 : ∀ v, X8_arm_s v = X8_pins_s (us v 30 32 0) := fun v => by
    dsimp only [X8_arm_s, X8_brakes_s]
    split <;> rfl
  rw [hs8, hs]
  refine ⟨okM_row (J_okM h) t1hi, ?_, J_brk t _ 0 (Or.inl rfl) h t1hi (fun _ _ => rfl)⟩
  have h32 : X7_workOutPins_s (us t 0 8 0) 30 32 = t 0 8 := by rw [t1hi 30 (by decide)]; exact e6.symm
  show (if t 0 8 = 0 then (0 : Int32) else 1) = if X7_workOutPins_s (us t 0 8 0) 30 32 = 0 then 0 else 1
  rw [h32]
