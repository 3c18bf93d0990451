/-! the class's cells in s, the reference's in u -/
def PC2 (s u : ct_St) : Prop := (∀ j, j < 4 → rc (s (12 + j)) u j ∧ ic (s (12 + j))) ∧ u 34 0 ≠ 2 ∧ bl (u 41)
def PI2 (s u : ct_St) : Prop := ∀ j, j < 4 → ri (s (16 + j)) u j ∧ 0 < (s (16 + j) 3).toInt
def PT2 (s u : ct_St) : Prop := ∀ j, j < 4 → rt (s (20 + j)) u j ∧ it (s (20 + j))
def PH2 (s u : ct_St) : Prop := ∀ j, j < 4 → rh (s (24 + j)) u j ∧ ih (s (24 + j))
def PP2 (s u : ct_St) : Prop := ∀ j, j < 2 → s (28 + j) 0 = u 66 j ∧ s (28 + j) 1 = u 67 j ∧ (s (28 + j) 0 = 0 ∨ s (28 + j) 0 = 1)
def PG2 (s u : ct_St) : Prop := (s 7 0 = u 30 40 ∧ s 7 1 = u 30 41 ∧ s 7 2 = u 30 42 ∧ s 7 3 = u 30 43 ∧ s 7 4 = u 30 44 ∧ s 0 7 = u 30 0 ∧ s 0 8 = u 30 32) ∧ vp_in (s 7 1) 4 ∧ ¬ s 7 0 = 0 ∧ (s 7 2 = 0 ∨ s 7 2 = 1) ∧ (s 0 8 = 0 ∨ s 0 8 = 1)
def J2 (s u : ct_St) : Prop := PC2 s u ∧ PI2 s u ∧ PT2 s u ∧ PH2 s u ∧ PP2 s u ∧ PG2 s u ∧ RR s u
theorem J2_J {t : ct_St} (h : J2 t t) : J t := h
theorem J_J2 {t : ct_St} (h : J t) : J2 t t := h
/-- other rows of the class's state don't count -/
theorem PC2_of {s u s' u' : ct_St} (h : PC2 s u) (hs : ∀ r, 12 ≤ r → r < 16 → s' r = s r) (hu : ∀ r, 31 ≤ r → r ≤ 41 → u' r = u r) : PC2 s' u' := by
  unfold PC2 rc
  rw [hu 31 (by omega) (by omega), hu 32 (by omega) (by omega), hu 33 (by omega) (by omega), hu 34 (by omega) (by omega), hu 35 (by omega) (by omega), hu 36 (by omega) (by omega), hu 37 (by omega) (by omega), hu 38 (by omega) (by omega), hu 39 (by omega) (by omega), hu 40 (by omega) (by omega), hu 41 (by omega) (by omega)]
  refine ⟨fun j hj => ?_, h.2⟩
  rw [hs (12 + j) (by omega) (by omega)]
  exact h.1 j hj
theorem PI2_of {s u s' u' : ct_St} (h : PI2 s u) (hs : ∀ r, 16 ≤ r → r < 20 → s' r = s r) (hu : ∀ r, 42 ≤ r → r ≤ 46 → u' r = u r) : PI2 s' u' := by
  unfold PI2 ri
  rw [hu 42 (by omega) (by omega), hu 43 (by omega) (by omega), hu 44 (by omega) (by omega), hu 45 (by omega) (by omega), hu 46 (by omega) (by omega)]
  intro j hj
  rw [hs (16 + j) (by omega) (by omega)]
  exact h j hj
theorem PT2_of {s u s' u' : ct_St} (h : PT2 s u) (hs : ∀ r, 20 ≤ r → r < 24 → s' r = s r) (hu : ∀ r, 47 ≤ r → r ≤ 53 → u' r = u r) : PT2 s' u' := by
  unfold PT2 rt
  rw [hu 47 (by omega) (by omega), hu 48 (by omega) (by omega), hu 49 (by omega) (by omega), hu 50 (by omega) (by omega), hu 51 (by omega) (by omega), hu 52 (by omega) (by omega), hu 53 (by omega) (by omega)]
  intro j hj
  rw [hs (20 + j) (by omega) (by omega)]
  exact h j hj
theorem PH2_of {s u s' u' : ct_St} (h : PH2 s u) (hs : ∀ r, 24 ≤ r → r < 28 → s' r = s r) (hu : ∀ r, 54 ≤ r → r ≤ 61 → u' r = u r) : PH2 s' u' := by
  unfold PH2 rh
  rw [hu 54 (by omega) (by omega), hu 55 (by omega) (by omega), hu 56 (by omega) (by omega), hu 57 (by omega) (by omega), hu 58 (by omega) (by omega), hu 59 (by omega) (by omega), hu 60 (by omega) (by omega), hu 61 (by omega) (by omega)]
  intro j hj
  rw [hs (24 + j) (by omega) (by omega)]
  exact h j hj
theorem PP2_of {s u s' u' : ct_St} (h : PP2 s u) (hs : ∀ r, 28 ≤ r → r < 30 → s' r = s r) (hu : ∀ r, 66 ≤ r → r ≤ 67 → u' r = u r) : PP2 s' u' := by
  unfold PP2
  rw [hu 66 (by omega) (by omega), hu 67 (by omega) (by omega)]
  intro j hj
  rw [hs (28 + j) (by omega) (by omega)]
  exact h j hj
theorem PG2_of {s u s' u' : ct_St} (h : PG2 s u) (h7 : s' 7 = s 7) (h0 : s' 0 = s 0) (h30 : ∀ k, k ≠ 34 → u' 30 k = u 30 k) : PG2 s' u' := by
  unfold PG2
  rw [h7, h0, h30 40 (by decide), h30 41 (by decide), h30 42 (by decide), h30 43 (by decide), h30 44 (by decide), h30 0 (by decide), h30 32 (by decide)]
  exact h
theorem RR_of {s u s' u' : ct_St} (h : RR s u) (hs : ∀ r, r = 6 ∨ (8 ≤ r ∧ r < 12) → s' r = s r) (hu : ∀ r, 62 ≤ r → r ≤ 65 → u' r = u r) (h30 : u' 30 34 = u 30 34) : RR s' u' := by
  unfold RR
  rw [hs 6 (by omega), hs 8 (by omega), hs 9 (by omega), hs 10 (by omega), hs 11 (by omega), hu 62 (by omega) (by omega), hu 63 (by omega) (by omega), hu 64 (by omega) (by omega), hu 65 (by omega) (by omega), h30]
  exact h
theorem J2_of {s u s' u' : ct_St} (h : J2 s u) (hs : ∀ r, r < 30 → s' r = s r) (hu : ∀ r, 30 ≤ r → u' r = u r) : J2 s' u' :=
  ⟨PC2_of h.1 (fun r _ h2 => hs r (by omega)) (fun r h1 _ => hu r (by omega)), PI2_of h.2.1 (fun r _ h2 => hs r (by omega)) (fun r h1 _ => hu r (by omega)), PT2_of h.2.2.1 (fun r _ h2 => hs r (by omega)) (fun r h1 _ => hu r (by omega)), PH2_of h.2.2.2.1 (fun r _ h2 => hs r (by omega)) (fun r h1 _ => hu r (by omega)), PP2_of h.2.2.2.2.1 (fun r _ h2 => hs r (by omega)) (fun r h1 _ => hu r (by omega)), PG2_of h.2.2.2.2.2.1 (hs 7 (by omega)) (hs 0 (by omega)) (fun k _ => by rw [hu 30 (by omega)]), RR_of h.2.2.2.2.2.2 (fun r hr => hs r (by omega)) (fun r h1 _ => hu r (by omega)) (by rw [hu 30 (by omega)])⟩
/-- the pins, one by one -/
def SS (tc tm c m : ct_St) : Prop := RR c m ∧ (∀ r, r ≠ 6 → ¬ (8 ≤ r ∧ r < 12) → c r = tc r) ∧ (∀ r, r ≠ 30 → ¬ (62 ≤ r ∧ r ≤ 65) → m r = tm r) ∧ (∀ k, k ≠ 34 → m 30 k = tm 30 k)
theorem pins_it_30 (p : Int32) (m : ct_St) {k : Nat} (hk : k ≠ 34) : X8_pins_it p m 30 k = m 30 k := by
  dsimp only [X8_pins_it]
  split
  · rfl
  · rw [en30b _ _ hk, us_ne (by decide)]
theorem stepP {tc tm c m : ct_St} {y x p : Int32} {j : Nat} (hj : j < 4) (hy : ix y = j) (hx : x = 0 ∨ x = 1) (hp : 2 * y + x = p) (hp8 : vp_in p 8) (h2 : p / 2 = y) (h3 : p - y * 2 = x) (hH : PH2 tc tm) (g7 : tc 0 7 = tm 30 0) (g8 : tc 0 8 = tm 30 32) (S : SS tc tm c m) : SS tc tm (X7_wopi_it y x c) (X8_pins_it p m) := by
  obtain ⟨hR, hc, hm, h30⟩ := S
  refine ⟨?_, fun r h1 h2 => ?_, fun r h1 h2 => ?_, fun k hk => ?_⟩
  · dsimp only [X7_wopi_it]
    rw [hp, hy, hc 0 (by decide) (by decide), hc (24 + j) (by omega) (by omega)]
    refine drive_pins hp8 hR ?_ (by rw [h30 0 (by decide)]; exact g7.symm)
    rw [h2, h3]
    obtain ⟨e, i⟩ := hH j hj
    refine lvEq (k := j) ?_ i (by rw [h30 32 (by decide)]; exact g8) hy hx
    unfold rh
    rw [hm 54 (by decide) (by decide), hm 55 (by decide) (by decide), hm 56 (by decide) (by decide), hm 57 (by decide) (by decide), hm 58 (by decide) (by decide), hm 59 (by decide) (by decide), hm 60 (by decide) (by decide), hm 61 (by decide) (by decide)]
    exact e
  · rw [X7_wopi_it_fr _ _ _ (by omega) (by omega) (by omega) (by omega) (by omega)]; exact hc r h1 h2
  · rw [X8_pins_it_fr _ _ (by omega) (by omega) (by omega) (by omega) (by omega)]; exact hm r h1 h2
  · rw [pins_it_30 p m hk]; exact h30 k hk
theorem pinsAll {tc tm : ct_St} (hH : PH2 tc tm) (g7 : tc 0 7 = tm 30 0) (g8 : tc 0 8 = tm 30 32) (hR : RR tc tm) : SS tc tm (X7_workOutPins_s tc) (X8_pins_s tm) := by
  have S0 : SS tc tm tc tm := ⟨hR, fun _ _ _ => rfl, fun _ _ _ => rfl, fun _ _ => rfl⟩
  have S1 := stepP (y := 0) (x := 0) (p := 0) (j := 0) (by decide) (by decide) (Or.inl rfl) (by decide) vl_0_8 (by decide) (by decide) hH g7 g8 S0
  have S2 := stepP (y := 0) (x := 1) (p := 1) (j := 0) (by decide) (by decide) (Or.inr rfl) (by decide) vl_1_8 (by decide) (by decide) hH g7 g8 S1
  have S3 := stepP (y := 1) (x := 0) (p := 2) (j := 1) (by decide) (by decide) (Or.inl rfl) (by decide) vl_2_8 (by decide) (by decide) hH g7 g8 S2
  have S4 := stepP (y := 1) (x := 1) (p := 3) (j := 1) (by decide) (by decide) (Or.inr rfl) (by decide) vl_3_8 (by decide) (by decide) hH g7 g8 S3
  have S5 := stepP (y := 2) (x := 0) (p := 4) (j := 2) (by decide) (by decide) (Or.inl rfl) (by decide) vl_4_8 (by decide) (by decide) hH g7 g8 S4
  have S6 := stepP (y := 2) (x := 1) (p := 5) (j := 2) (by decide) (by decide) (Or.inr rfl) (by decide) vl_5_8 (by decide) (by decide) hH g7 g8 S5
  have S7 := stepP (y := 3) (x := 0) (p := 6) (j := 3) (by decide) (by decide) (Or.inl rfl) (by decide) vl_6_8 (by decide) (by decide) hH g7 g8 S6
  have S8 := stepP (y := 3) (x := 1) (p := 7) (j := 3) (by decide) (by decide) (Or.inr rfl) (by decide) vl_7_8 (by decide) (by decide) hH g7 g8 S7
  dsimp only [X7_workOutPins_s, X7_wop_it, X8_pins_s]
  exact S8
theorem J2_pins {s u : ct_St} (h : J2 s u) : J2 (X7_workOutPins_s s) (X8_pins_s u) := by
  obtain ⟨hR, hc, hm, h30⟩ := pinsAll h.2.2.2.1 h.2.2.2.2.2.1.1.2.2.2.2.2.1 h.2.2.2.2.2.1.1.2.2.2.2.2.2 h.2.2.2.2.2.2
  exact ⟨PC2_of h.1 (fun r _ _ => hc r (by omega) (by omega)) (fun r _ _ => hm r (by omega) (by omega)), PI2_of h.2.1 (fun r _ _ => hc r (by omega) (by omega)) (fun r _ _ => hm r (by omega) (by omega)), PT2_of h.2.2.1 (fun r _ _ => hc r (by omega) (by omega)) (fun r _ _ => hm r (by omega) (by omega)), PH2_of h.2.2.2.1 (fun r _ _ => hc r (by omega) (by omega)) (fun r _ _ => hm r (by omega) (by omega)), PP2_of h.2.2.2.2.1 (fun r _ _ => hc r (by omega) (by omega)) (fun r _ _ => hm r (by omega) (by omega)), PG2_of h.2.2.2.2.2.1 (hc 7 (by omega) (by omega)) (hc 0 (by omega) (by omega)) h30, hR⟩
