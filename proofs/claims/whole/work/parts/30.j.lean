/-! what the two objects' cells have to do with one another -/
/-- a counter's cell and the reference's column -/
def rc (F : Nat → Int32) (t : ct_St) (j : Nat) : Prop := F 0 = t 31 j ∧ F 1 = t 32 j ∧ F 2 = t 33 j ∧ F 3 = t 34 j ∧ F 4 = t 35 j ∧ F 5 = t 36 j ∧ F 6 = t 37 j ∧ F 7 = t 38 j ∧ F 8 = t 39 j ∧ F 9 = t 41 j ∧ F 10 = t 40 j
/-- what a counter keeps: 1 ≤ TOP ≤ 9999, 0 ≤ COUNT ≤ TOP, WAY 0 or 1, the TOP that waits -/
def ic (F : Nat → Int32) : Prop := (1 ≤ (F 1).toInt ∧ (F 1).toInt ≤ 9999) ∧ (0 ≤ (F 4).toInt ∧ (F 4).toInt ≤ (F 1).toInt) ∧ (F 6 = 0 ∨ F 6 = 1) ∧ (F 8 = -9 ∨ (1 ≤ (F 8).toInt ∧ (F 8).toInt ≤ 9999))
def PC (t : ct_St) : Prop := (∀ j, j < 4 → rc (t (12 + j)) t j ∧ ic (t (12 + j))) ∧ t 34 0 ≠ 2 ∧ bl (t 41)
def ri (F : Nat → Int32) (t : ct_St) (j : Nat) : Prop := F 0 = t 42 j ∧ F 1 = t 43 j ∧ F 2 = t 45 j ∧ F 3 = t 44 j ∧ F 4 = t 46 j
def PI (t : ct_St) : Prop := ∀ j, j < 4 → ri (t (16 + j)) t j ∧ 0 < (t (16 + j) 3).toInt
def rt (F : Nat → Int32) (t : ct_St) (j : Nat) : Prop := F 0 = t 47 j ∧ F 1 = t 48 j ∧ F 2 = t 49 j ∧ F 3 = t 50 j ∧ F 4 = t 51 j ∧ F 5 = t 52 j ∧ F 6 = t 53 j
def it (F : Nat → Int32) : Prop := vp_in (F 0) 4 ∧ ¬ F 2 = 0 ∧ (F 5 = 0 ∨ F 5 = 1)
def PT (t : ct_St) : Prop := ∀ j, j < 4 → rt (t (20 + j)) t j ∧ it (t (20 + j))
def rh (F : Nat → Int32) (t : ct_St) (j : Nat) : Prop := F 0 = t 54 j ∧ F 1 = t 55 j ∧ F 2 = t 56 j ∧ F 3 = t 57 j ∧ F 4 = t 58 j ∧ F 5 = t 59 j ∧ F 6 = t 60 j ∧ F 7 = t 61 j
def ih (F : Nat → Int32) : Prop := vp_in (F 0) 4 ∧ vp_in (F 1) 5 ∧ (F 3 = 0 ∨ F 3 = 1) ∧ vp_in (F 4) 100 ∧ vp_in (F 6) 4
def PH (t : ct_St) : Prop := ∀ j, j < 4 → rh (t (24 + j)) t j ∧ ih (t (24 + j))
def PP (t : ct_St) : Prop := ∀ j, j < 2 → t (28 + j) 0 = t 66 j ∧ t (28 + j) 1 = t 67 j ∧ (t (28 + j) 0 = 0 ∨ t (28 + j) 0 = 1)
def PG (t : ct_St) : Prop := (t 7 0 = t 30 40 ∧ t 7 1 = t 30 41 ∧ t 7 2 = t 30 42 ∧ t 7 3 = t 30 43 ∧ t 7 4 = t 30 44 ∧ t 0 7 = t 30 0 ∧ t 0 8 = t 30 32) ∧ vp_in (t 7 1) 4 ∧ ¬ t 7 0 = 0 ∧ (t 7 2 = 0 ∨ t 7 2 = 1) ∧ (t 0 8 = 0 ∨ t 0 8 = 1)
/-- the record: a ring, and rows that are shifted -/
def rg (t : ct_St) (n q : Nat) : Prop := n ≤ 24 ∧ q < 24 ∧ t 6 4 = nI n ∧ t 30 34 = nI n ∧ t 6 5 = nI q ∧ ∀ k, k < n → t 9 ((q + 23 - k) % 24) = t 63 (n - 1 - k) ∧ t 10 ((q + 23 - k) % 24) = t 64 (n - 1 - k) ∧ t 11 ((q + 23 - k) % 24) = t 65 (n - 1 - k)
def PR (t : ct_St) : Prop := (∀ p, p < 8 → t 8 p = t 62 p) ∧ ∃ n q, rg t n q
def J (t : ct_St) : Prop := PC t ∧ PI t ∧ PT t ∧ PH t ∧ PP t ∧ PG t ∧ PR t
theorem PC_of {t u : ct_St} (h : PC t) (hu : ∀ r, (12 ≤ r ∧ r < 16) ∨ (31 ≤ r ∧ r ≤ 41) → u r = t r) : PC u := by
  unfold PC rc
  rw [hu 31 (by omega), hu 32 (by omega), hu 33 (by omega), hu 34 (by omega), hu 35 (by omega), hu 36 (by omega), hu 37 (by omega), hu 38 (by omega), hu 39 (by omega), hu 40 (by omega), hu 41 (by omega)]
  refine ⟨fun j hj => ?_, h.2⟩
  rw [hu (12 + j) (by omega)]
  exact h.1 j hj
theorem PI_of {t u : ct_St} (h : PI t) (hu : ∀ r, (16 ≤ r ∧ r < 20) ∨ (42 ≤ r ∧ r ≤ 46) → u r = t r) : PI u := by
  unfold PI ri
  rw [hu 42 (by omega), hu 43 (by omega), hu 44 (by omega), hu 45 (by omega), hu 46 (by omega)]
  intro j hj
  rw [hu (16 + j) (by omega)]
  exact h j hj
theorem PT_of {t u : ct_St} (h : PT t) (hu : ∀ r, (20 ≤ r ∧ r < 24) ∨ (47 ≤ r ∧ r ≤ 53) → u r = t r) : PT u := by
  unfold PT rt
  rw [hu 47 (by omega), hu 48 (by omega), hu 49 (by omega), hu 50 (by omega), hu 51 (by omega), hu 52 (by omega), hu 53 (by omega)]
  intro j hj
  rw [hu (20 + j) (by omega)]
  exact h j hj
theorem PH_of {t u : ct_St} (h : PH t) (hu : ∀ r, (24 ≤ r ∧ r < 28) ∨ (54 ≤ r ∧ r ≤ 61) → u r = t r) : PH u := by
  unfold PH rh
  rw [hu 54 (by omega), hu 55 (by omega), hu 56 (by omega), hu 57 (by omega), hu 58 (by omega), hu 59 (by omega), hu 60 (by omega), hu 61 (by omega)]
  intro j hj
  rw [hu (24 + j) (by omega)]
  exact h j hj
theorem PP_of {t u : ct_St} (h : PP t) (hu : ∀ r, (28 ≤ r ∧ r < 30) ∨ (66 ≤ r ∧ r ≤ 67) → u r = t r) : PP u := by
  unfold PP
  rw [hu 66 (by omega), hu 67 (by omega)]
  intro j hj
  rw [hu (28 + j) (by omega)]
  exact h j hj
theorem PG_of {t u : ct_St} (h : PG t) (h7 : u 7 = t 7) (h0 : u 0 = t 0) (h30 : ∀ k, k ≠ 34 → u 30 k = t 30 k) : PG u := by
  unfold PG
  rw [h7, h0, h30 40 (by decide), h30 41 (by decide), h30 42 (by decide), h30 43 (by decide), h30 44 (by decide), h30 0 (by decide), h30 32 (by decide)]
  exact h
theorem PR_of {t u : ct_St} (h : PR t) (hu : ∀ r, r = 6 ∨ (8 ≤ r ∧ r < 12) ∨ (62 ≤ r ∧ r ≤ 65) → u r = t r) (h30 : u 30 34 = t 30 34) : PR u := by
  unfold PR rg
  rw [hu 6 (by omega), hu 8 (by omega), hu 9 (by omega), hu 10 (by omega), hu 11 (by omega), hu 62 (by omega), hu 63 (by omega), hu 64 (by omega), hu 65 (by omega), h30]
  exact h
/-- all but one part -/
theorem J_c {t u : ct_St} (h : J t) (hu : ∀ r, ¬ (12 ≤ r ∧ r < 16) → ¬ (31 ≤ r ∧ r ≤ 41) → u r = t r) (hp : PC u) : J u :=
  ⟨hp, PI_of h.2.1 (fun r hr => hu r (by omega) (by omega)), PT_of h.2.2.1 (fun r hr => hu r (by omega) (by omega)), PH_of h.2.2.2.1 (fun r hr => hu r (by omega) (by omega)), PP_of h.2.2.2.2.1 (fun r hr => hu r (by omega) (by omega)), PG_of h.2.2.2.2.2.1 (hu 7 (by omega) (by omega)) (hu 0 (by omega) (by omega)) (fun k _ => by rw [hu 30 (by omega) (by omega)]), PR_of h.2.2.2.2.2.2 (fun r hr => hu r (by omega) (by omega)) (by rw [hu 30 (by omega) (by omega)])⟩
theorem J_i {t u : ct_St} (h : J t) (hu : ∀ r, ¬ (16 ≤ r ∧ r < 20) → ¬ (42 ≤ r ∧ r ≤ 46) → u r = t r) (hp : PI u) : J u :=
  ⟨PC_of h.1 (fun r hr => hu r (by omega) (by omega)), hp, PT_of h.2.2.1 (fun r hr => hu r (by omega) (by omega)), PH_of h.2.2.2.1 (fun r hr => hu r (by omega) (by omega)), PP_of h.2.2.2.2.1 (fun r hr => hu r (by omega) (by omega)), PG_of h.2.2.2.2.2.1 (hu 7 (by omega) (by omega)) (hu 0 (by omega) (by omega)) (fun k _ => by rw [hu 30 (by omega) (by omega)]), PR_of h.2.2.2.2.2.2 (fun r hr => hu r (by omega) (by omega)) (by rw [hu 30 (by omega) (by omega)])⟩
theorem J_t {t u : ct_St} (h : J t) (hu : ∀ r, ¬ (20 ≤ r ∧ r < 24) → ¬ (47 ≤ r ∧ r ≤ 53) → u r = t r) (hp : PT u) : J u :=
  ⟨PC_of h.1 (fun r hr => hu r (by omega) (by omega)), PI_of h.2.1 (fun r hr => hu r (by omega) (by omega)), hp, PH_of h.2.2.2.1 (fun r hr => hu r (by omega) (by omega)), PP_of h.2.2.2.2.1 (fun r hr => hu r (by omega) (by omega)), PG_of h.2.2.2.2.2.1 (hu 7 (by omega) (by omega)) (hu 0 (by omega) (by omega)) (fun k _ => by rw [hu 30 (by omega) (by omega)]), PR_of h.2.2.2.2.2.2 (fun r hr => hu r (by omega) (by omega)) (by rw [hu 30 (by omega) (by omega)])⟩
theorem J_h {t u : ct_St} (h : J t) (hu : ∀ r, ¬ (24 ≤ r ∧ r < 28) → ¬ (54 ≤ r ∧ r ≤ 61) → u r = t r) (hp : PH u) : J u :=
  ⟨PC_of h.1 (fun r hr => hu r (by omega) (by omega)), PI_of h.2.1 (fun r hr => hu r (by omega) (by omega)), PT_of h.2.2.1 (fun r hr => hu r (by omega) (by omega)), hp, PP_of h.2.2.2.2.1 (fun r hr => hu r (by omega) (by omega)), PG_of h.2.2.2.2.2.1 (hu 7 (by omega) (by omega)) (hu 0 (by omega) (by omega)) (fun k _ => by rw [hu 30 (by omega) (by omega)]), PR_of h.2.2.2.2.2.2 (fun r hr => hu r (by omega) (by omega)) (by rw [hu 30 (by omega) (by omega)])⟩
theorem J_p {t u : ct_St} (h : J t) (hu : ∀ r, ¬ (28 ≤ r ∧ r < 30) → ¬ (66 ≤ r ∧ r ≤ 67) → u r = t r) (hp : PP u) : J u :=
  ⟨PC_of h.1 (fun r hr => hu r (by omega) (by omega)), PI_of h.2.1 (fun r hr => hu r (by omega) (by omega)), PT_of h.2.2.1 (fun r hr => hu r (by omega) (by omega)), PH_of h.2.2.2.1 (fun r hr => hu r (by omega) (by omega)), hp, PG_of h.2.2.2.2.2.1 (hu 7 (by omega) (by omega)) (hu 0 (by omega) (by omega)) (fun k _ => by rw [hu 30 (by omega) (by omega)]), PR_of h.2.2.2.2.2.2 (fun r hr => hu r (by omega) (by omega)) (by rw [hu 30 (by omega) (by omega)])⟩
theorem J_g {t u : ct_St} (h : J t) (hu : ∀ r, r ≠ 7 → r ≠ 0 → r ≠ 30 → u r = t r) (h30 : u 30 34 = t 30 34) (hp : PG u) : J u :=
  ⟨PC_of h.1 (fun r hr => hu r (by omega) (by omega) (by omega)), PI_of h.2.1 (fun r hr => hu r (by omega) (by omega) (by omega)), PT_of h.2.2.1 (fun r hr => hu r (by omega) (by omega) (by omega)), PH_of h.2.2.2.1 (fun r hr => hu r (by omega) (by omega) (by omega)), PP_of h.2.2.2.2.1 (fun r hr => hu r (by omega) (by omega) (by omega)), hp, PR_of h.2.2.2.2.2.2 (fun r hr => hu r (by omega) (by omega) (by omega)) h30⟩
theorem J_r {t u : ct_St} (h : J t) (hu : ∀ r, r ≠ 6 → ¬ (8 ≤ r ∧ r < 12) → ¬ (62 ≤ r ∧ r ≤ 65) → r ≠ 30 → u r = t r) (h30 : ∀ k, k ≠ 34 → u 30 k = t 30 k) (hp : PR u) : J u :=
  ⟨PC_of h.1 (fun r hr => hu r (by omega) (by omega) (by omega) (by omega)), PI_of h.2.1 (fun r hr => hu r (by omega) (by omega) (by omega) (by omega)), PT_of h.2.2.1 (fun r hr => hu r (by omega) (by omega) (by omega) (by omega)), PH_of h.2.2.2.1 (fun r hr => hu r (by omega) (by omega) (by omega) (by omega)), PP_of h.2.2.2.2.1 (fun r hr => hu r (by omega) (by omega) (by omega) (by omega)), PG_of h.2.2.2.2.2.1 (hu 7 (by omega) (by omega) (by omega) (by omega)) (hu 0 (by omega) (by omega) (by omega) (by omega)) h30, hp⟩
/-- no index is wrong -/
theorem J_okC {t : ct_St} (h : J t) : okC t := by
  obtain ⟨n, q, hn, hq, -, -, e5, -⟩ := h.2.2.2.2.2.2.2
  exact ⟨fun j hj => (h.2.2.1 j hj).2.1, fun j hj => (h.2.2.1 j hj).2.2.1, fun j hj => (h.2.2.2.1 j hj).2.1, h.2.2.2.2.2.1.2.1, h.2.2.2.2.2.1.2.2.1, by rw [e5]; exact vp_in_nI hq (by decide)⟩
theorem J_okM {t : ct_St} (h : J t) : okM t := by
  obtain ⟨n, q, hn, hq, -, e4, -, -⟩ := h.2.2.2.2.2.2.2
  have hg := h.2.2.2.2.2.1
  refine ⟨fun x hx h2 => ?_, h.1.2.2, fun j hj => ?_, fun j hj => ?_, fun j hj => ?_, ?_, ?_, ?_⟩
  · obtain ⟨j, hj, rfl⟩ := vp_in_of hx (by decide)
    rw [show ix (nI j) = j from nI_clamp (by omega)] at h2
    rcases j with _ | j
    · exact absurd h2 h.1.2.1
    · rw [nI_pred]
      exact vp_in_nI (by omega) (by decide)
  · have := h.2.2.1 j hj
    rw [← this.1.2.2.1]
    exact this.2.2.1
  · have := h.2.2.1 j hj
    rw [← this.1.1]
    exact this.2.1
  · have := h.2.2.2.1 j hj
    rw [← this.1.1]
    exact this.2.1
  · rw [← hg.1.2.1]; exact hg.2.1
  · rw [← hg.1.1]; exact hg.2.2.1
  · rw [e4]; exact vp_in_nI (by omega) (by decide)
/-- the tests of numbers are the same -/
theorem eqW (a b c : Int32) : X8_within_r a b c = X7_within_r a b c := rfl
theorem lt_iff_succ {a : Int32} {n : Nat} (hn : n < 2 ^ 30) : (nI (n + 1) ≤ a) ↔ (nI n < a) := by
  rw [Int32.le_iff_toInt_le, Int32.lt_iff_toInt_lt, nI_toInt (by omega), nI_toInt (by omega)]
  omega
theorem eq1 (a : Int32) : X8_isOne_r a = X7_isOneOf_r 4 a := by
  unfold X8_isOne_r X8_within_r X7_isOneOf_r
  have := lt_iff_succ (a := a) (n := 3) (by decide)
  have h : ((4 : Int32) ≤ a) = ((3 : Int32) < a) := propext this
  simp only [h]
theorem eq2 (a : Int32) : X8_isPair_r a = X7_isOneOf_r 2 a := by
  unfold X8_isPair_r X8_within_r X7_isOneOf_r
  have := lt_iff_succ (a := a) (n := 1) (by decide)
  have h : ((2 : Int32) ≤ a) = ((1 : Int32) < a) := propext this
  simp only [h]
