/-- the outputs that are on: one value for both -/
theorem onEq {F : Nat → Int32} {u : ct_St} {k : Nat} {br x : Int32} (e1 : F 1 = u 55 k) (e3 : F 3 = u 57 k) (e4 : F 4 = u 58 k) (e5 : F 5 = u 59 k) (hb : br = u 30 32) (hl : F 3 = 0 ∨ F 3 = 1) (hx : ix x = k) :
    (X1_outputsOn_r br F = 0 ∧ X8_isOn_r x 0 u = 0 ∧ X8_isOn_r x 1 u = 0) ∨ (X1_outputsOn_r br F = 1 ∧ X8_isOn_r x 0 u = 1 ∧ X8_isOn_r x 1 u = 0) ∨ (X1_outputsOn_r br F = 2 ∧ X8_isOn_r x 0 u = 0 ∧ X8_isOn_r x 1 u = 1) := by
  unfold X1_outputsOn_r X8_isOn_r
  rw [hx, ← e1, ← e3, ← e4, ← e5, ← hb, show (1 : Int32) - 0 = 1 from by decide, show (1 : Int32) - 1 = 0 from by decide]
  by_cases c1 : F 1 = 0
  · simp only [if_pos c1]
    exact Or.inl ⟨trivial, trivial, trivial⟩
  · simp only [if_neg c1]
    by_cases c2 : br = 0
    · simp only [if_pos c2]
      by_cases c3 : F 5 < F 4
      · have c4 : ¬ F 4 ≤ F 5 := by
          rw [Int32.le_iff_toInt_le]
          rw [Int32.lt_iff_toInt_lt] at c3
          omega
        simp only [if_pos c3, if_neg c4]
        rcases hl with q | q
        · have n1 : ¬ F 3 = 1 := by rw [q]; decide
          simp only [if_neg n1, if_pos q]
          exact Or.inr (Or.inr ⟨trivial, trivial, trivial⟩)
        · have n1 : ¬ F 3 = 0 := by rw [q]; decide
          simp only [if_neg n1, if_pos q]
          exact Or.inr (Or.inl ⟨trivial, trivial, trivial⟩)
      · have c4 : F 4 ≤ F 5 := by
          rw [Int32.le_iff_toInt_le]
          rw [Int32.lt_iff_toInt_lt] at c3
          omega
        simp only [if_neg c3, if_pos c4, ite_self]
        exact Or.inl ⟨trivial, trivial, trivial⟩
    · simp only [if_neg c2]
      exact Or.inl ⟨trivial, trivial, trivial⟩
theorem lvEq {F : Nat → Int32} {u : ct_St} {k : Nat} {br x o : Int32} (e : rh F u k) (hi : ih F) (hb : br = u 30 32) (hx : ix x = k) (ho : o = 0 ∨ o = 1) : X8_pinThen_r x o u = X1_pinLevel_r o br F := by
  obtain ⟨e0, e1, e2, e3, e4, e5, e6, e7⟩ := e
  obtain ⟨-, -, hl, -, hp⟩ := hi
  dsimp only [X8_pinThen_r, X1_pinLevel_r]
  rw [← hb, hx, ← e6, ← e7]
  by_cases c : br = 0
  · simp only [if_pos c]
    obtain ⟨j, hj, hpj⟩ := vp_in_of hp (by decide)
    rw [hpj]
    rcases onEq (br := 0) e1 e3 e4 e5 (c ▸ hb) hl hx with ⟨h1, h2, h3⟩ | ⟨h1, h2, h3⟩ | ⟨h1, h2, h3⟩ <;> rcases ho with ho | ho <;> rw [ho, h1] <;> simp only [h2, h3] <;> rcases (show j = 0 ∨ j = 1 ∨ j = 2 ∨ j = 3 by omega) with rfl | rfl | rfl | rfl <;> decide
  · simp only [if_neg c]
theorem op_ofChannel (t : ct_St) (a1 a2 : Int32) (h : J t) : X7_ofChannel_r a1 a2 t = X8_ofChannel_r a1 a2 t := by
  dsimp only [X7_ofChannel_r, X8_ofChannel_r]
  by_cases c1 : X7_isOneOf_r 4 a1 = 0
  · simp only [if_pos c1, if_pos (op4 c1)]
  · simp only [if_neg c1, if_neg (on4 c1)]
    obtain ⟨⟨e0, e1, e2, e3, e4, e5, e6, e7⟩, g⟩ := h.2.2.2.1 (ix a1) (vp_lt (isOneOf4_in c1))
    have hon : X1_outputsOn_r (t 0 8) (t (24 + ix a1)) = X8_onOf_r a1 t := by
      unfold X8_onOf_r
      rcases onEq (x := a1) e1 e3 e4 e5 h.2.2.2.2.2.1.1.2.2.2.2.2.2 g.2.2.1 rfl with ⟨h1, h2, h3⟩ | ⟨h1, h2, h3⟩ | ⟨h1, h2, h3⟩ <;> rw [h1, h2, h3] <;> decide
    simp only [X1_tell_r, hon, e0, e1, e2, e3, e4, e5, e6, e7]
theorem bc0 : J6_bitCount_0f7a4_r 0 = 0 := by decide
theorem bc1 : J6_bitCount_0f7a4_r 1 = 1 := by decide
theorem bc2 : J6_bitCount_0f7a4_r 2 = 1 := by decide
theorem many2 (t : ct_St) (a1 x y y3 y4 : Int32) (hx : ix x < 4) (h : J t) : X8_many_a2 a1 x y y3 y4 t = X7_outputsOn_a1 x y t := by
  obtain ⟨⟨e0, e1, e2, e3, e4, e5, e6, e7⟩, g⟩ := h.2.2.2.1 (ix x) hx
  dsimp only [X8_many_a2, X7_outputsOn_a1]
  rcases onEq (x := x) e1 e3 e4 e5 h.2.2.2.2.2.1.1.2.2.2.2.2.2 g.2.2.1 rfl with ⟨h1, h2, h3⟩ | ⟨h1, h2, h3⟩ | ⟨h1, h2, h3⟩ <;> rw [h1] <;> simp only [h2, h3, bc0, bc1, bc2] <;> rfl
theorem many3 (t : ct_St) (a1 x y2 y y4 : Int32) (hx : ix x < 4) (h : J t) : X8_many_a3 a1 x y2 y y4 t = X7_catchersReady_a1 x y t := by
  dsimp only [X8_many_a3, X7_catchersReady_a1]
  rw [(h.2.2.1 (ix x) hx).1.2.2.2.2.2.1]
  (repeat' split) <;> rfl
theorem many4 (t : ct_St) (a1 x y2 y3 y : Int32) (hx : ix x < 4) (h : J t) : X8_many_a4 a1 x y2 y3 y t = X7_oversOfAll_a1 x y t := by
  dsimp only [X8_many_a4, X7_oversOfAll_a1]
  rw [(h.1.1 (ix x) hx).1.2.2.2.2.2.2.2.1]
  (repeat' split) <;> rfl
theorem op_many (t : ct_St) (a1 : Int32) (h : J t) : X7_many_r a1 t = X8_many_r a1 t := by
  dsimp only [X7_many_r, X8_many_r, X7_outputsOn_r, X7_catchersReady_r, X7_oversOfAll_r]
  obtain ⟨⟨-, -, -, -, -, e5, e6⟩, -⟩ := h.2.2.2.2.2.1
  obtain ⟨n, q, -, -, r1, r2, -⟩ := h.2.2.2.2.2.2.2
  rw [e5, e6, r1, r2]
  rw [many2 t a1 0 _ _ _ (by decide) h, many2 t a1 1 _ _ _ (by decide) h, many2 t a1 2 _ _ _ (by decide) h, many2 t a1 3 _ _ _ (by decide) h]
  rw [many3 t a1 0 _ _ _ (by decide) h, many3 t a1 1 _ _ _ (by decide) h, many3 t a1 2 _ _ _ (by decide) h, many3 t a1 3 _ _ _ (by decide) h]
  rw [many4 t a1 0 _ _ _ (by decide) h, many4 t a1 1 _ _ _ (by decide) h, many4 t a1 2 _ _ _ (by decide) h, many4 t a1 3 _ _ _ (by decide) h]
/-- the pins and the record: the class's in s, the reference's in u -/
def RR (s u : ct_St) : Prop := (∀ p, p < 8 → s 8 p = u 62 p) ∧ ∃ n q, n ≤ 24 ∧ q < 24 ∧ s 6 4 = nI n ∧ u 30 34 = nI n ∧ s 6 5 = nI q ∧ ∀ k, k < n → s 9 ((q + 23 - k) % 24) = u 63 (n - 1 - k) ∧ s 10 ((q + 23 - k) % 24) = u 64 (n - 1 - k) ∧ s 11 ((q + 23 - k) % 24) = u 65 (n - 1 - k)
/-- the shift, by its times -/
def sft : Nat → Int32 → ct_St → ct_St
  | 0, _, t => t
  | m + 1, a, t => X8_enters_it a (nI (m + 1)) (sft m a t)
theorem sft_fr (m : Nat) (a : Int32) (t : ct_St) {r : Nat} (h1 : r ≠ 63) (h2 : r ≠ 64) (h3 : r ≠ 65) : sft m a t r = t r := by
  induction m with
  | zero => rfl
  | succ m ih => exact (X8_enters_it_fr a _ _ h1 h2 h3).trans ih
theorem sft_row (a : Int32) (t : ct_St) : ∀ m, m ≤ 23 → ∀ j, (sft m a t 63 j = if j < m then t 63 (j + 1) else t 63 j) ∧ (sft m a t 64 j = if j < m then t 64 (j + 1) else t 64 j) ∧ (sft m a t 65 j = if j < m then t 65 (j + 1) else t 65 j) := by
  intro m
  induction m with
  | zero => intro _ j; simp [sft]
  | succ m ih =>
    intro hm j
    have x1 : ix (nI (m + 1) - 1) = m := by rw [nI_pred]; exact nI_clamp (by omega)
    have x2 : ix (nI (m + 1)) = m + 1 := nI_clamp (by omega)
    have hj := ih (by omega) j
    have hm1 := ih (by omega) (m + 1)
    rw [if_neg (by omega), if_neg (by omega), if_neg (by omega)] at hm1
    show (X8_enters_it a (nI (m + 1)) (sft m a t) 63 j = _) ∧ (X8_enters_it a (nI (m + 1)) (sft m a t) 64 j = _) ∧ (X8_enters_it a (nI (m + 1)) (sft m a t) 65 j = _)
    dsimp only [X8_enters_it]
    rw [x1, x2]
    simp (decide := true) only [us_ne, ne_eq, us_at, hm1.1, hm1.2.1, hm1.2.2]
    unfold upd
    by_cases e : j = m
    · subst e
      simp
    · simp only [if_neg e, hj.1, hj.2.1, hj.2.2]
      by_cases e2 : j < m
      · rw [if_pos e2, if_pos e2, if_pos e2, if_pos (by omega), if_pos (by omega), if_pos (by omega)]
        exact ⟨rfl, rfl, rfl⟩
      · rw [if_neg e2, if_neg e2, if_neg e2, if_neg (by omega), if_neg (by omega), if_neg (by omega)]
        exact ⟨rfl, rfl, rfl⟩
/-- the last part of an entry, from rows that are shifted or not -/
def put3 (a : Int32) (v : ct_St) : ct_St :=
  let t1 := us v 63 (ix (v 30 34)) (v 30 0)
  let t2 := us t1 64 (ix (t1 30 34)) a
  let t3 := us t2 65 (ix (t2 30 34)) (t2 62 (ix a))
  us t3 30 34 ((t3 30 34) + 1)
theorem enters_eq (a : Int32) (v : ct_St) : X8_enters_s a v = if v 30 34 = 24 then put3 a (us (sft 23 a v) 30 34 ((sft 23 a v) 30 34 - 1)) else put3 a v := rfl
theorem put3_row (a : Int32) (v : ct_St) {n : Nat} (hn : n < 24) (e : v 30 34 = nI n) : put3 a v 30 34 = nI (n + 1) ∧ put3 a v 62 = v 62 ∧ put3 a v 63 = upd (v 63) n (v 30 0) ∧ put3 a v 64 = upd (v 64) n a ∧ put3 a v 65 = upd (v 65) n (v 62 (ix a)) := by
  have hx : ix (nI n) = n := nI_clamp (by omega)
  dsimp only [put3]
  simp (decide := true) only [us_ne, ne_eq, us_at, e, hx, pk_us, nI_1, and_self]
theorem enters_row (a : Int32) (v : ct_St) {n : Nat} (hn : n ≤ 24) (e : v 30 34 = nI n) : X8_enters_s a v 30 34 = nI (min (n + 1) 24) ∧ X8_enters_s a v 62 = v 62 ∧ (X8_enters_s a v 63 (min (n + 1) 24 - 1) = v 30 0 ∧ X8_enters_s a v 64 (min (n + 1) 24 - 1) = a ∧ X8_enters_s a v 65 (min (n + 1) 24 - 1) = v 62 (ix a)) ∧ ∀ k, 1 ≤ k → k < min (n + 1) 24 → X8_enters_s a v 63 (min (n + 1) 24 - 1 - k) = v 63 (n - k) ∧ X8_enters_s a v 64 (min (n + 1) 24 - 1 - k) = v 64 (n - k) ∧ X8_enters_s a v 65 (min (n + 1) 24 - 1 - k) = v 65 (n - k) := by
  rw [enters_eq]
  by_cases c : n = 24
  · subst c
    rw [if_pos (by rw [e]; rfl)]
    have hs := fun j => sft_row a v 23 (Nat.le_refl _) j
    have e1 : sft 23 a v 30 = v 30 := sft_fr 23 a v (by decide) (by decide) (by decide)
    have e2 : sft 23 a v 62 = v 62 := sft_fr 23 a v (by decide) (by decide) (by decide)
    have e3 : us (sft 23 a v) 30 34 (sft 23 a v 30 34 - 1) 30 34 = nI 23 := by rw [us_same, e1, e]; rfl
    obtain ⟨p1, p2, p3, p4, p5⟩ := put3_row a _ (n := 23) (by decide) e3
    rw [p1, p2, p3, p4, p5, us_off (j := 0) (by decide), us_ne (a := 62) (by decide), us_ne (a := 63) (by decide), us_ne (a := 64) (by decide), us_ne (a := 65) (by decide), e1, e2]
    refine ⟨rfl, rfl, ⟨pk_us, pk_us, pk_us⟩, fun k h1 h2 => ?_⟩
    have h3 : min (24 + 1) 24 - 1 - k = 23 - k := by omega
    have h4 : 23 - k + 1 = 24 - k := by omega
    rw [h3, pk_un (by omega), pk_un (by omega), pk_un (by omega), (hs _).1, (hs _).2.1, (hs _).2.2, if_pos (by omega), if_pos (by omega), if_pos (by omega), h4]
    exact ⟨rfl, rfl, rfl⟩
  · have c2 : ¬ v 30 34 = 24 := by
      rw [e]
      intro z
      exact c ((nI_eq (b := 24) (by omega) (by decide)).mp z)
    rw [if_neg c2]
    obtain ⟨p1, p2, p3, p4, p5⟩ := put3_row a v (n := n) (by omega) e
    have hm : min (n + 1) 24 = n + 1 := by omega
    rw [hm, p1, p2, p3, p4, p5]
    refine ⟨rfl, rfl, ⟨pk_us, pk_us, pk_us⟩, fun k h1 h2 => ?_⟩
    have h3 : n + 1 - 1 - k = n - k := by omega
    rw [h3, pk_un (by omega), pk_un (by omega), pk_un (by omega)]
    exact ⟨rfl, rfl, rfl⟩
theorem drive_row (p lev tick : Int32) (s : ct_St) {n q : Nat} (hn : n ≤ 24) (hq : q < 24) (e4 : s 6 4 = nI n) (e5 : s 6 5 = nI q) (c : ¬ s 8 (ix p) = lev) : X5_drive_s p lev tick s 8 = upd (s 8) (ix p) lev ∧ X5_drive_s p lev tick s 9 = upd (s 9) q tick ∧ X5_drive_s p lev tick s 10 = upd (s 10) q p ∧ X5_drive_s p lev tick s 11 = upd (s 11) q lev ∧ X5_drive_s p lev tick s 6 5 = nI ((q + 1) % 24) ∧ X5_drive_s p lev tick s 6 4 = nI (min (n + 1) 24) := by
  have hx : ix (nI q) = q := nI_clamp (by omega)
  have hr : nI (q + 1) - nI (q + 1) / 24 * 24 = nI ((q + 1) % 24) := pk_rem (d := 24) (by omega) (by decide) (by decide)
  have hm : (if (24 : Int32) < nI (n + 1) then (24 : Int32) else nI (n + 1)) = nI (min (n + 1) 24) := by
    by_cases z : n = 24
    · subst z; decide
    · have : ¬ (24 : Int32) < nI (n + 1) := nI_nlt (a := 24) (b := n + 1) (by omega) (by decide)
      rw [if_neg this, show min (n + 1) 24 = n + 1 by omega]
  dsimp only [X5_drive_s]
  rw [if_neg c]
  simp (decide := true) only [us_ne, ne_eq, us_at, e5, e4, hx, pk_us, pk_un, us_off, nI_1, hr, hm, and_self]
theorem drive_pins {s u : ct_St} {p : Int32} (hp : vp_in p 8) {lev tick : Int32} (h : RR s u) (hl : X8_pinThen_r (p / 2) (p - p / 2 * 2) u = lev) (ht : u 30 0 = tick) : RR (X5_drive_s p lev tick s) (X8_pins_it p u) := by
  obtain ⟨h8, n, q, hn, hq, e4, m4, e5, hk⟩ := h
  have hpl := vp_lt hp
  have e8 := h8 (ix p) hpl
  by_cases c : s 8 (ix p) = lev
  · have c' : lev = u 62 (ix p) := by rw [← e8]; exact c.symm
    dsimp only [X5_drive_s, X8_pins_it]
    rw [hl, if_pos c, if_pos c']
    exact ⟨h8, n, q, hn, hq, e4, m4, e5, hk⟩
  · have c' : ¬ lev = u 62 (ix p) := by rw [← e8]; exact fun z => c z.symm
    have hit : X8_pins_it p u = X8_enters_s p (us u 62 (ix p) lev) := by
      dsimp only [X8_pins_it]
      rw [hl, if_neg c']
    rw [hit]
    have v4 : us u 62 (ix p) lev 30 34 = nI n := by rw [us_ne (by decide)]; exact m4
    obtain ⟨a1, a2, ⟨a3, a4, a5⟩, a6⟩ := enters_row p (us u 62 (ix p) lev) hn v4
    obtain ⟨b1, b2, b3, b4, b5, b6⟩ := drive_row p lev tick s hn hq e4 e5 c
    refine ⟨fun j hj => ?_, min (n + 1) 24, (q + 1) % 24, by omega, by omega, b6, a1, b5, fun k hk2 => ?_⟩
    · rw [b1, a2, us_at]
      unfold upd
      split
      · rfl
      · exact h8 j hj
    · rw [b2, b3, b4]
      rcases k with _ | k
      · have hx : ((q + 1) % 24 + 23 - 0) % 24 = q := by omega
        rw [hx, pk_us, pk_us, pk_us, Nat.sub_zero, a3, a4, a5, us_ne (by decide), us_same]
        exact ⟨ht.symm, rfl, rfl⟩
      · have hx : ((q + 1) % 24 + 23 - (k + 1)) % 24 = (q + 23 - k) % 24 := by omega
        have hne : (q + 23 - k) % 24 ≠ q := by omega
        obtain ⟨c1, c2, c3⟩ := a6 (k + 1) (by omega) hk2
        rw [hx, pk_un hne, pk_un hne, pk_un hne, c1, c2, c3, us_ne (by decide), us_ne (by decide), us_ne (by decide)]
        obtain ⟨d1, d2, d3⟩ := hk k (by omega)
        rw [show n - (k + 1) = n - 1 - k by omega]
        exact ⟨d1, d2, d3⟩
theorem op_record (t : ct_St) (a1 a2 : Int32) (h : J t) : X7_record_r a1 a2 t = X8_record_r a1 a2 t := by
  have e24 : X8_within_r a1 0 23 = X7_isOneOf_r 24 a1 := by
    unfold X8_within_r X7_isOneOf_r
    have := lt_iff_succ (a := a1) (n := 23) (by decide)
    have h : ((24 : Int32) ≤ a1) = ((23 : Int32) < a1) := propext this
    simp only [h]
  dsimp only [X7_record_r, X8_record_r, X5_tell_r]
  by_cases c1 : X7_isOneOf_r 24 a1 = 0
  · have c2 : X8_within_r a1 0 23 = 0 := by rw [e24]; exact c1
    simp only [if_pos c1, if_pos c2]
  have c2 : ¬ X8_within_r a1 0 23 = 0 := by rw [e24]; exact c1
  simp only [if_neg c1, if_neg c2]
  by_cases c3 : X7_within_r a2 0 2 = 0
  · simp only [if_pos c3, if_pos (wp c3)]
  simp only [if_neg c3, if_neg (wn c3)]
  obtain ⟨k, hk, rfl⟩ := vp_in_of (isOneOf24_in c1) (by decide)
  obtain ⟨n, q, hn, hq, e4, m4, e5, hr⟩ := h.2.2.2.2.2.2.2
  rw [e4, e5, m4]
  have x1 : ix (nI q + 24 - 1 - nI k - (nI q + 24 - 1 - nI k) / 24 * 24) = (q + 23 - k) % 24 := by
    have e1 : nI q + 24 - 1 - nI k = nI (q + 24 - 1 - k) := by
      rw [show nI q + 24 = nI (q + 24) from nI_add q 24, show nI (q + 24) - 1 = nI (q + 24 - 1) from pk_sub (b := 1) (by omega), pk_sub (by omega)]
    rw [e1, show nI (q + 24 - 1 - k) - nI (q + 24 - 1 - k) / 24 * 24 = nI ((q + 24 - 1 - k) % 24) from pk_rem (d := 24) (by omega) (by decide) (by decide)]
    exact nI_clamp (by omega)
  rw [x1]
  by_cases c4 : k < n
  · have c5 : nI k < nI n := nI_lt c4 (by omega)
    have e1 : nI n - 1 - nI k = nI (n - 1 - k) := by
      rw [show nI n - 1 = nI (n - 1) from pk_sub (b := 1) (by omega), pk_sub (by omega)]
    rw [e1]
    have c6 : 0 ≤ nI (n - 1 - k) := nI_pos' (by omega)
    simp only [if_pos c5, if_pos c6]
    rw [show ix (nI (n - 1 - k)) = n - 1 - k from nI_clamp (by omega)]
    obtain ⟨d1, d2, d3⟩ := hr k c4
    rw [d1, d2, d3]
  · have c5 : ¬ nI k < nI n := nI_nlt (by omega) (by omega)
    have e1 : (nI n - 1 - nI k).toInt = (n : Int) - 1 - k := by
      rw [Int32.sub_sub, Int32.add_comm 1 (nI k), nI_1, pk_sub_toInt (by omega) (by omega)]
      omega
    have c6 : ¬ 0 ≤ nI n - 1 - nI k := by
      rw [Int32.le_iff_toInt_le, e1, i0]
      omega
    simp only [if_neg c5, if_neg c6]
