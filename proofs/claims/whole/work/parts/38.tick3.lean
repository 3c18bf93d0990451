theorem nx_and (a b : Nat) : nI a &&& nI b = nI (a &&& b) := by
  apply Int32.toBitVec_inj.1
  show BitVec.ofNat 32 a &&& BitVec.ofNat 32 b = BitVec.ofNat 32 (a &&& b)
  apply BitVec.eq_of_getLsbD_eq
  intro i hi
  simp [hi]
theorem nx_xor (a b : Nat) : nI a ^^^ nI b = nI (a ^^^ b) := by
  apply Int32.toBitVec_inj.1
  show BitVec.ofNat 32 a ^^^ BitVec.ofNat 32 b = BitVec.ofNat 32 (a ^^^ b)
  apply BitVec.eq_of_getLsbD_eq
  intro i hi
  simp [hi]
/-- the xor of a number's halves -/
def fld : Nat → Nat → Nat
  | 0, _ => 0
  | n + 1, w => w ^^^ fld n (w / 2)
theorem fld_0 : ∀ n, fld n 0 = 0
  | 0 => rfl
  | n + 1 => by
    show 0 ^^^ fld n (0 / 2) = 0
    rw [Nat.zero_div, fld_0 n, Nat.xor_zero]
theorem utw_fld : ∀ (n A w : Nat), A < 2 ^ 16 → w < 2 ^ 16 → utw n (nI A) (nI w) = nI (A ^^^ fld n w)
  | 0, A, w, _, _ => by
    show nI A = nI (A ^^^ 0)
    rw [Nat.xor_zero]
  | n + 1, A, w, hA, hw => by
    show (if nI w ≤ 0 then nI A else utw n (nI A ^^^ nI w) (nI w / 2)) = nI (A ^^^ (w ^^^ fld n (w / 2)))
    by_cases c : w = 0
    · subst c
      rw [if_pos (by decide), Nat.zero_div, fld_0, Nat.xor_zero, Nat.xor_zero]
    · rw [if_neg (nI_nle (by omega) (by omega)), nx_xor, show nI w / 2 = nI (w / 2) from pk_div (d := 2) (by omega) (by decide) (by decide), utw_fld n _ _ (Nat.xor_lt_two_pow hA hw) (by omega), Nat.xor_assoc]
theorem dx (a b k : Nat) : (a ^^^ b) / 2 ^ k = (a / 2 ^ k) ^^^ (b / 2 ^ k) := by
  rw [← Nat.shiftRight_eq_div_pow, ← Nat.shiftRight_eq_div_pow, ← Nat.shiftRight_eq_div_pow]
  apply Nat.eq_of_testBit_eq
  intro i
  simp [Nat.testBit_shiftRight, Nat.testBit_xor]
theorem dd (w a b : Nat) : w / 2 ^ a / 2 ^ b = w / 2 ^ (a + b) := by rw [Nat.div_div_eq_div_mul, ← Nat.pow_add]
theorem fld_n : ∀ (n a w : Nat), fld (n + 1) (w / 2 ^ a) = w / 2 ^ a ^^^ fld n (w / 2 ^ (a + 1)) := fun n a w => by
  show w / 2 ^ a ^^^ fld n (w / 2 ^ a / 2) = _
  rw [show w / 2 ^ a / 2 = w / 2 ^ (a + 1) from dd w a 1]
theorem fld_32 {w : Nat} (hw : w < 2 ^ 16) : fld 32 w = w / 2 ^ 0 ^^^ (w / 2 ^ 1 ^^^ (w / 2 ^ 2 ^^^ (w / 2 ^ 3 ^^^ (w / 2 ^ 4 ^^^ (w / 2 ^ 5 ^^^ (w / 2 ^ 6 ^^^ (w / 2 ^ 7 ^^^ (w / 2 ^ 8 ^^^ (w / 2 ^ 9 ^^^ (w / 2 ^ 10 ^^^ (w / 2 ^ 11 ^^^ (w / 2 ^ 12 ^^^ (w / 2 ^ 13 ^^^ (w / 2 ^ 14 ^^^ (w / 2 ^ 15))))))))))))))) := by
  have e : fld 32 w = fld 32 (w / 2 ^ 0) := by rw [Nat.pow_zero, Nat.div_one]
  rw [e, fld_n, fld_n, fld_n, fld_n, fld_n, fld_n, fld_n, fld_n, fld_n, fld_n, fld_n, fld_n, fld_n, fld_n, fld_n, fld_n, Nat.div_eq_of_lt (show w < 2 ^ (0 + 1 + 1 + 1 + 1 + 1 + 1 + 1 + 1 + 1 + 1 + 1 + 1 + 1 + 1 + 1 + 1) from hw), fld_0, Nat.xor_zero]
theorem utwC {w : Nat} (hw : w < 2 ^ 16) : X6_untwist_r (nI w) = nI (fld 32 w) := by
  have sh : ∀ (n k : Nat) (s : Int32), n < 2 ^ 16 → (s.toBitVec.smod 32).toNat = k → nI n >>> s = nI (n / 2 ^ k) := fun n k s h hs => pk_shrN (by omega) s k hs
  have lt : ∀ (n k : Nat), n < 2 ^ 16 → n / 2 ^ k < 2 ^ 16 := fun n k h => Nat.lt_of_le_of_lt (Nat.div_le_self _ _) h
  dsimp only [X6_untwist_r]
  have h1 := Nat.xor_lt_two_pow hw (lt w 1 hw)
  rw [sh w 1 _ hw (by decide), nx_xor]
  have h2 := Nat.xor_lt_two_pow h1 (lt _ 2 h1)
  rw [sh _ 2 _ h1 (by decide), nx_xor]
  have h3 := Nat.xor_lt_two_pow h2 (lt _ 4 h2)
  rw [sh _ 4 _ h2 (by decide), nx_xor, sh _ 8 _ h3 (by decide), nx_xor, fld_32 hw]
  simp only [dx, dd, Nat.xor_assoc, Nat.pow_zero, Nat.div_one, Nat.reduceAdd]
theorem smp {a b : Int32} (ha : 0 ≤ a.toInt ∧ a.toInt ≤ 9999) (hb : 0 ≤ b.toInt ∧ b.toInt ≤ 9999) : X6_untwist_r (X6_twist_r a &&& X6_twist_r b) = X8_untwisted_r (X8_twisted_r a &&& X8_twisted_r b) := by
  have tw : ∀ n : Nat, n ≤ 9999 → X6_twist_r (nI n) = nI (n ^^^ n / 2) ∧ X8_twisted_r (nI n) = nI (n ^^^ n / 2) := by
    intro n hn
    refine ⟨?_, ?_⟩
    · dsimp only [X6_twist_r]
      rw [pk_shrN (by omega) _ 1 (by decide), nx_xor, Nat.pow_one]
    · dsimp only [X8_twisted_r]
      rw [show nI n / 2 = nI (n / 2) from pk_div (d := 2) (by omega) (by decide) (by decide), nx_xor]
  obtain ⟨i, hi, rfl⟩ := nI_of (x := a) (by rw [Int32.lt_iff_toInt_lt, i0]; omega)
  obtain ⟨j, hj, rfl⟩ := nI_of (x := b) (by rw [Int32.lt_iff_toInt_lt, i0]; omega)
  rw [nI_toInt hi] at ha
  rw [nI_toInt hj] at hb
  have l1 : i ^^^ i / 2 < 2 ^ 16 := Nat.xor_lt_two_pow (by omega) (by omega)
  have l2 : (i ^^^ i / 2) &&& (j ^^^ j / 2) < 2 ^ 16 := Nat.lt_of_le_of_lt Nat.and_le_left l1
  rw [(tw i (by omega)).1, (tw j (by omega)).1, (tw i (by omega)).2, (tw j (by omega)).2, nx_and, utwC l2]
  show _ = utw 32 0 (nI _)
  rw [show (0 : Int32) = nI 0 from rfl, utw_fld 32 0 _ (by decide) l2, Nat.zero_xor]
theorem tin_hi {t : ct_St} {x y : Int32} (hx : vp_in x 4) {r : Nat} (h : 30 ≤ r) : X7_tin_it y x t r = t r := ur_hi (by have := vp_lt hx; omega) h
theorem tcn_hi {t : ct_St} {x y : Int32} (hx : vp_in x 4) {r : Nat} (h : 30 ≤ r) : X7_tcn_it y x t r = t r := ur_hi (by have := vp_lt hx; omega) h
theorem tct_hi {t : ct_St} {x y : Int32} (hx : vp_in x 4) {r : Nat} (h : 30 ≤ r) : X7_tct_it y x t r = t r := ur_hi (by have := vp_lt hx; omega) h
theorem tch_hi {t : ct_St} {x y : Int32} (hx : vp_in x 4) {r : Nat} (h : 30 ≤ r) : X7_tch_it y x t r = t r := ur_hi (by have := vp_lt hx; omega) h
theorem run_hi (t : ct_St) {r : Nat} (h : 30 ≤ r) : X7_runTick_s t r = t r := by
  dsimp only [X7_runTick_s]
  split
  · rw [wop_hi _ h, ur_hi (by decide) h, tch_hi vl_3_4 h, tch_hi vl_2_4 h, tch_hi vl_1_4 h, tch_hi vl_0_4 h, tct_hi vl_3_4 h, tct_hi vl_2_4 h, tct_hi vl_1_4 h, tct_hi vl_0_4 h, tcn_hi vl_3_4 h, tcn_hi vl_2_4 h, tcn_hi vl_1_4 h, tcn_hi vl_0_4 h, tin_hi vl_3_4 h, tin_hi vl_2_4 h, tin_hi vl_1_4 h, tin_hi vl_0_4 h, us_hi (by decide) h]
  · rw [wop_hi _ h, tch_hi vl_3_4 h, tch_hi vl_2_4 h, tch_hi vl_1_4 h, tch_hi vl_0_4 h, tct_hi vl_3_4 h, tct_hi vl_2_4 h, tct_hi vl_1_4 h, tct_hi vl_0_4 h, tcn_hi vl_3_4 h, tcn_hi vl_2_4 h, tcn_hi vl_1_4 h, tcn_hi vl_0_4 h, tin_hi vl_3_4 h, tin_hi vl_2_4 h, tin_hi vl_1_4 h, tin_hi vl_0_4 h, us_hi (by decide) h]
theorem one_lo (t : ct_St) {r : Nat} (h : r < 30) : X8_oneTick_s t r = t r := X8_oneTick_s_fr t (by omega) (by omega) (by omega) (by omega) (by omega) (by omega) (by omega) (by omega) (by omega) (by omega) (by omega) (by omega) (by omega) (by omega) (by omega) (by omega) (by omega) (by omega) (by omega) (by omega) (by omega) (by omega)
theorem J2_pg {s u s' u' : ct_St} (h : J2 s u) (hs : ∀ r, r < 30 → r ≠ 0 → r ≠ 7 → s' r = s r) (hu : ∀ r, 30 ≤ r → r ≠ 30 → u' r = u r) (h34 : u' 30 34 = u 30 34) (hp : PG2 s' u') : J2 s' u' :=
  ⟨PC2_of h.1 (fun r _ _ => hs r (by omega) (by omega) (by omega)) (fun r _ _ => hu r (by omega) (by omega)), PI2_of h.2.1 (fun r _ _ => hs r (by omega) (by omega) (by omega)) (fun r _ _ => hu r (by omega) (by omega)), PT2_of h.2.2.1 (fun r _ _ => hs r (by omega) (by omega) (by omega)) (fun r _ _ => hu r (by omega) (by omega)), PH2_of h.2.2.2.1 (fun r _ _ => hs r (by omega) (by omega) (by omega)) (fun r _ _ => hu r (by omega) (by omega)), PP2_of h.2.2.2.2.1 (fun r _ _ => hs r (by omega) (by omega) (by omega)) (fun r _ _ => hu r (by omega) (by omega)), hp, RR_of h.2.2.2.2.2.2 (fun r hr => hs r (by omega) (by omega) (by omega)) (fun r _ _ => hu r (by omega) (by omega)) h34⟩
theorem J2_inc {s u : ct_St} (h : J2 s u) : J2 (us s 0 7 (s 0 7 + 1)) (us u 30 0 (u 30 0 + 1)) := by
  obtain ⟨⟨e0, e1, e2, e3, e4, e5, e6⟩, f1, f2, f3, f4⟩ := h.2.2.2.2.2.1
  refine J2_pg h (fun r _ h1 _ => us_ne h1) (fun r _ h1 => us_ne h1) (us_off (by decide)) ?_
  have q30 : ∀ k, k ≠ 0 → us u 30 0 (u 30 0 + 1) 30 k = u 30 k := fun k hk => us_off hk
  unfold PG2
  rw [us_ne (a := 7) (by decide), q30 40 (by decide), q30 41 (by decide), q30 42 (by decide), q30 43 (by decide), q30 44 (by decide), q30 32 (by decide), us_off (j := 8) (by decide), us_same, us_same]
  exact ⟨⟨e0, e1, e2, e3, e4, by rw [e5], e6⟩, f1, f2, f3, f4⟩
theorem J2_smp {s u : ct_St} {A B : Int32} (h : J2 s u) (hA : A = B) (hA2 : 0 ≤ A.toInt ∧ A.toInt ≤ 9999) : J2 (ur s 7 (X6_sample_s A (s (12 + ix (s 7 1)) 4) (s 7))) (us (us u 30 44 (u 30 43)) 30 43 (X8_sampleOf_r B (us u 30 44 (u 30 43) 35 (ix (us u 30 44 (u 30 43) 30 41))) (us u 30 44 (u 30 43)))) := by
  obtain ⟨⟨e0, e1, e2, e3, e4, e5, e6⟩, f1, f2, f3, f4⟩ := h.2.2.2.2.2.1
  have g := h.1.1 (ix (s 7 1)) (vp_lt f1)
  have c4 : s (12 + ix (s 7 1)) 4 = u 35 (ix (u 30 41)) := by rw [← e1]; exact g.1.2.2.2.2.1
  have hB2 : 0 ≤ (s (12 + ix (s 7 1)) 4).toInt ∧ (s (12 + ix (s 7 1)) 4).toInt ≤ 9999 := ⟨g.2.2.1.1, by have := g.2.2.1.2; have := g.2.1.2; omega⟩
  rw [us_ne (a := 35) (by decide), us_off (j := 41) (by decide), ← c4, ← hA]
  have hv : X6_sample_s A (s (12 + ix (s 7 1)) 4) (s 7) 3 = X8_sampleOf_r A (s (12 + ix (s 7 1)) 4) (us u 30 44 (u 30 43)) := by
    dsimp only [X6_sample_s, X8_sampleOf_r]
    rw [us_off (j := 42) (by decide), ← e2]
    have q2 : upd (s 7) 4 (s 7 3) 2 = s 7 2 := rfl
    rw [q2]
    rcases f3 with q | q
    · rw [if_neg (by rw [q]; decide), if_pos q]; rfl
    · rw [if_pos q, if_neg (by rw [q]; decide)]
      exact smp hA2 hB2
  have hf : ∀ j, j = 0 ∨ j = 1 ∨ j = 2 → X6_sample_s A (s (12 + ix (s 7 1)) 4) (s 7) j = s 7 j := by
    intro j hj
    dsimp only [X6_sample_s]
    split <;> rcases hj with rfl | rfl | rfl <;> rfl
  have hf4 : X6_sample_s A (s (12 + ix (s 7 1)) 4) (s 7) 4 = s 7 3 := by
    dsimp only [X6_sample_s]
    split <;> rfl
  generalize X6_sample_s A (s (12 + ix (s 7 1)) 4) (s 7) = G at hv hf hf4 ⊢
  generalize X8_sampleOf_r A (s (12 + ix (s 7 1)) 4) (us u 30 44 (u 30 43)) = V at hv ⊢
  refine J2_pg h (fun r _ _ h1 => ur_ne _ _ h1) (fun r _ h1 => by rw [us_ne h1, us_ne h1]) (by rw [us_off (by decide), us_off (by decide)]) ?_
  have q30 : ∀ k, k ≠ 43 → k ≠ 44 → us (us u 30 44 (u 30 43)) 30 43 V 30 k = u 30 k := fun k h1 h2 => by rw [us_off h1, us_off h2]
  unfold PG2
  rw [ur_at, ur_ne _ _ (show (0 : Nat) ≠ 7 by decide), q30 40 (by decide) (by decide), q30 41 (by decide) (by decide), q30 42 (by decide) (by decide), q30 0 (by decide) (by decide), q30 32 (by decide) (by decide), us_same, us_off (j := 44) (by decide), us_same, hf 0 (by omega), hf 1 (by omega), hf 2 (by omega), hf4, hv]
  exact ⟨⟨e0, e1, e2, rfl, e3, e5, e6⟩, f1, f2, f3, f4⟩
theorem ahead_eq {s u : ct_St} (h : J2 s u) (v : Int32) : us s 0 7 v (12 + ix (us s 0 7 v 7 1)) 4 = u 35 (ix (u 30 41)) ∧ (0 ≤ (us s 0 7 v (12 + ix (us s 0 7 v 7 1)) 4).toInt ∧ (us s 0 7 v (12 + ix (us s 0 7 v 7 1)) 4).toInt ≤ 9999) := by
  have q7 : us s 0 7 v 7 = s 7 := us_ne (by decide)
  have q12 : us s 0 7 v (12 + ix (s 7 1)) = s (12 + ix (s 7 1)) := us_ne (by omega)
  rw [q7, q12]
  obtain ⟨⟨e0, e1, -⟩, f1, -⟩ := h.2.2.2.2.2.1
  have g := h.1.1 (ix (s 7 1)) (vp_lt f1)
  rw [← e1]
  exact ⟨g.1.2.2.2.2.1, g.2.2.1.1, by have := g.2.2.1.2; have := g.2.1.2; omega⟩
theorem tick_fin {s5 u5 : ct_St} {AA BB : Int32} (j4 : J2 s5 u5) (hA : AA = BB) (hA2 : 0 ≤ AA.toInt ∧ AA.toInt ≤ 9999) : J2 (if s5 0 7 - s5 0 7 / s5 7 0 * s5 7 0 = 0 then X7_workOutPins_s (ur s5 7 (X6_sample_s AA (s5 (12 + ix (s5 7 1)) 4) (s5 7))) else X7_workOutPins_s s5) (if u5 30 0 - u5 30 0 / u5 30 40 * u5 30 40 = 0 then X8_pins_s (us (us u5 30 44 (u5 30 43)) 30 43 (X8_sampleOf_r BB (us u5 30 44 (u5 30 43) 35 (ix (us u5 30 44 (u5 30 43) 30 41))) (us u5 30 44 (u5 30 43)))) else X8_pins_s u5) := by
  have e5 := j4.2.2.2.2.2.1.1.2.2.2.2.2.1
  have e0 := j4.2.2.2.2.2.1.1.1
  by_cases c : s5 0 7 - s5 0 7 / s5 7 0 * s5 7 0 = 0
  · have c' : u5 30 0 - u5 30 0 / u5 30 40 * u5 30 40 = 0 := by rw [← e5, ← e0]; exact c
    rw [if_pos c, if_pos c']
    exact J2_pins (J2_smp j4 hA hA2)
  · have c' : ¬ u5 30 0 - u5 30 0 / u5 30 40 * u5 30 40 = 0 := by rw [← e5, ← e0]; exact c
    rw [if_neg c, if_neg c']
    exact J2_pins j4
def cT1 (A : Int32) (t : ct_St) : ct_St := X7_tin_it A 3 (X7_tin_it A 2 (X7_tin_it A 1 (X7_tin_it A 0 t)))
def cT2 (A : Int32) (t : ct_St) : ct_St := X7_tcn_it A 3 (X7_tcn_it A 2 (X7_tcn_it A 1 (X7_tcn_it A 0 t)))
def cT3 (A : Int32) (t : ct_St) : ct_St := X7_tct_it A 3 (X7_tct_it A 2 (X7_tct_it A 1 (X7_tct_it A 0 t)))
def cT4 (A : Int32) (t : ct_St) : ct_St := X7_tch_it A 3 (X7_tch_it A 2 (X7_tch_it A 1 (X7_tch_it A 0 t)))
def cTn (A : Int32) (s5 : ct_St) : ct_St := if s5 0 7 - s5 0 7 / s5 7 0 * s5 7 0 = 0 then X7_workOutPins_s (ur s5 7 (X6_sample_s A (s5 (12 + ix (s5 7 1)) 4) (s5 7))) else X7_workOutPins_s s5
def cT (t : ct_St) : ct_St := cTn (us t 0 7 (t 0 7 + 1) (12 + ix (us t 0 7 (t 0 7 + 1) 7 1)) 4) (cT4 (us t 0 7 (t 0 7 + 1) (12 + ix (us t 0 7 (t 0 7 + 1) 7 1)) 4) (cT3 (us t 0 7 (t 0 7 + 1) (12 + ix (us t 0 7 (t 0 7 + 1) 7 1)) 4) (cT2 (us t 0 7 (t 0 7 + 1) (12 + ix (us t 0 7 (t 0 7 + 1) 7 1)) 4) (cT1 (us t 0 7 (t 0 7 + 1) (12 + ix (us t 0 7 (t 0 7 + 1) 7 1)) 4) (us t 0 7 (t 0 7 + 1))))))
theorem run_eq (t : ct_St) : X7_runTick_s t = cT t := by
  dsimp only [X7_runTick_s, cT, cTn, cT4, cT3, cT2, cT1]
  rfl
theorem J2_1 {s u : ct_St} (A : Int32) (h : J2 s u) : J2 (cT1 A s) (X8_inputs_s u) := by
  dsimp only [cT1, X8_inputs_s]
  exact J2_in vl_3_4 (J2_in vl_2_4 (J2_in vl_1_4 (J2_in vl_0_4 h)))
theorem J2_2 {s u : ct_St} (A : Int32) (h : J2 s u) : J2 (cT2 A s) (X8_counters_s u) := by
  dsimp only [cT2, X8_counters_s]
  exact J2_cn vl_3_4 (J2_cn vl_2_4 (J2_cn vl_1_4 (J2_cn vl_0_4 h)))
theorem J2_3 {s u : ct_St} (A : Int32) (h : J2 s u) : J2 (cT3 A s) (X8_catchers_s u) := by
  dsimp only [cT3, X8_catchers_s]
  exact J2_ct vl_3_4 (J2_ct vl_2_4 (J2_ct vl_1_4 (J2_ct vl_0_4 h)))
theorem J2_4 {s u : ct_St} (A : Int32) (h : J2 s u) : J2 (cT4 A s) (X8_channels_s u) := by
  dsimp only [cT4, X8_channels_s]
  exact J2_ch vl_3_4 (J2_ch vl_2_4 (J2_ch vl_1_4 (J2_ch vl_0_4 h)))
theorem J2_tick {s u : ct_St} (h : J2 s u) : J2 (X7_runTick_s s) (X8_oneTick_s u) := by
  rw [run_eq]
  obtain ⟨hA1, hA2⟩ := ahead_eq h (s 0 7 + 1)
  have j4 := fun A => J2_4 A (J2_3 A (J2_2 A (J2_1 A (J2_inc h))))
  unfold cT cTn
  dsimp only [X8_oneTick_s]
  exact tick_fin (j4 _) hA1 hA2
theorem J2_ticks : ∀ (n : Nat) {s u : ct_St}, J2 s u → J2 (X7_ticks_n n s) (X8_ticks_n n u)
  | 0, _, _, h => h
  | n + 1, _, _, h => J2_ticks n (J2_tick h)
theorem ticks_hi : ∀ (n : Nat) (t : ct_St) {r : Nat}, 30 ≤ r → X7_ticks_n n t r = t r
  | 0, _, _, _ => rfl
  | n + 1, t, _, h => (ticks_hi n (X7_runTick_s t) h).trans (run_hi t h)
theorem ticks_lo : ∀ (n : Nat) (t : ct_St) {r : Nat}, r < 30 → X8_ticks_n n t r = t r
  | 0, _, _, _ => rfl
  | n + 1, t, _, h => (ticks_lo n (X8_oneTick_s t) h).trans (one_lo t h)
theorem op_ticks (t : ct_St) (a1 : Int32) (h : J t) : okM (X7_ticks_s a1 t) ∧ X7_ticks_r a1 t = X8_ticks_r a1 (X7_ticks_s a1 t) ∧ J (X8_ticks_s a1 (X7_ticks_s a1 t)) := by
  unfold X7_ticks_s X7_ticks_r X8_ticks_s X8_ticks_r
  by_cases c : X7_within_r a1 0 400 = 0
  · rw [if_pos c, if_pos c, if_pos (wp c), if_pos (wp c)]
    exact ⟨J_okM h, rfl, h⟩
  · rw [if_neg c, if_neg c, if_neg (wn c), if_neg (wn c)]
    have j1 : J2 t (X7_ticks_n (ix a1) t) := J2_of (J_J2 h) (fun _ _ => rfl) (fun r hr => ticks_hi _ _ hr)
    have j2 := J2_ticks (ix a1) j1
    refine ⟨okM_row (J_okM h) (fun r hr => ticks_hi _ _ hr), j2.2.2.2.2.2.1.1.2.2.2.2.2.1, J2_J (J2_of j2 (fun r hr => ticks_lo _ _ hr) (fun _ _ => rfl))⟩
