theorem vl_99_100 : vp_in (99 : Int32) 100 := by unfold vp_in; decide
theorem vl_1_100 : vp_in (1 : Int32) 100 := by unfold vp_in; decide
theorem riu0 {F : Nat → Int32} {u : ct_St} {k : Nat} {v w : Int32} (h : ri F u k) (hv : v = w) : ri (upd F 0 v) (us u 42 k w) k := ⟨hv.trans us_same.symm, h.2.1, h.2.2.1, h.2.2.2.1, h.2.2.2.2⟩
theorem riu1 {F : Nat → Int32} {u : ct_St} {k : Nat} {v w : Int32} (h : ri F u k) (hv : v = w) : ri (upd F 1 v) (us u 43 k w) k := ⟨h.1, hv.trans us_same.symm, h.2.2.1, h.2.2.2.1, h.2.2.2.2⟩
theorem riu2 {F : Nat → Int32} {u : ct_St} {k : Nat} {v w : Int32} (h : ri F u k) (hv : v = w) : ri (upd F 2 v) (us u 45 k w) k := ⟨h.1, h.2.1, hv.trans us_same.symm, h.2.2.2.1, h.2.2.2.2⟩
theorem riu3 {F : Nat → Int32} {u : ct_St} {k : Nat} {v w : Int32} (h : ri F u k) (hv : v = w) : ri (upd F 3 v) (us u 44 k w) k := ⟨h.1, h.2.1, h.2.2.1, hv.trans us_same.symm, h.2.2.2.2⟩
theorem riu4 {F : Nat → Int32} {u : ct_St} {k : Nat} {v w : Int32} (h : ri F u k) (hv : v = w) : ri (upd F 4 v) (us u 46 k w) k := ⟨h.1, h.2.1, h.2.2.1, h.2.2.2.1, hv.trans us_same.symm⟩
theorem rtu0 {F : Nat → Int32} {u : ct_St} {k : Nat} {v w : Int32} (h : rt F u k) (hv : v = w) : rt (upd F 0 v) (us u 47 k w) k := ⟨hv.trans us_same.symm, h.2.1, h.2.2.1, h.2.2.2.1, h.2.2.2.2.1, h.2.2.2.2.2.1, h.2.2.2.2.2.2⟩
theorem rtu1 {F : Nat → Int32} {u : ct_St} {k : Nat} {v w : Int32} (h : rt F u k) (hv : v = w) : rt (upd F 1 v) (us u 48 k w) k := ⟨h.1, hv.trans us_same.symm, h.2.2.1, h.2.2.2.1, h.2.2.2.2.1, h.2.2.2.2.2.1, h.2.2.2.2.2.2⟩
theorem rtu2 {F : Nat → Int32} {u : ct_St} {k : Nat} {v w : Int32} (h : rt F u k) (hv : v = w) : rt (upd F 2 v) (us u 49 k w) k := ⟨h.1, h.2.1, hv.trans us_same.symm, h.2.2.2.1, h.2.2.2.2.1, h.2.2.2.2.2.1, h.2.2.2.2.2.2⟩
theorem rtu3 {F : Nat → Int32} {u : ct_St} {k : Nat} {v w : Int32} (h : rt F u k) (hv : v = w) : rt (upd F 3 v) (us u 50 k w) k := ⟨h.1, h.2.1, h.2.2.1, hv.trans us_same.symm, h.2.2.2.2.1, h.2.2.2.2.2.1, h.2.2.2.2.2.2⟩
theorem rtu4 {F : Nat → Int32} {u : ct_St} {k : Nat} {v w : Int32} (h : rt F u k) (hv : v = w) : rt (upd F 4 v) (us u 51 k w) k := ⟨h.1, h.2.1, h.2.2.1, h.2.2.2.1, hv.trans us_same.symm, h.2.2.2.2.2.1, h.2.2.2.2.2.2⟩
theorem rtu5 {F : Nat → Int32} {u : ct_St} {k : Nat} {v w : Int32} (h : rt F u k) (hv : v = w) : rt (upd F 5 v) (us u 52 k w) k := ⟨h.1, h.2.1, h.2.2.1, h.2.2.2.1, h.2.2.2.2.1, hv.trans us_same.symm, h.2.2.2.2.2.2⟩
theorem rtu6 {F : Nat → Int32} {u : ct_St} {k : Nat} {v w : Int32} (h : rt F u k) (hv : v = w) : rt (upd F 6 v) (us u 53 k w) k := ⟨h.1, h.2.1, h.2.2.1, h.2.2.2.1, h.2.2.2.2.1, h.2.2.2.2.2.1, hv.trans us_same.symm⟩
theorem rhu0 {F : Nat → Int32} {u : ct_St} {k : Nat} {v w : Int32} (h : rh F u k) (hv : v = w) : rh (upd F 0 v) (us u 54 k w) k := ⟨hv.trans us_same.symm, h.2.1, h.2.2.1, h.2.2.2.1, h.2.2.2.2.1, h.2.2.2.2.2.1, h.2.2.2.2.2.2.1, h.2.2.2.2.2.2.2⟩
theorem rhu1 {F : Nat → Int32} {u : ct_St} {k : Nat} {v w : Int32} (h : rh F u k) (hv : v = w) : rh (upd F 1 v) (us u 55 k w) k := ⟨h.1, hv.trans us_same.symm, h.2.2.1, h.2.2.2.1, h.2.2.2.2.1, h.2.2.2.2.2.1, h.2.2.2.2.2.2.1, h.2.2.2.2.2.2.2⟩
theorem rhu2 {F : Nat → Int32} {u : ct_St} {k : Nat} {v w : Int32} (h : rh F u k) (hv : v = w) : rh (upd F 2 v) (us u 56 k w) k := ⟨h.1, h.2.1, hv.trans us_same.symm, h.2.2.2.1, h.2.2.2.2.1, h.2.2.2.2.2.1, h.2.2.2.2.2.2.1, h.2.2.2.2.2.2.2⟩
theorem rhu3 {F : Nat → Int32} {u : ct_St} {k : Nat} {v w : Int32} (h : rh F u k) (hv : v = w) : rh (upd F 3 v) (us u 57 k w) k := ⟨h.1, h.2.1, h.2.2.1, hv.trans us_same.symm, h.2.2.2.2.1, h.2.2.2.2.2.1, h.2.2.2.2.2.2.1, h.2.2.2.2.2.2.2⟩
theorem rhu4 {F : Nat → Int32} {u : ct_St} {k : Nat} {v w : Int32} (h : rh F u k) (hv : v = w) : rh (upd F 4 v) (us u 58 k w) k := ⟨h.1, h.2.1, h.2.2.1, h.2.2.2.1, hv.trans us_same.symm, h.2.2.2.2.2.1, h.2.2.2.2.2.2.1, h.2.2.2.2.2.2.2⟩
theorem rhu5 {F : Nat → Int32} {u : ct_St} {k : Nat} {v w : Int32} (h : rh F u k) (hv : v = w) : rh (upd F 5 v) (us u 59 k w) k := ⟨h.1, h.2.1, h.2.2.1, h.2.2.2.1, h.2.2.2.2.1, hv.trans us_same.symm, h.2.2.2.2.2.2.1, h.2.2.2.2.2.2.2⟩
theorem rhu6 {F : Nat → Int32} {u : ct_St} {k : Nat} {v w : Int32} (h : rh F u k) (hv : v = w) : rh (upd F 6 v) (us u 60 k w) k := ⟨h.1, h.2.1, h.2.2.1, h.2.2.2.1, h.2.2.2.2.1, h.2.2.2.2.2.1, hv.trans us_same.symm, h.2.2.2.2.2.2.2⟩
theorem rhu7 {F : Nat → Int32} {u : ct_St} {k : Nat} {v w : Int32} (h : rh F u k) (hv : v = w) : rh (upd F 7 v) (us u 61 k w) k := ⟨h.1, h.2.1, h.2.2.1, h.2.2.2.1, h.2.2.2.2.1, h.2.2.2.2.2.1, h.2.2.2.2.2.2.1, hv.trans us_same.symm⟩
theorem J2_okM {s u : ct_St} (h : J2 s u) : okM u := by
  obtain ⟨n, q, hn, hq, -, e4, -, -⟩ := h.2.2.2.2.2.2.2
  have hg := h.2.2.2.2.2.1
  refine ⟨fun x hx h2 => ?_, h.1.2.2, fun j hj => ?_, fun j hj => ?_, fun j hj => ?_, ?_, ?_, ?_⟩
  · obtain ⟨j, hj, rfl⟩ := vp_in_of hx (by decide)
    rw [show ix (nI j) = j from nI_clamp (by omega)] at h2
    rcases j with _ | j
    · exact absurd h2 h.1.2.1
    · rw [nI_pred]
      exact vp_in_nI (by omega) (by decide)
  · have := h.2.2.1 j hj
    rw [← this.1.2.2.1]
    exact this.2.2.1
  · have := h.2.2.1 j hj
    rw [← this.1.1]
    exact this.2.1
  · have := h.2.2.2.1 j hj
    rw [← this.1.1]
    exact this.2.1
  · rw [← hg.1.2.1]; exact hg.2.1
  · rw [← hg.1.1]; exact hg.2.2.1
  · rw [e4]; exact vp_in_nI (by omega) (by decide)
theorem hp_iff {s u : ct_St} {k : Nat} (hk : k < 4) (h : J2 s u) : X7_hasPulse_r (nI k) s = 0 ↔ X8_hasPulse_r (nI k) (us (us u 40 k 0) 41 k 0) = 0 := by
  have hx : ix (nI k) = k := nI_clamp (by omega)
  have e3 := (h.1.1 k hk).1.2.2.2.1
  have i4 := (h.2.1 k hk).1.2.2.2.2
  dsimp only [X7_hasPulse_r, X8_hasPulse_r]
  rw [hx, e3, i4, us_ne (a := 34) (by decide), us_ne (a := 34) (by decide), us_ne (a := 46) (by decide), us_ne (a := 46) (by decide)]
  by_cases c1 : u 34 k = 1
  · rw [if_pos c1, if_pos c1]
  rw [if_neg c1, if_neg c1]
  by_cases c2 : u 34 k = 2
  · rw [if_pos c2, if_pos c2]
    rcases k with _ | j
    · exact absurd c2 h.1.2.1
    · have n0 : ¬ nI (j + 1) ≤ 0 := nI_nle (by omega) (by omega)
      rw [if_neg n0, nI_pred, show ix (nI j) = j from nI_clamp (by omega), (h.1.1 j (by omega)).1.2.2.2.2.2.2.2.2.2.1, us_col (by omega), us_ne (by decide)]
      by_cases c3 : u 41 j = 0
      · rw [if_pos c3]; exact ⟨fun _ => c3, fun _ => rfl⟩
      · rw [if_neg c3]; exact ⟨fun z => absurd z (by decide), fun z => absurd z c3⟩
  rw [if_neg c2, if_neg c2]
theorem J2_cn {s u : ct_St} {x y : Int32} (hx : vp_in x 4) (h : J2 s u) : J2 (X7_tcn_it y x s) (X8_counters_it x u) := by
  obtain ⟨k, hk, rfl⟩ := vp_in_of hx (by decide)
  have hix : ix (nI k) = k := nI_clamp (by omega)
  dsimp only [X7_tcn_it]
  refine J2c h (fun r h1 h2 => ur_ne _ _ (by omega)) (fun r h1 h2 => X8_counters_it_fr _ _ (by omega) (by omega) (by omega) (by omega) (by omega) (by omega) (by omega) (by omega)) (PC2_up h.1 (k := k) (fun j hj e => ur_ne _ _ (by omega)) (fun j hj e r h1 h2 => cn_col (by rw [hix]; exact e)) ?_ ?_ ?_)
  · obtain ⟨hr, hi⟩ := h.1.1 k hk
    rw [hix, ur_at]
    refine ⟨?_, pass_ic _ hi⟩
    have hb := hp_iff hk h
    have h2 := pass_rc (x := nI k) (b := X7_hasPulse_r (nI k) s) (F := s (12 + k)) (u := u) (by rw [hix]; exact hr) (by rw [hix]; exact hb)
    rw [hix] at h2
    exact h2
  · rw [X8_counters_it_fr _ _ (by decide) (by decide) (by decide) (by decide) (by decide) (by decide) (by decide) (by decide)]
    exact h.1.2.1
  · exact (ok_X8_counters_it _ _ (J2_okM h)).2.1
theorem look_ri {F : Nat → Int32} {u : ct_St} {x : Int32} (h : ri F u (ix x)) (hf : 0 < (F 3).toInt) : ri (X3_look_s F) (X8_inputs_it x u) (ix x) ∧ X3_look_s F 3 = F 3 := by
  have h1 := riu4 (v := 0) h rfl
  obtain ⟨e0, e1, e2, e3, e4⟩ := h1
  have h1 := riu4 (v := 0) h rfl
  dsimp only [X3_look_s, X8_inputs_it]
  by_cases c1 : upd F 4 0 0 = upd F 4 0 1
  · have c1' := e0.symm.trans (c1.trans e1)
    rw [if_pos c1, if_pos c1']
    have h2 := riu2 (v := 0) h1 rfl
    have c2 : us (us u 46 (ix x) 0) 45 (ix x) 0 45 (ix x) < us (us u 46 (ix x) 0) 45 (ix x) 0 44 (ix x) := by
      rw [← h2.2.2.1, ← h2.2.2.2.1]
      show (0 : Int32) < F 3
      rw [Int32.lt_iff_toInt_lt, i0]
      exact hf
    rw [if_pos c2]
    exact ⟨h2, rfl⟩
  · have c1' := fun z => c1 (Eq.trans e0 (Eq.trans z e1.symm))
    rw [if_neg c1, if_neg c1']
    have h2 := riu2 h1 (congrArg (· + 1) e2)
    have d2 := h2.2.2.1
    have d3 := h2.2.2.2.1
    by_cases c2 : upd (upd F 4 0) 2 (upd F 4 0 2 + 1) 2 < upd (upd F 4 0) 2 (upd F 4 0 2 + 1) 3
    · have c2' := c2
      rw [d2, d3] at c2'
      rw [if_pos c2, if_pos c2']
      exact ⟨h2, rfl⟩
    · have c2' := c2
      rw [d2, d3] at c2'
      rw [if_neg c2, if_neg c2']
      have h3 := riu2 (v := 0) (riu1 h2 h2.1) rfl
      have f0 := h3.1
      by_cases c3 : upd (upd (upd (upd F 4 0) 2 (upd F 4 0 2 + 1)) 1 (upd (upd F 4 0) 2 (upd F 4 0 2 + 1) 0)) 2 0 1 = 1
      · have c3' := f0.symm.trans c3
        rw [if_pos c3, if_pos c3']
        exact ⟨riu4 h3 rfl, rfl⟩
      · have c3' := fun z => c3 (Eq.trans f0 z)
        rw [if_neg c3, if_neg c3']
        exact ⟨riu4 h3 rfl, rfl⟩
theorem in_col {u : ct_St} {x : Int32} {r j : Nat} (h : j ≠ ix x) : X8_inputs_it x u r j = u r j := by
  dsimp only [X8_inputs_it]
  (repeat' split) <;> simp only [us_col h]
theorem J2_in {s u : ct_St} {x y : Int32} (hx : vp_in x 4) (h : J2 s u) : J2 (X7_tin_it y x s) (X8_inputs_it x u) := by
  obtain ⟨k, hk, rfl⟩ := vp_in_of hx (by decide)
  have hix : ix (nI k) = k := nI_clamp (by omega)
  dsimp only [X7_tin_it]
  refine J2i h (fun r h1 h2 => ur_ne _ _ (by omega)) (fun r h1 h2 => X8_inputs_it_fr _ _ (by omega) (by omega) (by omega)) (PI2_up h.2.1 (k := k) (fun j hj e => ur_ne _ _ (by omega)) (fun j hj e r h1 h2 => in_col (by rw [hix]; exact e)) ?_)
  obtain ⟨hr, hi⟩ := h.2.1 k hk
  rw [hix, ur_at]
  obtain ⟨h2, h3⟩ := look_ri (x := nI k) (F := s (16 + k)) (u := u) (by rw [hix]; exact hr) hi
  rw [hix] at h2
  exact ⟨h2, by rw [h3]; exact hi⟩
theorem note_rt {F : Nat → Int32} {u : ct_St} {x e c : Int32} (h : rt F u (ix x)) (he : e = u 46 (ix x)) (hc : c = u 35 (ix (u 47 (ix x)))) (hi : it F) : rt (X0_notice_s e c F) (X8_catchers_it x u) (ix x) ∧ it (X0_notice_s e c F) := by
  have keep : rt F (us u 50 (ix x) (u 50 (ix x) + 0)) (ix x) := by
    have h2 := rtu3 (v := F 3) h (w := u 50 (ix x) + 0) (by rw [Int32.add_zero]; exact h.2.2.2.1)
    rw [upd_self] at h2
    exact h2
  have e1 := h.2.1
  dsimp only [X0_notice_s, X8_catchers_it]
  rw [he, e1]
  by_cases c1 : u 48 (ix x) &&& u 46 (ix x) = 0
  · rw [if_pos c1]
    by_cases c0 : u 46 (ix x) = 0
    · rw [if_pos c0]; exact ⟨keep, hi⟩
    · rw [if_neg c0, if_pos c1]; exact ⟨keep, hi⟩
  · have c0 : ¬ u 46 (ix x) = 0 := fun z => c1 (by rw [z, Int32.and_zero])
    rw [if_neg c1, if_neg c0, if_neg c1]
    have h3 := rtu3 h (congrArg (· + 1) h.2.2.2.1)
    have d3 := h3.2.2.2.1
    have d2 := h3.2.2.1
    by_cases c2 : upd F 3 (F 3 + 1) 3 - upd F 3 (F 3 + 1) 3 / upd F 3 (F 3 + 1) 2 * upd F 3 (F 3 + 1) 2 = 0
    · have c2' := c2
      rw [d3, d2] at c2'
      rw [if_pos c2, if_pos c2']
      have h4 := rtu6 h3 (show upd F 3 (F 3 + 1) 6 + upd F 3 (F 3 + 1) 5 = us u 50 (ix x) (u 50 (ix x) + 1) 53 (ix x) + us u 50 (ix x) (u 50 (ix x) + 1) 52 (ix x) by rw [h3.2.2.2.2.2.2, h3.2.2.2.2.2.1])
      have h5 := rtu4 h4 (show c = us (us u 50 (ix x) (u 50 (ix x) + 1)) 53 (ix x) (us u 50 (ix x) (u 50 (ix x) + 1) 53 (ix x) + us u 50 (ix x) (u 50 (ix x) + 1) 52 (ix x)) 35 (ix (us (us u 50 (ix x) (u 50 (ix x) + 1)) 53 (ix x) (us u 50 (ix x) (u 50 (ix x) + 1) 53 (ix x) + us u 50 (ix x) (u 50 (ix x) + 1) 52 (ix x)) 47 (ix x))) from hc)
      exact ⟨rtu5 h5 rfl, hi.1, hi.2.1, Or.inr rfl⟩
    · have c2' := c2
      rw [d3, d2] at c2'
      rw [if_neg c2, if_neg c2']
      exact ⟨h3, hi⟩
theorem ct_col {u : ct_St} {x : Int32} {r j : Nat} (h : j ≠ ix x) : X8_catchers_it x u r j = u r j := by
  dsimp only [X8_catchers_it]
  (repeat' split) <;> simp only [us_col h]
theorem J2_ct {s u : ct_St} {x y : Int32} (hx : vp_in x 4) (h : J2 s u) : J2 (X7_tct_it y x s) (X8_catchers_it x u) := by
  obtain ⟨k, hk, rfl⟩ := vp_in_of hx (by decide)
  have hix : ix (nI k) = k := nI_clamp (by omega)
  dsimp only [X7_tct_it]
  refine J2t h (fun r h1 h2 => ur_ne _ _ (by omega)) (fun r h1 h2 => X8_catchers_it_fr _ _ (by omega) (by omega) (by omega) (by omega)) (PT2_up h.2.2.1 (k := k) (fun j hj e => ur_ne _ _ (by omega)) (fun j hj e r h1 h2 => ct_col (by rw [hix]; exact e)) ?_)
  obtain ⟨hr, hi⟩ := h.2.2.1 k hk
  rw [hix, ur_at]
  have i4 := (h.2.1 k hk).1.2.2.2.2
  have c4 := (h.1.1 (ix (s (20 + k) 0)) (vp_lt hi.1)).1.2.2.2.2.1
  have h2 := note_rt (x := nI k) (F := s (20 + k)) (u := u) (e := s (16 + k) 4) (c := s (12 + ix (s (20 + k) 0)) 4) (by rw [hix]; exact hr) (by rw [hix]; exact i4) (by rw [hix, ← hr.1]; exact c4) hi
  rw [hix] at h2
  exact h2
theorem upd_comm (F : Nat → Int32) {i j : Nat} (h : i ≠ j) (v w : Int32) : upd (upd F i v) j w = upd (upd F j w) i v := by
  funext k
  unfold upd
  by_cases c : k = j
  · subst c
    rw [if_pos rfl, if_neg (fun z => h z.symm), if_pos rfl]
  · rw [if_neg c]
    by_cases c2 : k = i
    · rw [if_pos c2, if_pos c2]
    · rw [if_neg c2, if_neg c2, if_neg c]
theorem le_lt {a b : Int32} : ¬ a ≤ b ↔ b < a := by
  rw [Int32.le_iff_toInt_le, Int32.lt_iff_toInt_lt]
  omega
theorem lev_eq {B F : Nat → Int32} {u : ct_St} {x : Int32} (h : rh F u (ix x)) (hi : ih F) (b10 : B 10 = u 40 (ix (u 54 (ix x)))) (b4 : B 4 = u 35 (ix (u 54 (ix x)))) : X1_nextLevel_r B F = X8_levelThen_r x u ∧ (X1_nextLevel_r B F = 0 ∨ X1_nextLevel_r B F = 1) := by
  obtain ⟨e0, e1, e2, e3, -⟩ := h
  obtain ⟨-, hm, hl, -⟩ := hi
  dsimp only [X1_nextLevel_r, X8_levelThen_r]
  rw [← e1, ← e2, ← e3, ← b10, ← b4]
  obtain ⟨m, hm2, hm3⟩ := vp_in_of hm (by decide)
  have l1 : (1 - F 3 = 0 ∨ 1 - F 3 = (1 : Int32)) := by
    rcases hl with q | q <;> rw [q] <;> decide
  rw [hm3]
  rcases (show m = 0 ∨ m = 1 ∨ m = 2 ∨ m = 3 ∨ m = 4 by omega) with rfl | rfl | rfl | rfl | rfl
  · simp (decide := true) only [if_true, if_false, ite_self]
  · simp (decide := true) only [if_true, if_false, ite_self]
    refine ⟨trivial, ?_⟩
    split <;> simp
  · simp (decide := true) only [if_true, if_false, ite_self]
    by_cases c : F 2 ≤ B 4
    · have c' : ¬ B 4 < F 2 := fun z => le_lt.mpr z c
      rw [if_pos c, if_neg c']
      exact ⟨rfl, Or.inr rfl⟩
    · have c' : B 4 < F 2 := le_lt.mp c
      rw [if_neg c, if_pos c']
      exact ⟨rfl, Or.inl rfl⟩
  · simp (decide := true) only [if_true, if_false, ite_self]
    refine ⟨trivial, ?_⟩
    split
    · exact hl
    · split
      · exact l1
      · exact hl
  · simp (decide := true) only [if_true, if_false, ite_self]
    refine ⟨trivial, ?_⟩
    split
    · exact hl
    · split
      · exact Or.inr rfl
      · exact hl
theorem fol_rh {B F : Nat → Int32} {u : ct_St} {x : Int32} (h : rh F u (ix x)) (hi : ih F) (b10 : B 10 = u 40 (ix (u 54 (ix x)))) (b4 : B 4 = u 35 (ix (u 54 (ix x)))) : rh (X1_follow_s B F) (X8_channels_it x u) (ix x) ∧ ih (X1_follow_s B F) := by
  obtain ⟨hlv, hl01⟩ := lev_eq h hi b10 b4
  have e3 := h.2.2.2.1
  have e4 := h.2.2.2.2.1
  obtain ⟨g0, g1, g3, g4, g6⟩ := hi
  obtain ⟨j, hj, hj2⟩ := vp_in_of g4 (by decide)
  dsimp only [X1_follow_s, X8_channels_it]
  rw [← hlv]
  generalize X1_nextLevel_r B F = L at hl01 ⊢
  have q3 : upd F 3 L 3 = L := rfl
  have q4 : upd F 3 L 4 = F 4 := rfl
  rw [q3, q4, upd_comm F (i := 3) (j := 4) (by decide), upd_comm F (i := 3) (j := 4) (by decide), ← e3]
  by_cases c : L = F 3
  · rw [if_pos c, if_pos c, ← e4]
    by_cases c2 : j = 99
    · have c3 : (99 : Int32) ≤ F 4 := by rw [hj2, c2]; decide
      have c4 : (99 : Int32) < F 4 + 1 := by rw [hj2, c2]; decide
      rw [if_pos c3, if_pos c4]
      exact ⟨rhu3 (rhu4 h rfl) rfl, g0, g1, hl01, vl_99_100, g6⟩
    · have c3 : ¬ (99 : Int32) ≤ F 4 := by rw [hj2]; exact nI_ge (b := 99) (by omega) (by decide)
      have c4 : ¬ (99 : Int32) < F 4 + 1 := by rw [hj2, nI_1]; exact nI_nlt (a := 99) (by omega) (by decide)
      rw [if_neg c3, if_neg c4]
      refine ⟨rhu3 (rhu4 h rfl) rfl, g0, g1, hl01, ?_, g6⟩
      show vp_in (F 4 + 1) 100
      rw [hj2, nI_1]
      exact vp_in_nI (by omega) (by decide)
  · rw [if_neg c, if_neg c]
    exact ⟨rhu3 (rhu4 h rfl) rfl, g0, g1, hl01, vl_1_100, g6⟩
theorem ch_col {u : ct_St} {x : Int32} {r j : Nat} (h : j ≠ ix x) : X8_channels_it x u r j = u r j := by
  dsimp only [X8_channels_it]
  (repeat' split) <;> simp only [us_col h]
theorem J2_ch {s u : ct_St} {x y : Int32} (hx : vp_in x 4) (h : J2 s u) : J2 (X7_tch_it y x s) (X8_channels_it x u) := by
  obtain ⟨k, hk, rfl⟩ := vp_in_of hx (by decide)
  have hix : ix (nI k) = k := nI_clamp (by omega)
  dsimp only [X7_tch_it]
  refine J2h h (fun r h1 h2 => ur_ne _ _ (by omega)) (fun r h1 h2 => X8_channels_it_fr _ _ (by omega) (by omega)) (PH2_up h.2.2.2.1 (k := k) (fun j hj e => ur_ne _ _ (by omega)) (fun j hj e r h1 h2 => ch_col (by rw [hix]; exact e)) ?_)
  obtain ⟨hr, hi⟩ := h.2.2.2.1 k hk
  rw [hix, ur_at]
  obtain ⟨-, -, -, -, c4, -, -, -, -, -, c10⟩ := (h.1.1 (ix (s (24 + k) 0)) (vp_lt hi.1)).1
  have h2 := fol_rh (x := nI k) (B := s (12 + ix (s (24 + k) 0))) (F := s (24 + k)) (u := u) (by rw [hix]; exact hr) hi (by rw [hix, ← hr.1]; exact c10) (by rw [hix, ← hr.1]; exact c4)
  rw [hix] at h2
  exact h2
