/-- what the system's cells must hold, so that no index is wrong and no divisor 0 -/
def okC (t : ct_St) : Prop := (∀ j, j < 4 → vp_in (t (20 + j) 0) 4) ∧ (∀ j, j < 4 → ¬ t (20 + j) 2 = 0) ∧ (∀ j, j < 4 → vp_in (t (24 + j) 0) 4) ∧ vp_in (t 7 1) 4 ∧ ¬ t 7 0 = 0 ∧ vp_in (t 6 5) 24
theorem okC_of {t u : ct_St} (h : okC t) (h1 : ∀ j, j < 4 → u (20 + j) 0 = t (20 + j) 0) (h2 : ∀ j, j < 4 → u (20 + j) 2 = t (20 + j) 2) (h3 : ∀ j, j < 4 → u (24 + j) 0 = t (24 + j) 0) (h4 : u 7 = t 7) (h5 : vp_in (u 6 5) 24) : okC u :=
  ⟨fun j hj => by rw [h1 j hj]; exact h.1 j hj, fun j hj => by rw [h2 j hj]; exact h.2.1 j hj, fun j hj => by rw [h3 j hj]; exact h.2.2.1 j hj, by rw [h4]; exact h.2.2.2.1, by rw [h4]; exact h.2.2.2.2.1, h5⟩
/-- a cell that is none of those -/
theorem okC_ur {t : ct_St} {i : Nat} {f : Nat → Int32} (h : okC t) (h1 : ∀ j, j < 4 → 20 + j ≠ i ∧ 24 + j ≠ i) (h2 : 7 ≠ i) (h3 : 6 ≠ i) : okC (ur t i f) :=
  okC_of h (fun j hj => by rw [ur_ne _ _ (h1 j hj).1]) (fun j hj => by rw [ur_ne _ _ (h1 j hj).1]) (fun j hj => by rw [ur_ne _ _ (h1 j hj).2]) (ur_ne _ _ h2) (by rw [ur_ne _ _ h3]; exact h.2.2.2.2.2)
theorem okC_us {t : ct_St} {i k : Nat} {v : Int32} (h : okC t) (h1 : ∀ j, j < 4 → 20 + j ≠ i ∧ 24 + j ≠ i) (h2 : 7 ≠ i) (h3 : 6 ≠ i) : okC (us t i k v) := okC_ur h h1 h2 h3
theorem hs_X7_within : yX7_within.cls ≠ "java/lang/invoke/MethodHandle" ∧ yX7_within.cls ≠ "java/lang/invoke/VarHandle" ∧ (parseMethodDescriptor yX7_within.desc).map (fun d => d.parameters.length) = some 3 := by decide +kernel
def X7_within_r (a1 : Int32) (a2 : Int32) (a3 : Int32) : Int32 :=
  if a1 < a2 then
    0
  else
    if a3 < a1 then
      0
    else
      1
set_option maxHeartbeats 4000000 in
set_option maxRecDepth 100000 in
theorem c_X7_within (l : Launch) (g : ct_G) (t : ct_St) (a1 : Int32) (a2 : Int32) (a3 : Int32) : MI l g shG yX7_within wsX7_within (rmd 0) [.int a1, .int a2, .int a3] t (X7_within_r a1 a2 a3) t := by
  refine MZ.of (own := RX7) (cc := cX7_within) (maxL := 3) rfl (by decide) rfl (Nat.le_of_ble_eq_true rfl) (fun p e s m args below meth cd A Q C hret ls hl => ?_)
  have hl : lv_has ls 3 [(0, .int a1), (1, .int a2), (2, .int a3)] := hl
  refine v_iload_n C dX7_within_0 rfl (lv_at hl 0 rfl) ?_
  refine v_iload_n C dX7_within_1 rfl (lv_at hl 1 rfl) ?_
  refine v_icmp_lt (tgt := 14) C dX7_within_2 (by decide) (fun c_1 => ?_) (fun c_1 => ?_)
  · refine v_iconst (v := 0) C dX7_within_14 (by decide) ?_
    exact hret _ _ _ _ (Eq.symm ((if_pos c_1).trans rfl)) rfl rfl dX7_within_15
  · refine v_iload_n C dX7_within_5 rfl (lv_at hl 0 rfl) ?_
    refine v_iload_n C dX7_within_6 rfl (lv_at hl 2 rfl) ?_
    refine v_icmp_gt (tgt := 14) C dX7_within_7 (by decide) (fun c_2 => ?_) (fun c_2 => ?_)
    · refine v_iconst (v := 0) C dX7_within_14 (by decide) ?_
      exact hret _ _ _ _ (Eq.symm ((if_neg c_1).trans ((if_pos c_2).trans rfl))) rfl rfl dX7_within_15
    · refine v_iconst (v := 1) C dX7_within_10 (by decide) ?_
      refine v_goto (tgt := 15) C dX7_within_11 (by decide) ?_
      exact hret _ _ _ _ (Eq.symm ((if_neg c_1).trans ((if_neg c_2).trans rfl))) rfl rfl dX7_within_15
theorem X7_within_z (a1 : Int32) (a2 : Int32) (a3 : Int32) : narrow .boolean (.int (X7_within_r a1 a2 a3)) = .int (X7_within_r a1 a2 a3) := by
  dsimp only [X7_within_r]
  (repeat' split) <;> first | rfl
theorem hs_X7_isOneOf : yX7_isOneOf.cls ≠ "java/lang/invoke/MethodHandle" ∧ yX7_isOneOf.cls ≠ "java/lang/invoke/VarHandle" ∧ (parseMethodDescriptor yX7_isOneOf.desc).map (fun d => d.parameters.length) = some 2 := by decide +kernel
def X7_isOneOf_r (a1 : Int32) (a2 : Int32) : Int32 :=
  if a2 < 0 then
    0
  else
    if a1 ≤ a2 then
      0
    else
      1
set_option maxHeartbeats 4000000 in
set_option maxRecDepth 100000 in
theorem c_X7_isOneOf (l : Launch) (g : ct_G) (t : ct_St) (a1 : Int32) (a2 : Int32) : MI l g shG yX7_isOneOf wsX7_isOneOf (rmd 0) [.int a1, .int a2] t (X7_isOneOf_r a1 a2) t := by
  refine MZ.of (own := RX7) (cc := cX7_isOneOf) (maxL := 2) rfl (by decide) rfl (Nat.le_of_ble_eq_true rfl) (fun p e s m args below meth cd A Q C hret ls hl => ?_)
  have hl : lv_has ls 2 [(0, .int a1), (1, .int a2)] := hl
  refine v_iload_n C dX7_isOneOf_0 rfl (lv_at hl 1 rfl) ?_
  refine v_if_lt (tgt := 13) C dX7_isOneOf_1 (by decide) (fun c_1 => ?_) (fun c_1 => ?_)
  · refine v_iconst (v := 0) C dX7_isOneOf_13 (by decide) ?_
    exact hret _ _ _ _ (Eq.symm ((if_pos c_1).trans rfl)) rfl rfl dX7_isOneOf_14
  · refine v_iload_n C dX7_isOneOf_4 rfl (lv_at hl 1 rfl) ?_
    refine v_iload_n C dX7_isOneOf_5 rfl (lv_at hl 0 rfl) ?_
    refine v_icmp_ge (tgt := 13) C dX7_isOneOf_6 (by decide) (fun c_2 => ?_) (fun c_2 => ?_)
    · refine v_iconst (v := 0) C dX7_isOneOf_13 (by decide) ?_
      exact hret _ _ _ _ (Eq.symm ((if_neg c_1).trans ((if_pos c_2).trans rfl))) rfl rfl dX7_isOneOf_14
    · refine v_iconst (v := 1) C dX7_isOneOf_9 (by decide) ?_
      refine v_goto (tgt := 14) C dX7_isOneOf_10 (by decide) ?_
      exact hret _ _ _ _ (Eq.symm ((if_neg c_1).trans ((if_neg c_2).trans rfl))) rfl rfl dX7_isOneOf_14
theorem isOneOf2_in {a : Int32} (h : ¬ X7_isOneOf_r 2 a = 0) : vp_in a 2 := by
  unfold X7_isOneOf_r at h
  split at h
  · exact absurd rfl h
  · split at h
    · exact absurd rfl h
    · next h1 h2 => exact wi_in2 h1 h2 (by decide)
theorem isOneOf4_in {a : Int32} (h : ¬ X7_isOneOf_r 4 a = 0) : vp_in a 4 := by
  unfold X7_isOneOf_r at h
  split at h
  · exact absurd rfl h
  · split at h
    · exact absurd rfl h
    · next h1 h2 => exact wi_in2 h1 h2 (by decide)
theorem isOneOf8_in {a : Int32} (h : ¬ X7_isOneOf_r 8 a = 0) : vp_in a 8 := by
  unfold X7_isOneOf_r at h
  split at h
  · exact absurd rfl h
  · split at h
    · exact absurd rfl h
    · next h1 h2 => exact wi_in2 h1 h2 (by decide)
theorem isOneOf24_in {a : Int32} (h : ¬ X7_isOneOf_r 24 a = 0) : vp_in a 24 := by
  unfold X7_isOneOf_r at h
  split at h
  · exact absurd rfl h
  · split at h
    · exact absurd rfl h
    · next h1 h2 => exact wi_in2 h1 h2 (by decide)
theorem X7_isOneOf_z (a1 : Int32) (a2 : Int32) : narrow .boolean (.int (X7_isOneOf_r a1 a2)) = .int (X7_isOneOf_r a1 a2) := by
  dsimp only [X7_isOneOf_r]
  (repeat' split) <;> first | rfl
theorem hs_X7_isSetOfOutputs : yX7_isSetOfOutputs.cls ≠ "java/lang/invoke/MethodHandle" ∧ yX7_isSetOfOutputs.cls ≠ "java/lang/invoke/VarHandle" ∧ (parseMethodDescriptor yX7_isSetOfOutputs.desc).map (fun d => d.parameters.length) = some 1 := by decide +kernel
def X7_isSetOfOutputs_r (a1 : Int32) : Int32 :=
  X7_within_r a1 0 3
set_option maxHeartbeats 4000000 in
set_option maxRecDepth 100000 in
theorem c_X7_isSetOfOutputs (l : Launch) (g : ct_G) (t : ct_St) (a1 : Int32) : MI l g shG yX7_isSetOfOutputs wsX7_isSetOfOutputs (rmd 1) [.int a1] t (X7_isSetOfOutputs_r a1) t := by
  refine MZ.of (own := RX7) (cc := cX7_isSetOfOutputs) (maxL := 1) rfl (by decide) rfl (Nat.le_of_ble_eq_true rfl) (fun p e s m args below meth cd A Q C hret ls hl => ?_)
  have hl : lv_has ls 1 [(0, .int a1)] := hl
  refine v_iload_n C dX7_isSetOfOutputs_0 rfl (lv_at hl 0 rfl) ?_
  refine v_iconst (v := 0) C dX7_isSetOfOutputs_1 (by decide) ?_
  refine v_iconst (v := 3) C dX7_isSetOfOutputs_2 (by decide) ?_
  refine v_scalli C (c_X7_within l g _ _ _ _) (va_cwS 3 C.2.2.2.2.1 gX7_isSetOfOutputs_X7_within rfl rfl rfl hs_X7_within ⟨Nat.le_of_ble_eq_true rfl, Nat.le_of_ble_eq_true rfl⟩) rfl hl.1 rfl (Nat.le_of_ble_eq_true rfl) dX7_isSetOfOutputs_3 ⟨Nat.le_refl _, Nat.le_refl _⟩ ?_
  exact hret _ _ _ _ rfl rfl (X7_within_z _ _ _) dX7_isSetOfOutputs_6
theorem X7_isSetOfOutputs_z (a1 : Int32) : narrow .boolean (.int (X7_isSetOfOutputs_r a1)) = .int (X7_isSetOfOutputs_r a1) := by
  dsimp only [X7_isSetOfOutputs_r]
  (repeat' split) <;> first | rfl | exact X7_within_z _ _ _
theorem iX5_drive_X5 : ∀ w ∈ wsX50, w ∈ wsX5_drive := fun _ h => (List.mem_cons_of_mem _ (List.mem_append_right _ h))
theorem hv_X5_drive : yX5_drive.cls = RX5 ∧ yX5_drive.cls ≠ "java/lang/invoke/MethodHandle" ∧ yX5_drive.cls ≠ "java/lang/invoke/VarHandle" ∧ (parseMethodDescriptor yX5_drive.desc).map (fun d => d.parameters.length) = some 3 := by decide +kernel
def X5_drive_s (a1 : Int32) (a2 : Int32) (a3 : Int32) (t : ct_St) : ct_St :=
  if t 8 (ix a1) = a2 then
    t
  else
    let t1 := us t 8 (ix a1) a2
    let t2 := us t1 9 (ix (t1 6 5)) a3
    let t3 := us t2 10 (ix (t2 6 5)) a1
    let t4 := us t3 11 (ix (t3 6 5)) a2
    let t5 := us t4 6 5 (((t4 6 5) + 1) - ((t4 6 5) + 1) / 24 * 24)
    let t6 := us t5 6 4 (if 24 < (t5 6 4) + 1 then 24 else (t5 6 4) + 1)
    t6
set_option maxHeartbeats 4000000 in
set_option maxRecDepth 100000 in
theorem c_X5_drive (l : Launch) (g : ct_G) (t : ct_St) (a1 : Int32) (a2 : Int32) (a3 : Int32) (h1 : vp_in a1 8) (hn : vp_in (t 6 5) 24) : MV l g shG yX5_drive wsX5_drive (rmd 1) [.ref (g.2.1 6), .int a1, .int a2, .int a3] t (X5_drive_s a1 a2 a3 t) := by
  refine MV.of (own := RX5) (cc := cX5_drive) (maxL := 4) rfl (by decide) rfl (Nat.le_of_ble_eq_true rfl) (fun p e s m args below meth cd A Q C hret ls hl => ?_)
  have hl : lv_has ls 4 [(0, .ref (g.2.1 6)), (1, .int a1), (2, .int a2), (3, .int a3)] := hl
  refine v_aload_n C dX5_drive_0 rfl (lv_at hl 0 rfl) ?_
  refine v_getR C iX5_drive_X5 k_6 rfl rfl (j := 0) rfl (by decide) rfl (C.w 1 rfl) dX5_drive_1 ?_
  refine v_iload_n C dX5_drive_4 rfl (lv_at hl 1 rfl) ?_
  refine v_iald C k_8 rfl h1 dX5_drive_5 ?_
  refine v_iload_n C dX5_drive_6 rfl (lv_at hl 2 rfl) ?_
  refine v_icmp_ne (tgt := 11) C dX5_drive_7 (by decide) (fun c_1 => ?_) (fun c_1 => ?_)
  · refine v_aload_n C dX5_drive_11 rfl (lv_at hl 0 rfl) ?_
    refine v_getR C iX5_drive_X5 k_6 rfl rfl (j := 0) rfl (by decide) rfl (C.w 1 rfl) dX5_drive_12 ?_
    refine v_iload_n C dX5_drive_15 rfl (lv_at hl 1 rfl) ?_
    refine v_iload_n C dX5_drive_16 rfl (lv_at hl 2 rfl) ?_
    refine v_iast C k_8 rfl h1 dX5_drive_17 ?_
    refine v_aload_n C dX5_drive_18 rfl (lv_at hl 0 rfl) ?_
    refine v_getR C iX5_drive_X5 k_6 rfl rfl (j := 1) rfl (by decide) rfl (C.w 2 rfl) dX5_drive_19 ?_
    refine v_aload_n C dX5_drive_22 rfl (lv_at hl 0 rfl) ?_
    refine v_getI C iX5_drive_X5 k_6 rfl rfl (j := 5) rfl (by decide) rfl (C.w 3 rfl) dX5_drive_23 ?_
    refine v_iload_n C dX5_drive_26 rfl (lv_at hl 3 rfl) ?_
    refine v_iast C k_9 rfl hn dX5_drive_27 ?_
    refine v_aload_n C dX5_drive_28 rfl (lv_at hl 0 rfl) ?_
    refine v_getR C iX5_drive_X5 k_6 rfl rfl (j := 2) rfl (by decide) rfl (C.w 4 rfl) dX5_drive_29 ?_
    refine v_aload_n C dX5_drive_32 rfl (lv_at hl 0 rfl) ?_
    refine v_getI C iX5_drive_X5 k_6 rfl rfl (j := 5) rfl (by decide) rfl (C.w 3 rfl) dX5_drive_33 ?_
    refine v_iload_n C dX5_drive_36 rfl (lv_at hl 1 rfl) ?_
    refine v_iast C k_10 rfl hn dX5_drive_37 ?_
    refine v_aload_n C dX5_drive_38 rfl (lv_at hl 0 rfl) ?_
    refine v_getR C iX5_drive_X5 k_6 rfl rfl (j := 3) rfl (by decide) rfl (C.w 5 rfl) dX5_drive_39 ?_
    refine v_aload_n C dX5_drive_42 rfl (lv_at hl 0 rfl) ?_
    refine v_getI C iX5_drive_X5 k_6 rfl rfl (j := 5) rfl (by decide) rfl (C.w 3 rfl) dX5_drive_43 ?_
    refine v_iload_n C dX5_drive_46 rfl (lv_at hl 2 rfl) ?_
    refine v_iast C k_11 rfl hn dX5_drive_47 ?_
    refine v_aload_n C dX5_drive_48 rfl (lv_at hl 0 rfl) ?_
    refine v_aload_n C dX5_drive_49 rfl (lv_at hl 0 rfl) ?_
    refine v_getI C iX5_drive_X5 k_6 rfl rfl (j := 5) rfl (by decide) rfl (C.w 3 rfl) dX5_drive_50 ?_
    refine v_iconst (v := 1) C dX5_drive_53 (by decide) ?_
    refine v_iadd C dX5_drive_54 ?_
    refine v_bipush (v := 24) C dX5_drive_55 (by decide) ?_
    refine v_irem C dX5_drive_57 (by decide) ?_
    refine v_put C iX5_drive_X5 tyX5 tyX5_ok nmX5 k_6 rfl rfl (j := 5) rfl (by decide) rfl (C.w 3 rfl) rfl rfl rfl dX5_drive_58 ?_
    refine v_aload_n C dX5_drive_61 rfl (lv_at hl 0 rfl) ?_
    refine v_aload_n C dX5_drive_62 rfl (lv_at hl 0 rfl) ?_
    refine v_getI C iX5_drive_X5 k_6 rfl rfl (j := 4) rfl (by decide) rfl (C.w 6 rfl) dX5_drive_63 ?_
    refine v_iconst (v := 1) C dX5_drive_66 (by decide) ?_
    refine v_iadd C dX5_drive_67 ?_
    refine v_bipush (v := 24) C dX5_drive_68 (by decide) ?_
    refine v_min C (C.w 7 rfl) (C.w 8 rfl) (C.w 9 rfl) (C.w 10 rfl) hl.1 (Nat.le_of_ble_eq_true rfl) (Nat.le_of_ble_eq_true rfl) ⟨Nat.le_of_ble_eq_true rfl, Nat.le_of_ble_eq_true rfl⟩ dX5_drive_70 ?_
    refine v_put C iX5_drive_X5 tyX5 tyX5_ok nmX5 k_6 rfl rfl (j := 4) rfl (by decide) rfl (C.w 6 rfl) rfl rfl rfl dX5_drive_73 ?_
    exact hret _ _ _ (Eq.symm ((if_neg c_1).trans rfl)) dX5_drive_76
  · exact hret _ _ _ (Eq.symm ((if_pos c_1).trans rfl)) dX5_drive_10
theorem X5_drive_s_fr (a1 : Int32) (a2 : Int32) (a3 : Int32) (t : ct_St) {r : Nat} (h6 : r ≠ 6) (h8 : r ≠ 8) (h9 : r ≠ 9) (h10 : r ≠ 10) (h11 : r ≠ 11) : X5_drive_s a1 a2 a3 t r = t r := by
  dsimp only [X5_drive_s]
  (repeat' split) <;> simp only [us_ne, ur_ne, h6, h8, h9, h10, h11, ne_eq, not_false_eq_true]
theorem iX5_tell_X5 : ∀ w ∈ wsX50, w ∈ wsX5_tell := fun _ h => (List.mem_cons_of_mem _ (List.mem_append_right _ h))
theorem tell_in {n k : Int32} (hn : vp_in n 24) (hk : vp_in k 24) : vp_in ((n + 24 - 1 - k) - (n + 24 - 1 - k) / 24 * 24) 24 := by
  obtain ⟨i, hi, rfl⟩ := vp_in_of hn (by decide)
  obtain ⟨j, hj, rfl⟩ := vp_in_of hk (by decide)
  have e1 : nI i + 24 - 1 - nI j = nI (i + 24 - 1 - j) := by
    rw [show nI i + 24 = nI (i + 24) from nI_add i 24, show nI (i + 24) - 1 = nI (i + 24 - 1) from pk_sub (b := 1) (by omega), pk_sub (by omega)]
  rw [e1, show nI (i + 24 - 1 - j) - nI (i + 24 - 1 - j) / 24 * 24 = nI ((i + 24 - 1 - j) % 24) from pk_rem (d := 24) (by omega) (by decide) (by decide)]
  exact vp_in_nI (Nat.mod_lt _ (by decide)) (by decide)
theorem hv_X5_tell : yX5_tell.cls = RX5 ∧ yX5_tell.cls ≠ "java/lang/invoke/MethodHandle" ∧ yX5_tell.cls ≠ "java/lang/invoke/VarHandle" ∧ (parseMethodDescriptor yX5_tell.desc).map (fun d => d.parameters.length) = some 2 := by decide +kernel
def X5_tell_r (a1 : Int32) (a2 : Int32) (t : ct_St) : Int32 :=
  if X7_within_r a2 0 2 = 0 then
    (-2)
  else
    if a1 < t 6 4 then
      let x1 := ((((t 6 5) + 24) - 1) - a1) - ((((t 6 5) + 24) - 1) - a1) / 24 * 24
      if a2 = 0 then
        t 9 (ix x1)
      else
        if a2 = 1 then
          t 10 (ix x1)
        else
          t 11 (ix x1)
    else
      (-9)
set_option maxHeartbeats 4000000 in
set_option maxRecDepth 100000 in
theorem c_X5_tell (l : Launch) (g : ct_G) (t : ct_St) (a1 : Int32) (a2 : Int32) (h1 : vp_in a1 24) (hn : vp_in (t 6 5) 24) : MI l g shG yX5_tell wsX5_tell (rmd 1) [.ref (g.2.1 6), .int a1, .int a2] t (X5_tell_r a1 a2 t) t := by
  refine MI.of (own := RX5) (cc := cX5_tell) (maxL := 4) rfl (by decide) rfl (Nat.le_of_ble_eq_true rfl) (fun p e s m args below meth cd A Q C hret ls hl => ?_)
  have hl : lv_has ls 4 [(0, .ref (g.2.1 6)), (1, .int a1), (2, .int a2)] := hl
  refine v_iload_n C dX5_tell_0 rfl (lv_at hl 2 rfl) ?_
  refine v_iconst (v := 0) C dX5_tell_1 (by decide) ?_
  refine v_iconst (v := 2) C dX5_tell_2 (by decide) ?_
  refine v_ncalli C (c_X7_within l g _ _ _ _) ⟨va_cnB 3 C.2.2.2.2.1 ggX5_tell_X7_within rfl rfl rfl C.2.2.2.2.2.2.2 (C.w 7 rfl) hs_X7_within ⟨Nat.le_of_ble_eq_true rfl, Nat.le_of_ble_eq_true rfl⟩, C.w 6 rfl, trivial⟩ rfl hl.1 rfl (Nat.le_of_ble_eq_true rfl) dX5_tell_3 ⟨Nat.le_refl _, Nat.le_refl _⟩ ?_
  refine v_if_ne (tgt := 12) C dX5_tell_6 (by decide) (fun c_1 => ?_) (fun c_1 => ?_)
  · refine v_iload_n C dX5_tell_12 rfl (lv_at hl 1 rfl) ?_
    refine v_aload_n C dX5_tell_13 rfl (lv_at hl 0 rfl) ?_
    refine v_getI C iX5_tell_X5 k_6 rfl rfl (j := 4) rfl (by decide) rfl (C.w 1 rfl) dX5_tell_14 ?_
    refine v_icmp_lt (tgt := 23) C dX5_tell_17 (by decide) (fun c_2 => ?_) (fun c_2 => ?_)
    · refine v_aload_n C dX5_tell_23 rfl (lv_at hl 0 rfl) ?_
      refine v_getI C iX5_tell_X5 k_6 rfl rfl (j := 5) rfl (by decide) rfl (C.w 2 rfl) dX5_tell_24 ?_
      refine v_bipush (v := 24) C dX5_tell_27 (by decide) ?_
      refine v_iadd C dX5_tell_29 ?_
      refine v_iconst (v := 1) C dX5_tell_30 (by decide) ?_
      refine v_isub C dX5_tell_31 ?_
      refine v_iload_n C dX5_tell_32 rfl (lv_at hl 1 rfl) ?_
      refine v_isub C dX5_tell_33 ?_
      refine v_bipush (v := 24) C dX5_tell_34 (by decide) ?_
      refine v_irem C dX5_tell_36 (by decide) ?_
      refine v_istore_n (lv' := [(3, _), (0, _), (1, _), (2, _)]) C dX5_tell_37 rfl hl (by decide) rfl (fun ls hl => ?_)
      refine v_iload_n C dX5_tell_38 rfl (lv_at hl 3 rfl) ?_
      refine v_if_ne (tgt := 49) C dX5_tell_39 (by decide) (fun c_3 => ?_) (fun c_3 => ?_)
      · refine v_iload_n C dX5_tell_49 rfl (lv_at hl 3 rfl) ?_
        refine v_iconst (v := 1) C dX5_tell_50 (by decide) ?_
        refine v_icmp_ne (tgt := 63) C dX5_tell_51 (by decide) (fun c_4 => ?_) (fun c_4 => ?_)
        · refine v_aload_n C dX5_tell_63 rfl (lv_at hl 1 rfl) ?_
          refine v_getR C iX5_tell_X5 k_6 rfl rfl (j := 3) rfl (by decide) rfl (C.w 5 rfl) dX5_tell_64 ?_
          refine v_iload_n C dX5_tell_67 rfl (lv_at hl 0 rfl) ?_
          refine v_iald C k_11 rfl (tell_in hn h1) dX5_tell_68 ?_
          exact hret _ _ _ _ (Eq.symm ((if_neg c_1).trans ((if_pos c_2).trans ((if_neg c_3).trans ((if_neg c_4).trans rfl))))) rfl dX5_tell_69
        · refine v_aload_n C dX5_tell_54 rfl (lv_at hl 1 rfl) ?_
          refine v_getR C iX5_tell_X5 k_6 rfl rfl (j := 2) rfl (by decide) rfl (C.w 4 rfl) dX5_tell_55 ?_
          refine v_iload_n C dX5_tell_58 rfl (lv_at hl 0 rfl) ?_
          refine v_iald C k_10 rfl (tell_in hn h1) dX5_tell_59 ?_
          refine v_goto (tgt := 69) C dX5_tell_60 (by decide) ?_
          exact hret _ _ _ _ (Eq.symm ((if_neg c_1).trans ((if_pos c_2).trans ((if_neg c_3).trans ((if_pos c_4).trans rfl))))) rfl dX5_tell_69
      · refine v_aload_n C dX5_tell_42 rfl (lv_at hl 1 rfl) ?_
        refine v_getR C iX5_tell_X5 k_6 rfl rfl (j := 1) rfl (by decide) rfl (C.w 3 rfl) dX5_tell_43 ?_
        refine v_iload_n C dX5_tell_46 rfl (lv_at hl 0 rfl) ?_
        refine v_iald C k_9 rfl (tell_in hn h1) dX5_tell_47 ?_
        exact hret _ _ _ _ (Eq.symm ((if_neg c_1).trans ((if_pos c_2).trans ((if_pos c_3).trans rfl)))) rfl dX5_tell_48
    · refine v_bipush (v := (-9)) C dX5_tell_20 (by decide) ?_
      exact hret _ _ _ _ (Eq.symm ((if_neg c_1).trans ((if_neg c_2).trans rfl))) rfl dX5_tell_22
  · refine v_bipush (v := (-2)) C dX5_tell_9 (by decide) ?_
    exact hret _ _ _ _ (Eq.symm ((if_pos c_1).trans rfl)) rfl dX5_tell_11
theorem hs_J6_bitCount_0f7a4 : yJ6_bitCount_0f7a4.cls ≠ "java/lang/invoke/MethodHandle" ∧ yJ6_bitCount_0f7a4.cls ≠ "java/lang/invoke/VarHandle" ∧ (parseMethodDescriptor yJ6_bitCount_0f7a4.desc).map (fun d => d.parameters.length) = some 1 := by decide +kernel
def J6_bitCount_0f7a4_r (a1 : Int32) : Int32 :=
  let x1 := a1 - (((a1.toUInt32 >>> ((1 : Int32).toUInt32 &&& Int32.toUInt32 31)).toInt32) &&& 1431655765)
  let x2 := (x1 &&& 858993459) + (((x1.toUInt32 >>> ((2 : Int32).toUInt32 &&& Int32.toUInt32 31)).toInt32) &&& 858993459)
  let x3 := (x2 + ((x2.toUInt32 >>> ((4 : Int32).toUInt32 &&& Int32.toUInt32 31)).toInt32)) &&& 252645135
  let x4 := x3 + ((x3.toUInt32 >>> ((8 : Int32).toUInt32 &&& Int32.toUInt32 31)).toInt32)
  let x5 := x4 + ((x4.toUInt32 >>> ((16 : Int32).toUInt32 &&& Int32.toUInt32 31)).toInt32)
  x5 &&& 63
set_option maxHeartbeats 4000000 in
set_option maxRecDepth 100000 in
theorem c_J6_bitCount_0f7a4 (l : Launch) (g : ct_G) (t : ct_St) (a1 : Int32) : MI l g shG yJ6_bitCount_0f7a4 wsJ6_bitCount_0f7a4 (rmd 0) [.int a1] t (J6_bitCount_0f7a4_r a1) t := by
  refine MI.of (own := RJ6) (cc := cJ6_bitCount_0f7a4) (maxL := 1) rfl (by decide) rfl (Nat.le_of_ble_eq_true rfl) (fun p e s m args below meth cd A Q C hret ls hl => ?_)
  have hl : lv_has ls 1 [(0, .int a1)] := hl
  refine v_iload_n C dJ6_bitCount_0f7a4_0 rfl (lv_at hl 0 rfl) ?_
  refine v_iload_n C dJ6_bitCount_0f7a4_1 rfl (lv_at hl 0 rfl) ?_
  refine v_iconst (v := 1) C dJ6_bitCount_0f7a4_2 (by decide) ?_
  refine v_iushr C dJ6_bitCount_0f7a4_3 rfl ?_
  refine v_ldcw C (C.w 1 rfl) dJ6_bitCount_0f7a4_4 ?_
  refine v_iand C dJ6_bitCount_0f7a4_7 ?_
  refine v_isub C dJ6_bitCount_0f7a4_8 ?_
  refine v_istore_n (lv' := [(0, _)]) C dJ6_bitCount_0f7a4_9 rfl hl (by decide) rfl (fun ls hl => ?_)
  refine v_iload_n C dJ6_bitCount_0f7a4_10 rfl (lv_at hl 0 rfl) ?_
  refine v_ldcw C (C.w 2 rfl) dJ6_bitCount_0f7a4_11 ?_
  refine v_iand C dJ6_bitCount_0f7a4_14 ?_
  refine v_iload_n C dJ6_bitCount_0f7a4_15 rfl (lv_at hl 0 rfl) ?_
  refine v_iconst (v := 2) C dJ6_bitCount_0f7a4_16 (by decide) ?_
  refine v_iushr C dJ6_bitCount_0f7a4_17 rfl ?_
  refine v_ldcw C (C.w 2 rfl) dJ6_bitCount_0f7a4_18 ?_
  refine v_iand C dJ6_bitCount_0f7a4_21 ?_
  refine v_iadd C dJ6_bitCount_0f7a4_22 ?_
  refine v_istore_n (lv' := [(0, _)]) C dJ6_bitCount_0f7a4_23 rfl hl (by decide) rfl (fun ls hl => ?_)
  refine v_iload_n C dJ6_bitCount_0f7a4_24 rfl (lv_at hl 0 rfl) ?_
  refine v_iload_n C dJ6_bitCount_0f7a4_25 rfl (lv_at hl 0 rfl) ?_
  refine v_iconst (v := 4) C dJ6_bitCount_0f7a4_26 (by decide) ?_
  refine v_iushr C dJ6_bitCount_0f7a4_27 rfl ?_
  refine v_iadd C dJ6_bitCount_0f7a4_28 ?_
  refine v_ldcw C (C.w 3 rfl) dJ6_bitCount_0f7a4_29 ?_
  refine v_iand C dJ6_bitCount_0f7a4_32 ?_
  refine v_istore_n (lv' := [(0, _)]) C dJ6_bitCount_0f7a4_33 rfl hl (by decide) rfl (fun ls hl => ?_)
  refine v_iload_n C dJ6_bitCount_0f7a4_34 rfl (lv_at hl 0 rfl) ?_
  refine v_iload_n C dJ6_bitCount_0f7a4_35 rfl (lv_at hl 0 rfl) ?_
  refine v_bipush (v := 8) C dJ6_bitCount_0f7a4_36 (by decide) ?_
  refine v_iushr C dJ6_bitCount_0f7a4_38 rfl ?_
  refine v_iadd C dJ6_bitCount_0f7a4_39 ?_
  refine v_istore_n (lv' := [(0, _)]) C dJ6_bitCount_0f7a4_40 rfl hl (by decide) rfl (fun ls hl => ?_)
  refine v_iload_n C dJ6_bitCount_0f7a4_41 rfl (lv_at hl 0 rfl) ?_
  refine v_iload_n C dJ6_bitCount_0f7a4_42 rfl (lv_at hl 0 rfl) ?_
  refine v_bipush (v := 16) C dJ6_bitCount_0f7a4_43 (by decide) ?_
  refine v_iushr C dJ6_bitCount_0f7a4_45 rfl ?_
  refine v_iadd C dJ6_bitCount_0f7a4_46 ?_
  refine v_istore_n (lv' := [(0, _)]) C dJ6_bitCount_0f7a4_47 rfl hl (by decide) rfl (fun ls hl => ?_)
  refine v_iload_n C dJ6_bitCount_0f7a4_48 rfl (lv_at hl 0 rfl) ?_
  refine v_bipush (v := 63) C dJ6_bitCount_0f7a4_49 (by decide) ?_
  refine v_iand C dJ6_bitCount_0f7a4_51 ?_
  exact hret _ _ _ _ rfl rfl dJ6_bitCount_0f7a4_52
theorem iX7_counter_X7 : ∀ w ∈ wsX70, w ∈ wsX7_counter := fun _ h => (List.mem_cons_of_mem _ (List.mem_append_left _ (List.mem_append_right _ h)))
theorem hv_X7_counter : yX7_counter.cls = RX7 ∧ yX7_counter.cls ≠ "java/lang/invoke/MethodHandle" ∧ yX7_counter.cls ≠ "java/lang/invoke/VarHandle" ∧ (parseMethodDescriptor yX7_counter.desc).map (fun d => d.parameters.length) = some 4 := by decide +kernel
def X7_counter_r (a1 : Int32) (a2 : Int32) (a3 : Int32) (a4 : Int32) : Int32 :=
  if X7_isOneOf_r 4 a1 = 0 then
    (-1)
  else
    if X7_within_r a2 0 2 = 0 then
      (-2)
    else
      if X7_within_r a3 1 9999 = 0 then
        (-2)
      else
        if X7_within_r a4 1 64 = 0 then
          (-2)
        else
          1
def X7_counter_s (a1 : Int32) (a2 : Int32) (a3 : Int32) (a4 : Int32) (t : ct_St) : ct_St :=
  if X7_isOneOf_r 4 a1 = 0 then
    t
  else
    if X7_within_r a2 0 2 = 0 then
      t
    else
      if X7_within_r a3 1 9999 = 0 then
        t
      else
        if X7_within_r a4 1 64 = 0 then
          t
        else
          let t1 := ur t (12 + ix a1) (X2_setUp_s a2 a3 a4 (t (12 + ix a1)))
          t1
set_option maxHeartbeats 4000000 in
set_option maxRecDepth 100000 in
theorem c_X7_counter (l : Launch) (g : ct_G) (t : ct_St) (a1 : Int32) (a2 : Int32) (a3 : Int32) (a4 : Int32) : MI l g shG yX7_counter wsX7_counter (rmd 1) [.ref (g.2.1 0), .int a1, .int a2, .int a3, .int a4] t (X7_counter_r a1 a2 a3 a4) (X7_counter_s a1 a2 a3 a4 t) := by
  refine MI.of (own := RX7) (cc := cX7_counter) (maxL := 5) rfl (by decide) rfl (Nat.le_of_ble_eq_true rfl) (fun p e s m args below meth cd A Q C hret ls hl => ?_)
  have hl : lv_has ls 5 [(0, .ref (g.2.1 0)), (1, .int a1), (2, .int a2), (3, .int a3), (4, .int a4)] := hl
  refine v_iconst (v := 4) C dX7_counter_0 (by decide) ?_
  refine v_iload_n C dX7_counter_1 rfl (lv_at hl 1 rfl) ?_
  refine v_scalli C (c_X7_isOneOf l g _ _ _) (va_cwS 2 C.2.2.2.2.1 gX7_counter_X7_isOneOf rfl rfl rfl hs_X7_isOneOf ⟨Nat.le_of_ble_eq_true rfl, Nat.le_of_ble_eq_true rfl⟩) rfl hl.1 rfl (Nat.le_of_ble_eq_true rfl) dX7_counter_2 ⟨Nat.le_refl _, Nat.le_refl _⟩ ?_
  refine v_if_ne (tgt := 10) C dX7_counter_5 (by decide) (fun c_1 => ?_) (fun c_1 => ?_)
  · refine v_iload_n C dX7_counter_10 rfl (lv_at hl 2 rfl) ?_
    refine v_iconst (v := 0) C dX7_counter_11 (by decide) ?_
    refine v_iconst (v := 2) C dX7_counter_12 (by decide) ?_
    refine v_scalli C (c_X7_within l g _ _ _ _) (va_cwS 3 C.2.2.2.2.1 gX7_counter_X7_within rfl rfl rfl hs_X7_within ⟨Nat.le_of_ble_eq_true rfl, Nat.le_of_ble_eq_true rfl⟩) rfl hl.1 rfl (Nat.le_of_ble_eq_true rfl) dX7_counter_13 ⟨Nat.le_refl _, Nat.le_refl _⟩ ?_
    refine v_if_eq (tgt := 41) C dX7_counter_16 (by decide) (fun c_2 => ?_) (fun c_2 => ?_)
    · refine v_bipush (v := (-2)) C dX7_counter_41 (by decide) ?_
      exact hret _ _ _ _ (Eq.symm ((if_neg c_1).trans ((if_pos c_2).trans rfl))) (Eq.symm ((if_neg c_1).trans ((if_pos c_2).trans rfl))) dX7_counter_43
    · refine v_iload_n C dX7_counter_19 rfl (lv_at hl 3 rfl) ?_
      refine v_iconst (v := 1) C dX7_counter_20 (by decide) ?_
      refine v_sipush (v := 9999) C dX7_counter_21 (by decide) ?_
      refine v_scalli C (c_X7_within l g _ _ _ _) (va_cwS 3 C.2.2.2.2.1 gX7_counter_X7_within rfl rfl rfl hs_X7_within ⟨Nat.le_of_ble_eq_true rfl, Nat.le_of_ble_eq_true rfl⟩) rfl hl.1 rfl (Nat.le_of_ble_eq_true rfl) dX7_counter_24 ⟨Nat.le_refl _, Nat.le_refl _⟩ ?_
      refine v_if_eq (tgt := 41) C dX7_counter_27 (by decide) (fun c_3 => ?_) (fun c_3 => ?_)
      · refine v_bipush (v := (-2)) C dX7_counter_41 (by decide) ?_
        exact hret _ _ _ _ (Eq.symm ((if_neg c_1).trans ((if_neg c_2).trans ((if_pos c_3).trans rfl)))) (Eq.symm ((if_neg c_1).trans ((if_neg c_2).trans ((if_pos c_3).trans rfl)))) dX7_counter_43
      · refine v_iload C dX7_counter_30 (lv_at hl 4 rfl) ?_
        refine v_iconst (v := 1) C dX7_counter_32 (by decide) ?_
        refine v_bipush (v := 64) C dX7_counter_33 (by decide) ?_
        refine v_scalli C (c_X7_within l g _ _ _ _) (va_cwS 3 C.2.2.2.2.1 gX7_counter_X7_within rfl rfl rfl hs_X7_within ⟨Nat.le_of_ble_eq_true rfl, Nat.le_of_ble_eq_true rfl⟩) rfl hl.1 rfl (Nat.le_of_ble_eq_true rfl) dX7_counter_35 ⟨Nat.le_refl _, Nat.le_refl _⟩ ?_
        refine v_if_ne (tgt := 44) C dX7_counter_38 (by decide) (fun c_4 => ?_) (fun c_4 => ?_)
        · refine v_aload_n C dX7_counter_44 rfl (lv_at hl 0 rfl) ?_
          refine v_getR C iX7_counter_X7 k_0 rfl rfl (j := 0) rfl (by decide) rfl (C.w 1 rfl) dX7_counter_45 ?_
          refine v_iload_n C dX7_counter_48 rfl (lv_at hl 1 rfl) ?_
          refine v_aald C k_1 rfl rfl (isOneOf4_in c_1) (q_cnt (vp_lt (isOneOf4_in c_1))) dX7_counter_49 ?_
          refine v_iload_n C dX7_counter_50 rfl (lv_at hl 2 rfl) ?_
          refine v_iload_n C dX7_counter_51 rfl (lv_at hl 3 rfl) ?_
          refine v_iload C dX7_counter_52 (lv_at hl 4 rfl) ?_
          refine v_callv C (MV.un (c_X2_setUp l g _ _ (k_cnt (vp_lt (isOneOf4_in c_1))) _ _ _ _)) (cwV 3 C.2.2.2.2.1 gX7_counter_X2_setUp rfl rfl rfl hv_X2_setUp ⟨Nat.le_of_ble_eq_true rfl, Nat.le_of_ble_eq_true rfl⟩) (k_cnt (vp_lt (isOneOf4_in c_1))) rfl rfl rfl rfl hl.1 rfl (Nat.le_of_ble_eq_true rfl) dX7_counter_54 ⟨Nat.le_refl _, Nat.le_refl _⟩ ?_
          refine v_iconst (v := 1) C dX7_counter_57 (by decide) ?_
          exact hret _ _ _ _ (Eq.symm ((if_neg c_1).trans ((if_neg c_2).trans ((if_neg c_3).trans ((if_neg c_4).trans rfl))))) (Eq.symm ((if_neg c_1).trans ((if_neg c_2).trans ((if_neg c_3).trans ((if_neg c_4).trans rfl))))) dX7_counter_58
        · refine v_bipush (v := (-2)) C dX7_counter_41 (by decide) ?_
          exact hret _ _ _ _ (Eq.symm ((if_neg c_1).trans ((if_neg c_2).trans ((if_neg c_3).trans ((if_pos c_4).trans rfl))))) (Eq.symm ((if_neg c_1).trans ((if_neg c_2).trans ((if_neg c_3).trans ((if_pos c_4).trans rfl))))) dX7_counter_43
  · refine v_iconst (v := (-1)) C dX7_counter_8 (by decide) ?_
    exact hret _ _ _ _ (Eq.symm ((if_pos c_1).trans rfl)) (Eq.symm ((if_pos c_1).trans rfl)) dX7_counter_9
-- no frame of X7_counter_s: ['12 + ix a1']
theorem iX7_source_X7 : ∀ w ∈ wsX70, w ∈ wsX7_source := fun _ h => (List.mem_cons_of_mem _ (List.mem_append_left _ (List.mem_append_right _ h)))
theorem iX7_source_X2 : ∀ w ∈ wsX20, w ∈ wsX7_source := fun _ h => (List.mem_cons_of_mem _ (List.mem_append_right _ h))
theorem hv_X7_source : yX7_source.cls = RX7 ∧ yX7_source.cls ≠ "java/lang/invoke/MethodHandle" ∧ yX7_source.cls ≠ "java/lang/invoke/VarHandle" ∧ (parseMethodDescriptor yX7_source.desc).map (fun d => d.parameters.length) = some 2 := by decide +kernel
def X7_source_r (a1 : Int32) (a2 : Int32) (t : ct_St) : Int32 :=
  if X7_isOneOf_r 4 a1 = 0 then
    (-1)
  else
    if X7_within_r a2 0 3 = 0 then
      (-2)
    else
      if a2 = 2 then
        if a1 = 0 then
          (-3)
        else
          let x3 := t (12 + ix a1) 3
          x3
      else
        let x1 := t (12 + ix a1) 3
        x1
def X7_source_s (a1 : Int32) (a2 : Int32) (t : ct_St) : ct_St :=
  if X7_isOneOf_r 4 a1 = 0 then
    t
  else
    if X7_within_r a2 0 3 = 0 then
      t
    else
      if a2 = 2 then
        if a1 = 0 then
          t
        else
          let t4 := us t (12 + ix a1) 3 a2
          t4
      else
        let t2 := us t (12 + ix a1) 3 a2
        t2
set_option maxHeartbeats 4000000 in
set_option maxRecDepth 100000 in
theorem c_X7_source (l : Launch) (g : ct_G) (t : ct_St) (a1 : Int32) (a2 : Int32) : MI l g shG yX7_source wsX7_source (rmd 1) [.ref (g.2.1 0), .int a1, .int a2] t (X7_source_r a1 a2 t) (X7_source_s a1 a2 t) := by
  refine MI.of (own := RX7) (cc := cX7_source) (maxL := 4) rfl (by decide) rfl (Nat.le_of_ble_eq_true rfl) (fun p e s m args below meth cd A Q C hret ls hl => ?_)
  have hl : lv_has ls 4 [(0, .ref (g.2.1 0)), (1, .int a1), (2, .int a2)] := hl
  refine v_iconst (v := 4) C dX7_source_0 (by decide) ?_
  refine v_iload_n C dX7_source_1 rfl (lv_at hl 1 rfl) ?_
  refine v_scalli C (c_X7_isOneOf l g _ _ _) (va_cwS 2 C.2.2.2.2.1 gX7_source_X7_isOneOf rfl rfl rfl hs_X7_isOneOf ⟨Nat.le_of_ble_eq_true rfl, Nat.le_of_ble_eq_true rfl⟩) rfl hl.1 rfl (Nat.le_of_ble_eq_true rfl) dX7_source_2 ⟨Nat.le_refl _, Nat.le_refl _⟩ ?_
  refine v_if_ne (tgt := 10) C dX7_source_5 (by decide) (fun c_1 => ?_) (fun c_1 => ?_)
  · refine v_iload_n C dX7_source_10 rfl (lv_at hl 2 rfl) ?_
    refine v_iconst (v := 0) C dX7_source_11 (by decide) ?_
    refine v_iconst (v := 3) C dX7_source_12 (by decide) ?_
    refine v_scalli C (c_X7_within l g _ _ _ _) (va_cwS 3 C.2.2.2.2.1 gX7_source_X7_within rfl rfl rfl hs_X7_within ⟨Nat.le_of_ble_eq_true rfl, Nat.le_of_ble_eq_true rfl⟩) rfl hl.1 rfl (Nat.le_of_ble_eq_true rfl) dX7_source_13 ⟨Nat.le_refl _, Nat.le_refl _⟩ ?_
    refine v_if_ne (tgt := 22) C dX7_source_16 (by decide) (fun c_2 => ?_) (fun c_2 => ?_)
    · refine v_iload_n C dX7_source_22 rfl (lv_at hl 2 rfl) ?_
      refine v_iconst (v := 2) C dX7_source_23 (by decide) ?_
      refine v_icmp_ne (tgt := 34) C dX7_source_24 (by decide) (fun c_3 => ?_) (fun c_3 => ?_)
      · refine v_aload_n C dX7_source_34 rfl (lv_at hl 0 rfl) ?_
        refine v_getR C iX7_source_X7 k_0 rfl rfl (j := 0) rfl (by decide) rfl (C.w 1 rfl) dX7_source_35 ?_
        refine v_iload_n C dX7_source_38 rfl (lv_at hl 1 rfl) ?_
        refine v_aald C k_1 rfl rfl (isOneOf4_in c_1) (q_cnt (vp_lt (isOneOf4_in c_1))) dX7_source_39 ?_
        refine v_getI C iX7_source_X2 (k_cnt (vp_lt (isOneOf4_in c_1))) rfl rfl (j := 3) rfl (by decide) rfl (C.w 2 rfl) dX7_source_40 ?_
        refine v_istore_n (lv' := [(3, _), (0, _), (1, _), (2, _)]) C dX7_source_43 rfl hl (by decide) rfl (fun ls hl => ?_)
        refine v_aload_n C dX7_source_44 rfl (lv_at hl 1 rfl) ?_
        refine v_getR C iX7_source_X7 k_0 rfl rfl (j := 0) rfl (by decide) rfl (C.w 1 rfl) dX7_source_45 ?_
        refine v_iload_n C dX7_source_48 rfl (lv_at hl 2 rfl) ?_
        refine v_aald C k_1 rfl rfl (isOneOf4_in c_1) (q_cnt (vp_lt (isOneOf4_in c_1))) dX7_source_49 ?_
        refine v_iload_n C dX7_source_50 rfl (lv_at hl 3 rfl) ?_
        refine v_put C iX7_source_X2 tyX2 tyX2_ok nmX2 (k_cnt (vp_lt (isOneOf4_in c_1))) rfl rfl (j := 3) rfl (by decide) rfl (C.w 2 rfl) rfl rfl rfl dX7_source_51 ?_
        refine v_iload_n C dX7_source_54 rfl (lv_at hl 0 rfl) ?_
        exact hret _ _ _ _ (Eq.symm ((if_neg c_1).trans ((if_neg c_2).trans ((if_neg c_3).trans rfl)))) (Eq.symm ((if_neg c_1).trans ((if_neg c_2).trans ((if_neg c_3).trans rfl)))) dX7_source_55
      · refine v_iload_n C dX7_source_27 rfl (lv_at hl 1 rfl) ?_
        refine v_if_ne (tgt := 34) C dX7_source_28 (by decide) (fun c_4 => ?_) (fun c_4 => ?_)
        · refine v_aload_n C dX7_source_34 rfl (lv_at hl 0 rfl) ?_
          refine v_getR C iX7_source_X7 k_0 rfl rfl (j := 0) rfl (by decide) rfl (C.w 1 rfl) dX7_source_35 ?_
          refine v_iload_n C dX7_source_38 rfl (lv_at hl 1 rfl) ?_
          refine v_aald C k_1 rfl rfl (isOneOf4_in c_1) (q_cnt (vp_lt (isOneOf4_in c_1))) dX7_source_39 ?_
          refine v_getI C iX7_source_X2 (k_cnt (vp_lt (isOneOf4_in c_1))) rfl rfl (j := 3) rfl (by decide) rfl (C.w 2 rfl) dX7_source_40 ?_
          refine v_istore_n (lv' := [(3, _), (0, _), (1, _), (2, _)]) C dX7_source_43 rfl hl (by decide) rfl (fun ls hl => ?_)
          refine v_aload_n C dX7_source_44 rfl (lv_at hl 1 rfl) ?_
          refine v_getR C iX7_source_X7 k_0 rfl rfl (j := 0) rfl (by decide) rfl (C.w 1 rfl) dX7_source_45 ?_
          refine v_iload_n C dX7_source_48 rfl (lv_at hl 2 rfl) ?_
          refine v_aald C k_1 rfl rfl (isOneOf4_in c_1) (q_cnt (vp_lt (isOneOf4_in c_1))) dX7_source_49 ?_
          refine v_iload_n C dX7_source_50 rfl (lv_at hl 3 rfl) ?_
          refine v_put C iX7_source_X2 tyX2 tyX2_ok nmX2 (k_cnt (vp_lt (isOneOf4_in c_1))) rfl rfl (j := 3) rfl (by decide) rfl (C.w 2 rfl) rfl rfl rfl dX7_source_51 ?_
          refine v_iload_n C dX7_source_54 rfl (lv_at hl 0 rfl) ?_
          exact hret _ _ _ _ (Eq.symm ((if_neg c_1).trans ((if_neg c_2).trans ((if_pos c_3).trans ((if_neg c_4).trans rfl))))) (Eq.symm ((if_neg c_1).trans ((if_neg c_2).trans ((if_pos c_3).trans ((if_neg c_4).trans rfl))))) dX7_source_55
        · refine v_bipush (v := (-3)) C dX7_source_31 (by decide) ?_
          exact hret _ _ _ _ (Eq.symm ((if_neg c_1).trans ((if_neg c_2).trans ((if_pos c_3).trans ((if_pos c_4).trans rfl))))) (Eq.symm ((if_neg c_1).trans ((if_neg c_2).trans ((if_pos c_3).trans ((if_pos c_4).trans rfl))))) dX7_source_33
    · refine v_bipush (v := (-2)) C dX7_source_19 (by decide) ?_
      exact hret _ _ _ _ (Eq.symm ((if_neg c_1).trans ((if_pos c_2).trans rfl))) (Eq.symm ((if_neg c_1).trans ((if_pos c_2).trans rfl))) dX7_source_21
  · refine v_iconst (v := (-1)) C dX7_source_8 (by decide) ?_
    exact hret _ _ _ _ (Eq.symm ((if_pos c_1).trans rfl)) (Eq.symm ((if_pos c_1).trans rfl)) dX7_source_9
-- no frame of X7_source_s: ['12 + ix a1']
theorem iX7_count_X7 : ∀ w ∈ wsX70, w ∈ wsX7_count := fun _ h => (List.mem_cons_of_mem _ (List.mem_append_left _ (List.mem_append_right _ h)))
theorem iX7_count_X2 : ∀ w ∈ wsX20, w ∈ wsX7_count := fun _ h => (List.mem_cons_of_mem _ (List.mem_append_right _ h))
theorem hv_X7_count : yX7_count.cls = RX7 ∧ yX7_count.cls ≠ "java/lang/invoke/MethodHandle" ∧ yX7_count.cls ≠ "java/lang/invoke/VarHandle" ∧ (parseMethodDescriptor yX7_count.desc).map (fun d => d.parameters.length) = some 2 := by decide +kernel
def X7_count_r (a1 : Int32) (a2 : Int32) (t : ct_St) : Int32 :=
  if X7_isOneOf_r 4 a1 = 0 then
    (-1)
  else
    if X7_within_r a2 0 (t (12 + ix a1) 1) = 0 then
      (-2)
    else
      let x1 := t (12 + ix a1) 4
      x1
def X7_count_s (a1 : Int32) (a2 : Int32) (t : ct_St) : ct_St :=
  if X7_isOneOf_r 4 a1 = 0 then
    t
  else
    if X7_within_r a2 0 (t (12 + ix a1) 1) = 0 then
      t
    else
      let t2 := us t (12 + ix a1) 4 a2
      t2
set_option maxHeartbeats 4000000 in
set_option maxRecDepth 100000 in
theorem c_X7_count (l : Launch) (g : ct_G) (t : ct_St) (a1 : Int32) (a2 : Int32) : MI l g shG yX7_count wsX7_count (rmd 1) [.ref (g.2.1 0), .int a1, .int a2] t (X7_count_r a1 a2 t) (X7_count_s a1 a2 t) := by
  refine MI.of (own := RX7) (cc := cX7_count) (maxL := 4) rfl (by decide) rfl (Nat.le_of_ble_eq_true rfl) (fun p e s m args below meth cd A Q C hret ls hl => ?_)
  have hl : lv_has ls 4 [(0, .ref (g.2.1 0)), (1, .int a1), (2, .int a2)] := hl
  refine v_iconst (v := 4) C dX7_count_0 (by decide) ?_
  refine v_iload_n C dX7_count_1 rfl (lv_at hl 1 rfl) ?_
  refine v_scalli C (c_X7_isOneOf l g _ _ _) (va_cwS 2 C.2.2.2.2.1 gX7_count_X7_isOneOf rfl rfl rfl hs_X7_isOneOf ⟨Nat.le_of_ble_eq_true rfl, Nat.le_of_ble_eq_true rfl⟩) rfl hl.1 rfl (Nat.le_of_ble_eq_true rfl) dX7_count_2 ⟨Nat.le_refl _, Nat.le_refl _⟩ ?_
  refine v_if_ne (tgt := 10) C dX7_count_5 (by decide) (fun c_1 => ?_) (fun c_1 => ?_)
  · refine v_iload_n C dX7_count_10 rfl (lv_at hl 2 rfl) ?_
    refine v_iconst (v := 0) C dX7_count_11 (by decide) ?_
    refine v_aload_n C dX7_count_12 rfl (lv_at hl 0 rfl) ?_
    refine v_getR C iX7_count_X7 k_0 rfl rfl (j := 0) rfl (by decide) rfl (C.w 1 rfl) dX7_count_13 ?_
    refine v_iload_n C dX7_count_16 rfl (lv_at hl 1 rfl) ?_
    refine v_aald C k_1 rfl rfl (isOneOf4_in c_1) (q_cnt (vp_lt (isOneOf4_in c_1))) dX7_count_17 ?_
    refine v_getI C iX7_count_X2 (k_cnt (vp_lt (isOneOf4_in c_1))) rfl rfl (j := 1) rfl (by decide) rfl (C.w 2 rfl) dX7_count_18 ?_
    refine v_scalli C (c_X7_within l g _ _ _ _) (va_cwS 3 C.2.2.2.2.1 gX7_count_X7_within rfl rfl rfl hs_X7_within ⟨Nat.le_of_ble_eq_true rfl, Nat.le_of_ble_eq_true rfl⟩) rfl hl.1 rfl (Nat.le_of_ble_eq_true rfl) dX7_count_21 ⟨Nat.le_refl _, Nat.le_refl _⟩ ?_
    refine v_if_ne (tgt := 30) C dX7_count_24 (by decide) (fun c_2 => ?_) (fun c_2 => ?_)
    · refine v_aload_n C dX7_count_30 rfl (lv_at hl 0 rfl) ?_
      refine v_getR C iX7_count_X7 k_0 rfl rfl (j := 0) rfl (by decide) rfl (C.w 1 rfl) dX7_count_31 ?_
      refine v_iload_n C dX7_count_34 rfl (lv_at hl 1 rfl) ?_
      refine v_aald C k_1 rfl rfl (isOneOf4_in c_1) (q_cnt (vp_lt (isOneOf4_in c_1))) dX7_count_35 ?_
      refine v_getI C iX7_count_X2 (k_cnt (vp_lt (isOneOf4_in c_1))) rfl rfl (j := 4) rfl (by decide) rfl (C.w 3 rfl) dX7_count_36 ?_
      refine v_istore_n (lv' := [(3, _), (0, _), (1, _), (2, _)]) C dX7_count_39 rfl hl (by decide) rfl (fun ls hl => ?_)
      refine v_aload_n C dX7_count_40 rfl (lv_at hl 1 rfl) ?_
      refine v_getR C iX7_count_X7 k_0 rfl rfl (j := 0) rfl (by decide) rfl (C.w 1 rfl) dX7_count_41 ?_
      refine v_iload_n C dX7_count_44 rfl (lv_at hl 2 rfl) ?_
      refine v_aald C k_1 rfl rfl (isOneOf4_in c_1) (q_cnt (vp_lt (isOneOf4_in c_1))) dX7_count_45 ?_
      refine v_iload_n C dX7_count_46 rfl (lv_at hl 3 rfl) ?_
      refine v_put C iX7_count_X2 tyX2 tyX2_ok nmX2 (k_cnt (vp_lt (isOneOf4_in c_1))) rfl rfl (j := 4) rfl (by decide) rfl (C.w 3 rfl) rfl rfl rfl dX7_count_47 ?_
      refine v_iload_n C dX7_count_50 rfl (lv_at hl 0 rfl) ?_
      exact hret _ _ _ _ (Eq.symm ((if_neg c_1).trans ((if_neg c_2).trans rfl))) (Eq.symm ((if_neg c_1).trans ((if_neg c_2).trans rfl))) dX7_count_51
    · refine v_bipush (v := (-2)) C dX7_count_27 (by decide) ?_
      exact hret _ _ _ _ (Eq.symm ((if_neg c_1).trans ((if_pos c_2).trans rfl))) (Eq.symm ((if_neg c_1).trans ((if_pos c_2).trans rfl))) dX7_count_29
  · refine v_iconst (v := (-1)) C dX7_count_8 (by decide) ?_
    exact hret _ _ _ _ (Eq.symm ((if_pos c_1).trans rfl)) (Eq.symm ((if_pos c_1).trans rfl)) dX7_count_9
-- no frame of X7_count_s: ['12 + ix a1']
theorem iX7_top_X7 : ∀ w ∈ wsX70, w ∈ wsX7_top := fun _ h => (List.mem_cons_of_mem _ (List.mem_append_left _ (List.mem_append_right _ h)))
theorem iX7_top_X2 : ∀ w ∈ wsX20, w ∈ wsX7_top := fun _ h => (List.mem_cons_of_mem _ (List.mem_append_right _ h))
theorem hv_X7_top : yX7_top.cls = RX7 ∧ yX7_top.cls ≠ "java/lang/invoke/MethodHandle" ∧ yX7_top.cls ≠ "java/lang/invoke/VarHandle" ∧ (parseMethodDescriptor yX7_top.desc).map (fun d => d.parameters.length) = some 2 := by decide +kernel
def X7_top_r (a1 : Int32) (a2 : Int32) (t : ct_St) : Int32 :=
  if X7_isOneOf_r 4 a1 = 0 then
    (-1)
  else
    if X7_within_r a2 1 9999 = 0 then
      (-2)
    else
      let t1 := us t (12 + ix a1) 8 a2
      t1 (12 + ix a1) 1
def X7_top_s (a1 : Int32) (a2 : Int32) (t : ct_St) : ct_St :=
  if X7_isOneOf_r 4 a1 = 0 then
    t
  else
    if X7_within_r a2 1 9999 = 0 then
      t
    else
      let t1 := us t (12 + ix a1) 8 a2
      t1
set_option maxHeartbeats 4000000 in
set_option maxRecDepth 100000 in
theorem c_X7_top (l : Launch) (g : ct_G) (t : ct_St) (a1 : Int32) (a2 : Int32) : MI l g shG yX7_top wsX7_top (rmd 1) [.ref (g.2.1 0), .int a1, .int a2] t (X7_top_r a1 a2 t) (X7_top_s a1 a2 t) := by
  refine MI.of (own := RX7) (cc := cX7_top) (maxL := 3) rfl (by decide) rfl (Nat.le_of_ble_eq_true rfl) (fun p e s m args below meth cd A Q C hret ls hl => ?_)
  have hl : lv_has ls 3 [(0, .ref (g.2.1 0)), (1, .int a1), (2, .int a2)] := hl
  refine v_iconst (v := 4) C dX7_top_0 (by decide) ?_
  refine v_iload_n C dX7_top_1 rfl (lv_at hl 1 rfl) ?_
  refine v_scalli C (c_X7_isOneOf l g _ _ _) (va_cwS 2 C.2.2.2.2.1 gX7_top_X7_isOneOf rfl rfl rfl hs_X7_isOneOf ⟨Nat.le_of_ble_eq_true rfl, Nat.le_of_ble_eq_true rfl⟩) rfl hl.1 rfl (Nat.le_of_ble_eq_true rfl) dX7_top_2 ⟨Nat.le_refl _, Nat.le_refl _⟩ ?_
  refine v_if_ne (tgt := 10) C dX7_top_5 (by decide) (fun c_1 => ?_) (fun c_1 => ?_)
  · refine v_iload_n C dX7_top_10 rfl (lv_at hl 2 rfl) ?_
    refine v_iconst (v := 1) C dX7_top_11 (by decide) ?_
    refine v_sipush (v := 9999) C dX7_top_12 (by decide) ?_
    refine v_scalli C (c_X7_within l g _ _ _ _) (va_cwS 3 C.2.2.2.2.1 gX7_top_X7_within rfl rfl rfl hs_X7_within ⟨Nat.le_of_ble_eq_true rfl, Nat.le_of_ble_eq_true rfl⟩) rfl hl.1 rfl (Nat.le_of_ble_eq_true rfl) dX7_top_15 ⟨Nat.le_refl _, Nat.le_refl _⟩ ?_
    refine v_if_ne (tgt := 24) C dX7_top_18 (by decide) (fun c_2 => ?_) (fun c_2 => ?_)
    · refine v_aload_n C dX7_top_24 rfl (lv_at hl 0 rfl) ?_
      refine v_getR C iX7_top_X7 k_0 rfl rfl (j := 0) rfl (by decide) rfl (C.w 1 rfl) dX7_top_25 ?_
      refine v_iload_n C dX7_top_28 rfl (lv_at hl 1 rfl) ?_
      refine v_aald C k_1 rfl rfl (isOneOf4_in c_1) (q_cnt (vp_lt (isOneOf4_in c_1))) dX7_top_29 ?_
      refine v_iload_n C dX7_top_30 rfl (lv_at hl 2 rfl) ?_
      refine v_put C iX7_top_X2 tyX2 tyX2_ok nmX2 (k_cnt (vp_lt (isOneOf4_in c_1))) rfl rfl (j := 8) rfl (by decide) rfl (C.w 2 rfl) rfl rfl rfl dX7_top_31 ?_
      refine v_aload_n C dX7_top_34 rfl (lv_at hl 0 rfl) ?_
      refine v_getR C iX7_top_X7 k_0 rfl rfl (j := 0) rfl (by decide) rfl (C.w 1 rfl) dX7_top_35 ?_
      refine v_iload_n C dX7_top_38 rfl (lv_at hl 1 rfl) ?_
      refine v_aald C k_1 rfl rfl (isOneOf4_in c_1) (q_cnt (vp_lt (isOneOf4_in c_1))) dX7_top_39 ?_
      refine v_getI C iX7_top_X2 (k_cnt (vp_lt (isOneOf4_in c_1))) rfl rfl (j := 1) rfl (by decide) rfl (C.w 3 rfl) dX7_top_40 ?_
      exact hret _ _ _ _ (Eq.symm ((if_neg c_1).trans ((if_neg c_2).trans rfl))) (Eq.symm ((if_neg c_1).trans ((if_neg c_2).trans rfl))) dX7_top_43
    · refine v_bipush (v := (-2)) C dX7_top_21 (by decide) ?_
      exact hret _ _ _ _ (Eq.symm ((if_neg c_1).trans ((if_pos c_2).trans rfl))) (Eq.symm ((if_neg c_1).trans ((if_pos c_2).trans rfl))) dX7_top_23
  · refine v_iconst (v := (-1)) C dX7_top_8 (by decide) ?_
    exact hret _ _ _ _ (Eq.symm ((if_pos c_1).trans rfl)) (Eq.symm ((if_pos c_1).trans rfl)) dX7_top_9
-- no frame of X7_top_s: ['12 + ix a1']
theorem iX7_ofCounter_X7 : ∀ w ∈ wsX70, w ∈ wsX7_ofCounter := fun _ h => (List.mem_cons_of_mem _ (List.mem_append_left _ (List.mem_append_right _ h)))
theorem hv_X7_ofCounter : yX7_ofCounter.cls = RX7 ∧ yX7_ofCounter.cls ≠ "java/lang/invoke/MethodHandle" ∧ yX7_ofCounter.cls ≠ "java/lang/invoke/VarHandle" ∧ (parseMethodDescriptor yX7_ofCounter.desc).map (fun d => d.parameters.length) = some 2 := by decide +kernel
def X7_ofCounter_r (a1 : Int32) (a2 : Int32) (t : ct_St) : Int32 :=
  if X7_isOneOf_r 4 a1 = 0 then
    (-1)
  else
    X2_tell_r a2 (t (12 + ix a1))
set_option maxHeartbeats 4000000 in
set_option maxRecDepth 100000 in
theorem c_X7_ofCounter (l : Launch) (g : ct_G) (t : ct_St) (a1 : Int32) (a2 : Int32) : MI l g shG yX7_ofCounter wsX7_ofCounter (rmd 1) [.ref (g.2.1 0), .int a1, .int a2] t (X7_ofCounter_r a1 a2 t) t := by
  refine MI.of (own := RX7) (cc := cX7_ofCounter) (maxL := 3) rfl (by decide) rfl (Nat.le_of_ble_eq_true rfl) (fun p e s m args below meth cd A Q C hret ls hl => ?_)
  have hl : lv_has ls 3 [(0, .ref (g.2.1 0)), (1, .int a1), (2, .int a2)] := hl
  refine v_iconst (v := 4) C dX7_ofCounter_0 (by decide) ?_
  refine v_iload_n C dX7_ofCounter_1 rfl (lv_at hl 1 rfl) ?_
  refine v_scalli C (c_X7_isOneOf l g _ _ _) (va_cwS 2 C.2.2.2.2.1 gX7_ofCounter_X7_isOneOf rfl rfl rfl hs_X7_isOneOf ⟨Nat.le_of_ble_eq_true rfl, Nat.le_of_ble_eq_true rfl⟩) rfl hl.1 rfl (Nat.le_of_ble_eq_true rfl) dX7_ofCounter_2 ⟨Nat.le_refl _, Nat.le_refl _⟩ ?_
  refine v_if_eq (tgt := 21) C dX7_ofCounter_5 (by decide) (fun c_1 => ?_) (fun c_1 => ?_)
  · refine v_iconst (v := (-1)) C dX7_ofCounter_21 (by decide) ?_
    exact hret _ _ _ _ (Eq.symm ((if_pos c_1).trans rfl)) rfl dX7_ofCounter_22
  · refine v_aload_n C dX7_ofCounter_8 rfl (lv_at hl 0 rfl) ?_
    refine v_getR C iX7_ofCounter_X7 k_0 rfl rfl (j := 0) rfl (by decide) rfl (C.w 1 rfl) dX7_ofCounter_9 ?_
    refine v_iload_n C dX7_ofCounter_12 rfl (lv_at hl 1 rfl) ?_
    refine v_aald C k_1 rfl rfl (isOneOf4_in c_1) (q_cnt (vp_lt (isOneOf4_in c_1))) dX7_ofCounter_13 ?_
    refine v_iload_n C dX7_ofCounter_14 rfl (lv_at hl 2 rfl) ?_
    refine v_calli C (MI.un (c_X2_tell l g _ _ (k_cnt (vp_lt (isOneOf4_in c_1))) _ _)) (cwV 1 C.2.2.2.2.1 gX7_ofCounter_X2_tell rfl rfl rfl hv_X2_tell ⟨Nat.le_of_ble_eq_true rfl, Nat.le_of_ble_eq_true rfl⟩) (k_cnt (vp_lt (isOneOf4_in c_1))) rfl rfl rfl rfl hl.1 rfl (Nat.le_of_ble_eq_true rfl) dX7_ofCounter_15 ⟨Nat.le_refl _, Nat.le_refl _⟩ ?_
    refine VW.st (ur_self _ _) ?_
    refine v_goto (tgt := 22) C dX7_ofCounter_18 (by decide) ?_
    exact hret _ _ _ _ (Eq.symm ((if_neg c_1).trans rfl)) rfl dX7_ofCounter_22
theorem iX7_input_X7 : ∀ w ∈ wsX70, w ∈ wsX7_input := fun _ h => (List.mem_cons_of_mem _ (List.mem_append_left _ (List.mem_append_right _ h)))
theorem iX7_input_X3 : ∀ w ∈ wsX30, w ∈ wsX7_input := fun _ h => (List.mem_cons_of_mem _ (List.mem_append_right _ h))
theorem hv_X7_input : yX7_input.cls = RX7 ∧ yX7_input.cls ≠ "java/lang/invoke/MethodHandle" ∧ yX7_input.cls ≠ "java/lang/invoke/VarHandle" ∧ (parseMethodDescriptor yX7_input.desc).map (fun d => d.parameters.length) = some 2 := by decide +kernel
def X7_input_r (a1 : Int32) (a2 : Int32) (t : ct_St) : Int32 :=
  if X7_isOneOf_r 4 a1 = 0 then
    (-1)
  else
    if X7_within_r a2 0 1 = 0 then
      (-2)
    else
      let x1 := t (16 + ix a1) 0
      x1
def X7_input_s (a1 : Int32) (a2 : Int32) (t : ct_St) : ct_St :=
  if X7_isOneOf_r 4 a1 = 0 then
    t
  else
    if X7_within_r a2 0 1 = 0 then
      t
    else
      let t2 := us t (16 + ix a1) 0 a2
      t2
set_option maxHeartbeats 4000000 in
set_option maxRecDepth 100000 in
theorem c_X7_input (l : Launch) (g : ct_G) (t : ct_St) (a1 : Int32) (a2 : Int32) : MI l g shG yX7_input wsX7_input (rmd 1) [.ref (g.2.1 0), .int a1, .int a2] t (X7_input_r a1 a2 t) (X7_input_s a1 a2 t) := by
  refine MI.of (own := RX7) (cc := cX7_input) (maxL := 4) rfl (by decide) rfl (Nat.le_of_ble_eq_true rfl) (fun p e s m args below meth cd A Q C hret ls hl => ?_)
  have hl : lv_has ls 4 [(0, .ref (g.2.1 0)), (1, .int a1), (2, .int a2)] := hl
  refine v_iconst (v := 4) C dX7_input_0 (by decide) ?_
  refine v_iload_n C dX7_input_1 rfl (lv_at hl 1 rfl) ?_
  refine v_scalli C (c_X7_isOneOf l g _ _ _) (va_cwS 2 C.2.2.2.2.1 gX7_input_X7_isOneOf rfl rfl rfl hs_X7_isOneOf ⟨Nat.le_of_ble_eq_true rfl, Nat.le_of_ble_eq_true rfl⟩) rfl hl.1 rfl (Nat.le_of_ble_eq_true rfl) dX7_input_2 ⟨Nat.le_refl _, Nat.le_refl _⟩ ?_
  refine v_if_ne (tgt := 10) C dX7_input_5 (by decide) (fun c_1 => ?_) (fun c_1 => ?_)
  · refine v_iload_n C dX7_input_10 rfl (lv_at hl 2 rfl) ?_
    refine v_iconst (v := 0) C dX7_input_11 (by decide) ?_
    refine v_iconst (v := 1) C dX7_input_12 (by decide) ?_
    refine v_scalli C (c_X7_within l g _ _ _ _) (va_cwS 3 C.2.2.2.2.1 gX7_input_X7_within rfl rfl rfl hs_X7_within ⟨Nat.le_of_ble_eq_true rfl, Nat.le_of_ble_eq_true rfl⟩) rfl hl.1 rfl (Nat.le_of_ble_eq_true rfl) dX7_input_13 ⟨Nat.le_refl _, Nat.le_refl _⟩ ?_
    refine v_if_ne (tgt := 22) C dX7_input_16 (by decide) (fun c_2 => ?_) (fun c_2 => ?_)
    · refine v_aload_n C dX7_input_22 rfl (lv_at hl 0 rfl) ?_
      refine v_getR C iX7_input_X7 k_0 rfl rfl (j := 1) rfl (by decide) rfl (C.w 1 rfl) dX7_input_23 ?_
      refine v_iload_n C dX7_input_26 rfl (lv_at hl 1 rfl) ?_
      refine v_aald C k_2 rfl rfl (isOneOf4_in c_1) (q_inp (vp_lt (isOneOf4_in c_1))) dX7_input_27 ?_
      refine v_getI C iX7_input_X3 (k_inp (vp_lt (isOneOf4_in c_1))) rfl rfl (j := 0) rfl (by decide) rfl (C.w 2 rfl) dX7_input_28 ?_
      refine v_istore_n (lv' := [(3, _), (0, _), (1, _), (2, _)]) C dX7_input_31 rfl hl (by decide) rfl (fun ls hl => ?_)
      refine v_aload_n C dX7_input_32 rfl (lv_at hl 1 rfl) ?_
      refine v_getR C iX7_input_X7 k_0 rfl rfl (j := 1) rfl (by decide) rfl (C.w 1 rfl) dX7_input_33 ?_
      refine v_iload_n C dX7_input_36 rfl (lv_at hl 2 rfl) ?_
      refine v_aald C k_2 rfl rfl (isOneOf4_in c_1) (q_inp (vp_lt (isOneOf4_in c_1))) dX7_input_37 ?_
      refine v_iload_n C dX7_input_38 rfl (lv_at hl 3 rfl) ?_
      refine v_put C iX7_input_X3 tyX3 tyX3_ok nmX3 (k_inp (vp_lt (isOneOf4_in c_1))) rfl rfl (j := 0) rfl (by decide) rfl (C.w 2 rfl) rfl rfl rfl dX7_input_39 ?_
      refine v_iload_n C dX7_input_42 rfl (lv_at hl 0 rfl) ?_
      exact hret _ _ _ _ (Eq.symm ((if_neg c_1).trans ((if_neg c_2).trans rfl))) (Eq.symm ((if_neg c_1).trans ((if_neg c_2).trans rfl))) dX7_input_43
    · refine v_bipush (v := (-2)) C dX7_input_19 (by decide) ?_
      exact hret _ _ _ _ (Eq.symm ((if_neg c_1).trans ((if_pos c_2).trans rfl))) (Eq.symm ((if_neg c_1).trans ((if_pos c_2).trans rfl))) dX7_input_21
  · refine v_iconst (v := (-1)) C dX7_input_8 (by decide) ?_
    exact hret _ _ _ _ (Eq.symm ((if_pos c_1).trans rfl)) (Eq.symm ((if_pos c_1).trans rfl)) dX7_input_9
-- no frame of X7_input_s: ['16 + ix a1']
theorem iX7_filter_X7 : ∀ w ∈ wsX70, w ∈ wsX7_filter := fun _ h => (List.mem_cons_of_mem _ (List.mem_append_left _ (List.mem_append_right _ h)))
theorem iX7_filter_X3 : ∀ w ∈ wsX30, w ∈ wsX7_filter := fun _ h => (List.mem_cons_of_mem _ (List.mem_append_right _ h))
theorem hv_X7_filter : yX7_filter.cls = RX7 ∧ yX7_filter.cls ≠ "java/lang/invoke/MethodHandle" ∧ yX7_filter.cls ≠ "java/lang/invoke/VarHandle" ∧ (parseMethodDescriptor yX7_filter.desc).map (fun d => d.parameters.length) = some 2 := by decide +kernel
def X7_filter_r (a1 : Int32) (a2 : Int32) (t : ct_St) : Int32 :=
  if X7_isOneOf_r 4 a1 = 0 then
    (-1)
  else
    if X7_within_r a2 1 8 = 0 then
      (-2)
    else
      let x1 := t (16 + ix a1) 3
      x1
def X7_filter_s (a1 : Int32) (a2 : Int32) (t : ct_St) : ct_St :=
  if X7_isOneOf_r 4 a1 = 0 then
    t
  else
    if X7_within_r a2 1 8 = 0 then
      t
    else
      let t2 := us t (16 + ix a1) 3 a2
      t2
set_option maxHeartbeats 4000000 in
set_option maxRecDepth 100000 in
theorem c_X7_filter (l : Launch) (g : ct_G) (t : ct_St) (a1 : Int32) (a2 : Int32) : MI l g shG yX7_filter wsX7_filter (rmd 1) [.ref (g.2.1 0), .int a1, .int a2] t (X7_filter_r a1 a2 t) (X7_filter_s a1 a2 t) := by
  refine MI.of (own := RX7) (cc := cX7_filter) (maxL := 4) rfl (by decide) rfl (Nat.le_of_ble_eq_true rfl) (fun p e s m args below meth cd A Q C hret ls hl => ?_)
  have hl : lv_has ls 4 [(0, .ref (g.2.1 0)), (1, .int a1), (2, .int a2)] := hl
  refine v_iconst (v := 4) C dX7_filter_0 (by decide) ?_
  refine v_iload_n C dX7_filter_1 rfl (lv_at hl 1 rfl) ?_
  refine v_scalli C (c_X7_isOneOf l g _ _ _) (va_cwS 2 C.2.2.2.2.1 gX7_filter_X7_isOneOf rfl rfl rfl hs_X7_isOneOf ⟨Nat.le_of_ble_eq_true rfl, Nat.le_of_ble_eq_true rfl⟩) rfl hl.1 rfl (Nat.le_of_ble_eq_true rfl) dX7_filter_2 ⟨Nat.le_refl _, Nat.le_refl _⟩ ?_
  refine v_if_ne (tgt := 10) C dX7_filter_5 (by decide) (fun c_1 => ?_) (fun c_1 => ?_)
  · refine v_iload_n C dX7_filter_10 rfl (lv_at hl 2 rfl) ?_
    refine v_iconst (v := 1) C dX7_filter_11 (by decide) ?_
    refine v_bipush (v := 8) C dX7_filter_12 (by decide) ?_
    refine v_scalli C (c_X7_within l g _ _ _ _) (va_cwS 3 C.2.2.2.2.1 gX7_filter_X7_within rfl rfl rfl hs_X7_within ⟨Nat.le_of_ble_eq_true rfl, Nat.le_of_ble_eq_true rfl⟩) rfl hl.1 rfl (Nat.le_of_ble_eq_true rfl) dX7_filter_14 ⟨Nat.le_refl _, Nat.le_refl _⟩ ?_
    refine v_if_ne (tgt := 23) C dX7_filter_17 (by decide) (fun c_2 => ?_) (fun c_2 => ?_)
    · refine v_aload_n C dX7_filter_23 rfl (lv_at hl 0 rfl) ?_
      refine v_getR C iX7_filter_X7 k_0 rfl rfl (j := 1) rfl (by decide) rfl (C.w 1 rfl) dX7_filter_24 ?_
      refine v_iload_n C dX7_filter_27 rfl (lv_at hl 1 rfl) ?_
      refine v_aald C k_2 rfl rfl (isOneOf4_in c_1) (q_inp (vp_lt (isOneOf4_in c_1))) dX7_filter_28 ?_
      refine v_getI C iX7_filter_X3 (k_inp (vp_lt (isOneOf4_in c_1))) rfl rfl (j := 3) rfl (by decide) rfl (C.w 2 rfl) dX7_filter_29 ?_
      refine v_istore_n (lv' := [(3, _), (0, _), (1, _), (2, _)]) C dX7_filter_32 rfl hl (by decide) rfl (fun ls hl => ?_)
      refine v_aload_n C dX7_filter_33 rfl (lv_at hl 1 rfl) ?_
      refine v_getR C iX7_filter_X7 k_0 rfl rfl (j := 1) rfl (by decide) rfl (C.w 1 rfl) dX7_filter_34 ?_
      refine v_iload_n C dX7_filter_37 rfl (lv_at hl 2 rfl) ?_
      refine v_aald C k_2 rfl rfl (isOneOf4_in c_1) (q_inp (vp_lt (isOneOf4_in c_1))) dX7_filter_38 ?_
      refine v_iload_n C dX7_filter_39 rfl (lv_at hl 3 rfl) ?_
      refine v_put C iX7_filter_X3 tyX3 tyX3_ok nmX3 (k_inp (vp_lt (isOneOf4_in c_1))) rfl rfl (j := 3) rfl (by decide) rfl (C.w 2 rfl) rfl rfl rfl dX7_filter_40 ?_
      refine v_iload_n C dX7_filter_43 rfl (lv_at hl 0 rfl) ?_
      exact hret _ _ _ _ (Eq.symm ((if_neg c_1).trans ((if_neg c_2).trans rfl))) (Eq.symm ((if_neg c_1).trans ((if_neg c_2).trans rfl))) dX7_filter_44
    · refine v_bipush (v := (-2)) C dX7_filter_20 (by decide) ?_
      exact hret _ _ _ _ (Eq.symm ((if_neg c_1).trans ((if_pos c_2).trans rfl))) (Eq.symm ((if_neg c_1).trans ((if_pos c_2).trans rfl))) dX7_filter_22
  · refine v_iconst (v := (-1)) C dX7_filter_8 (by decide) ?_
    exact hret _ _ _ _ (Eq.symm ((if_pos c_1).trans rfl)) (Eq.symm ((if_pos c_1).trans rfl)) dX7_filter_9
-- no frame of X7_filter_s: ['16 + ix a1']
theorem iX7_ofInput_X7 : ∀ w ∈ wsX70, w ∈ wsX7_ofInput := fun _ h => (List.mem_cons_of_mem _ (List.mem_append_left _ (List.mem_append_right _ h)))
theorem hv_X7_ofInput : yX7_ofInput.cls = RX7 ∧ yX7_ofInput.cls ≠ "java/lang/invoke/MethodHandle" ∧ yX7_ofInput.cls ≠ "java/lang/invoke/VarHandle" ∧ (parseMethodDescriptor yX7_ofInput.desc).map (fun d => d.parameters.length) = some 2 := by decide +kernel
def X7_ofInput_r (a1 : Int32) (a2 : Int32) (t : ct_St) : Int32 :=
  if X7_isOneOf_r 4 a1 = 0 then
    (-1)
  else
    X3_tell_r a2 (t (16 + ix a1))
set_option maxHeartbeats 4000000 in
set_option maxRecDepth 100000 in
theorem c_X7_ofInput (l : Launch) (g : ct_G) (t : ct_St) (a1 : Int32) (a2 : Int32) : MI l g shG yX7_ofInput wsX7_ofInput (rmd 1) [.ref (g.2.1 0), .int a1, .int a2] t (X7_ofInput_r a1 a2 t) t := by
  refine MI.of (own := RX7) (cc := cX7_ofInput) (maxL := 3) rfl (by decide) rfl (Nat.le_of_ble_eq_true rfl) (fun p e s m args below meth cd A Q C hret ls hl => ?_)
  have hl : lv_has ls 3 [(0, .ref (g.2.1 0)), (1, .int a1), (2, .int a2)] := hl
  refine v_iconst (v := 4) C dX7_ofInput_0 (by decide) ?_
  refine v_iload_n C dX7_ofInput_1 rfl (lv_at hl 1 rfl) ?_
  refine v_scalli C (c_X7_isOneOf l g _ _ _) (va_cwS 2 C.2.2.2.2.1 gX7_ofInput_X7_isOneOf rfl rfl rfl hs_X7_isOneOf ⟨Nat.le_of_ble_eq_true rfl, Nat.le_of_ble_eq_true rfl⟩) rfl hl.1 rfl (Nat.le_of_ble_eq_true rfl) dX7_ofInput_2 ⟨Nat.le_refl _, Nat.le_refl _⟩ ?_
  refine v_if_eq (tgt := 21) C dX7_ofInput_5 (by decide) (fun c_1 => ?_) (fun c_1 => ?_)
  · refine v_iconst (v := (-1)) C dX7_ofInput_21 (by decide) ?_
    exact hret _ _ _ _ (Eq.symm ((if_pos c_1).trans rfl)) rfl dX7_ofInput_22
  · refine v_aload_n C dX7_ofInput_8 rfl (lv_at hl 0 rfl) ?_
    refine v_getR C iX7_ofInput_X7 k_0 rfl rfl (j := 1) rfl (by decide) rfl (C.w 1 rfl) dX7_ofInput_9 ?_
    refine v_iload_n C dX7_ofInput_12 rfl (lv_at hl 1 rfl) ?_
    refine v_aald C k_2 rfl rfl (isOneOf4_in c_1) (q_inp (vp_lt (isOneOf4_in c_1))) dX7_ofInput_13 ?_
    refine v_iload_n C dX7_ofInput_14 rfl (lv_at hl 2 rfl) ?_
    refine v_calli C (MI.un (c_X3_tell l g _ _ (k_inp (vp_lt (isOneOf4_in c_1))) _ _)) (cwV 1 C.2.2.2.2.1 gX7_ofInput_X3_tell rfl rfl rfl hv_X3_tell ⟨Nat.le_of_ble_eq_true rfl, Nat.le_of_ble_eq_true rfl⟩) (k_inp (vp_lt (isOneOf4_in c_1))) rfl rfl rfl rfl hl.1 rfl (Nat.le_of_ble_eq_true rfl) dX7_ofInput_15 ⟨Nat.le_refl _, Nat.le_refl _⟩ ?_
    refine VW.st (ur_self _ _) ?_
    refine v_goto (tgt := 22) C dX7_ofInput_18 (by decide) ?_
    exact hret _ _ _ _ (Eq.symm ((if_neg c_1).trans rfl)) rfl dX7_ofInput_22
theorem iX7_catcher_X7 : ∀ w ∈ wsX70, w ∈ wsX7_catcher := fun _ h => (List.mem_cons_of_mem _ (List.mem_append_left _ (List.mem_append_right _ h)))
theorem hv_X7_catcher : yX7_catcher.cls = RX7 ∧ yX7_catcher.cls ≠ "java/lang/invoke/MethodHandle" ∧ yX7_catcher.cls ≠ "java/lang/invoke/VarHandle" ∧ (parseMethodDescriptor yX7_catcher.desc).map (fun d => d.parameters.length) = some 4 := by decide +kernel
def X7_catcher_r (a1 : Int32) (a2 : Int32) (a3 : Int32) (a4 : Int32) : Int32 :=
  if X7_isOneOf_r 4 a1 = 0 then
    (-1)
  else
    if X7_isOneOf_r 4 a2 = 0 then
      (-1)
    else
      if X7_within_r a3 0 3 = 0 then
        (-2)
      else
        if X7_within_r a4 1 4 = 0 then
          (-2)
        else
          1
def X7_catcher_s (a1 : Int32) (a2 : Int32) (a3 : Int32) (a4 : Int32) (t : ct_St) : ct_St :=
  if X7_isOneOf_r 4 a1 = 0 then
    t
  else
    if X7_isOneOf_r 4 a2 = 0 then
      t
    else
      if X7_within_r a3 0 3 = 0 then
        t
      else
        if X7_within_r a4 1 4 = 0 then
          t
        else
          let t1 := ur t (20 + ix a1) (X0_setUp_s a2 a3 a4 (t (20 + ix a1)))
          t1
set_option maxHeartbeats 4000000 in
set_option maxRecDepth 100000 in
theorem c_X7_catcher (l : Launch) (g : ct_G) (t : ct_St) (a1 : Int32) (a2 : Int32) (a3 : Int32) (a4 : Int32) : MI l g shG yX7_catcher wsX7_catcher (rmd 1) [.ref (g.2.1 0), .int a1, .int a2, .int a3, .int a4] t (X7_catcher_r a1 a2 a3 a4) (X7_catcher_s a1 a2 a3 a4 t) := by
  refine MI.of (own := RX7) (cc := cX7_catcher) (maxL := 5) rfl (by decide) rfl (Nat.le_of_ble_eq_true rfl) (fun p e s m args below meth cd A Q C hret ls hl => ?_)
  have hl : lv_has ls 5 [(0, .ref (g.2.1 0)), (1, .int a1), (2, .int a2), (3, .int a3), (4, .int a4)] := hl
  refine v_iconst (v := 4) C dX7_catcher_0 (by decide) ?_
  refine v_iload_n C dX7_catcher_1 rfl (lv_at hl 1 rfl) ?_
  refine v_scalli C (c_X7_isOneOf l g _ _ _) (va_cwS 2 C.2.2.2.2.1 gX7_catcher_X7_isOneOf rfl rfl rfl hs_X7_isOneOf ⟨Nat.le_of_ble_eq_true rfl, Nat.le_of_ble_eq_true rfl⟩) rfl hl.1 rfl (Nat.le_of_ble_eq_true rfl) dX7_catcher_2 ⟨Nat.le_refl _, Nat.le_refl _⟩ ?_
  refine v_if_eq (tgt := 16) C dX7_catcher_5 (by decide) (fun c_1 => ?_) (fun c_1 => ?_)
  · refine v_iconst (v := (-1)) C dX7_catcher_16 (by decide) ?_
    exact hret _ _ _ _ (Eq.symm ((if_pos c_1).trans rfl)) (Eq.symm ((if_pos c_1).trans rfl)) dX7_catcher_17
  · refine v_iconst (v := 4) C dX7_catcher_8 (by decide) ?_
    refine v_iload_n C dX7_catcher_9 rfl (lv_at hl 2 rfl) ?_
    refine v_scalli C (c_X7_isOneOf l g _ _ _) (va_cwS 2 C.2.2.2.2.1 gX7_catcher_X7_isOneOf rfl rfl rfl hs_X7_isOneOf ⟨Nat.le_of_ble_eq_true rfl, Nat.le_of_ble_eq_true rfl⟩) rfl hl.1 rfl (Nat.le_of_ble_eq_true rfl) dX7_catcher_10 ⟨Nat.le_refl _, Nat.le_refl _⟩ ?_
    refine v_if_ne (tgt := 18) C dX7_catcher_13 (by decide) (fun c_2 => ?_) (fun c_2 => ?_)
    · refine v_iload_n C dX7_catcher_18 rfl (lv_at hl 3 rfl) ?_
      refine v_iconst (v := 0) C dX7_catcher_19 (by decide) ?_
      refine v_iconst (v := 3) C dX7_catcher_20 (by decide) ?_
      refine v_scalli C (c_X7_within l g _ _ _ _) (va_cwS 3 C.2.2.2.2.1 gX7_catcher_X7_within rfl rfl rfl hs_X7_within ⟨Nat.le_of_ble_eq_true rfl, Nat.le_of_ble_eq_true rfl⟩) rfl hl.1 rfl (Nat.le_of_ble_eq_true rfl) dX7_catcher_21 ⟨Nat.le_refl _, Nat.le_refl _⟩ ?_
      refine v_if_eq (tgt := 37) C dX7_catcher_24 (by decide) (fun c_3 => ?_) (fun c_3 => ?_)
      · refine v_bipush (v := (-2)) C dX7_catcher_37 (by decide) ?_
        exact hret _ _ _ _ (Eq.symm ((if_neg c_1).trans ((if_neg c_2).trans ((if_pos c_3).trans rfl)))) (Eq.symm ((if_neg c_1).trans ((if_neg c_2).trans ((if_pos c_3).trans rfl)))) dX7_catcher_39
      · refine v_iload C dX7_catcher_27 (lv_at hl 4 rfl) ?_
        refine v_iconst (v := 1) C dX7_catcher_29 (by decide) ?_
        refine v_iconst (v := 4) C dX7_catcher_30 (by decide) ?_
        refine v_scalli C (c_X7_within l g _ _ _ _) (va_cwS 3 C.2.2.2.2.1 gX7_catcher_X7_within rfl rfl rfl hs_X7_within ⟨Nat.le_of_ble_eq_true rfl, Nat.le_of_ble_eq_true rfl⟩) rfl hl.1 rfl (Nat.le_of_ble_eq_true rfl) dX7_catcher_31 ⟨Nat.le_refl _, Nat.le_refl _⟩ ?_
        refine v_if_ne (tgt := 40) C dX7_catcher_34 (by decide) (fun c_4 => ?_) (fun c_4 => ?_)
        · refine v_aload_n C dX7_catcher_40 rfl (lv_at hl 0 rfl) ?_
          refine v_getR C iX7_catcher_X7 k_0 rfl rfl (j := 2) rfl (by decide) rfl (C.w 1 rfl) dX7_catcher_41 ?_
          refine v_iload_n C dX7_catcher_44 rfl (lv_at hl 1 rfl) ?_
          refine v_aald C k_3 rfl rfl (isOneOf4_in c_1) (q_cat (vp_lt (isOneOf4_in c_1))) dX7_catcher_45 ?_
          refine v_iload_n C dX7_catcher_46 rfl (lv_at hl 2 rfl) ?_
          refine v_iload_n C dX7_catcher_47 rfl (lv_at hl 3 rfl) ?_
          refine v_iload C dX7_catcher_48 (lv_at hl 4 rfl) ?_
          refine v_callv C (MV.un (c_X0_setUp l g _ _ (k_cat (vp_lt (isOneOf4_in c_1))) _ _ _ _)) (cwV 3 C.2.2.2.2.1 gX7_catcher_X0_setUp rfl rfl rfl hv_X0_setUp ⟨Nat.le_of_ble_eq_true rfl, Nat.le_of_ble_eq_true rfl⟩) (k_cat (vp_lt (isOneOf4_in c_1))) rfl rfl rfl rfl hl.1 rfl (Nat.le_of_ble_eq_true rfl) dX7_catcher_50 ⟨Nat.le_refl _, Nat.le_refl _⟩ ?_
          refine v_iconst (v := 1) C dX7_catcher_53 (by decide) ?_
          exact hret _ _ _ _ (Eq.symm ((if_neg c_1).trans ((if_neg c_2).trans ((if_neg c_3).trans ((if_neg c_4).trans rfl))))) (Eq.symm ((if_neg c_1).trans ((if_neg c_2).trans ((if_neg c_3).trans ((if_neg c_4).trans rfl))))) dX7_catcher_54
        · refine v_bipush (v := (-2)) C dX7_catcher_37 (by decide) ?_
          exact hret _ _ _ _ (Eq.symm ((if_neg c_1).trans ((if_neg c_2).trans ((if_neg c_3).trans ((if_pos c_4).trans rfl))))) (Eq.symm ((if_neg c_1).trans ((if_neg c_2).trans ((if_neg c_3).trans ((if_pos c_4).trans rfl))))) dX7_catcher_39
    · refine v_iconst (v := (-1)) C dX7_catcher_16 (by decide) ?_
      exact hret _ _ _ _ (Eq.symm ((if_neg c_1).trans ((if_pos c_2).trans rfl))) (Eq.symm ((if_neg c_1).trans ((if_pos c_2).trans rfl))) dX7_catcher_17
-- no frame of X7_catcher_s: ['20 + ix a1']
theorem iX7_taken_X7 : ∀ w ∈ wsX70, w ∈ wsX7_taken := fun _ h => (List.mem_cons_of_mem _ (List.mem_append_left _ (List.mem_append_right _ h)))
theorem hv_X7_taken : yX7_taken.cls = RX7 ∧ yX7_taken.cls ≠ "java/lang/invoke/MethodHandle" ∧ yX7_taken.cls ≠ "java/lang/invoke/VarHandle" ∧ (parseMethodDescriptor yX7_taken.desc).map (fun d => d.parameters.length) = some 1 := by decide +kernel
def X7_taken_r (a1 : Int32) (t : ct_St) : Int32 :=
  if X7_isOneOf_r 4 a1 = 0 then
    (-1)
  else
    X0_handOver_r (t (20 + ix a1))
def X7_taken_s (a1 : Int32) (t : ct_St) : ct_St :=
  if X7_isOneOf_r 4 a1 = 0 then
    t
  else
    let t1 := ur t (20 + ix a1) (X0_handOver_s (t (20 + ix a1)))
    t1
set_option maxHeartbeats 4000000 in
set_option maxRecDepth 100000 in
theorem c_X7_taken (l : Launch) (g : ct_G) (t : ct_St) (a1 : Int32) : MI l g shG yX7_taken wsX7_taken (rmd 1) [.ref (g.2.1 0), .int a1] t (X7_taken_r a1 t) (X7_taken_s a1 t) := by
  refine MI.of (own := RX7) (cc := cX7_taken) (maxL := 2) rfl (by decide) rfl (Nat.le_of_ble_eq_true rfl) (fun p e s m args below meth cd A Q C hret ls hl => ?_)
  have hl : lv_has ls 2 [(0, .ref (g.2.1 0)), (1, .int a1)] := hl
  refine v_iconst (v := 4) C dX7_taken_0 (by decide) ?_
  refine v_iload_n C dX7_taken_1 rfl (lv_at hl 1 rfl) ?_
  refine v_scalli C (c_X7_isOneOf l g _ _ _) (va_cwS 2 C.2.2.2.2.1 gX7_taken_X7_isOneOf rfl rfl rfl hs_X7_isOneOf ⟨Nat.le_of_ble_eq_true rfl, Nat.le_of_ble_eq_true rfl⟩) rfl hl.1 rfl (Nat.le_of_ble_eq_true rfl) dX7_taken_2 ⟨Nat.le_refl _, Nat.le_refl _⟩ ?_
  refine v_if_eq (tgt := 20) C dX7_taken_5 (by decide) (fun c_1 => ?_) (fun c_1 => ?_)
  · refine v_iconst (v := (-1)) C dX7_taken_20 (by decide) ?_
    exact hret _ _ _ _ (Eq.symm ((if_pos c_1).trans rfl)) (Eq.symm ((if_pos c_1).trans rfl)) dX7_taken_21
  · refine v_aload_n C dX7_taken_8 rfl (lv_at hl 0 rfl) ?_
    refine v_getR C iX7_taken_X7 k_0 rfl rfl (j := 2) rfl (by decide) rfl (C.w 1 rfl) dX7_taken_9 ?_
    refine v_iload_n C dX7_taken_12 rfl (lv_at hl 1 rfl) ?_
    refine v_aald C k_3 rfl rfl (isOneOf4_in c_1) (q_cat (vp_lt (isOneOf4_in c_1))) dX7_taken_13 ?_
    refine v_calli C (MI.un (c_X0_handOver l g _ _ (k_cat (vp_lt (isOneOf4_in c_1))) _)) (cwV 0 C.2.2.2.2.1 gX7_taken_X0_handOver rfl rfl rfl hv_X0_handOver ⟨Nat.le_of_ble_eq_true rfl, Nat.le_of_ble_eq_true rfl⟩) (k_cat (vp_lt (isOneOf4_in c_1))) rfl rfl rfl rfl hl.1 rfl (Nat.le_of_ble_eq_true rfl) dX7_taken_14 ⟨Nat.le_refl _, Nat.le_refl _⟩ ?_
    refine v_goto (tgt := 21) C dX7_taken_17 (by decide) ?_
    exact hret _ _ _ _ (Eq.symm ((if_neg c_1).trans rfl)) (Eq.symm ((if_neg c_1).trans rfl)) dX7_taken_21
-- no frame of X7_taken_s: ['20 + ix a1']
theorem iX7_ofCatcher_X7 : ∀ w ∈ wsX70, w ∈ wsX7_ofCatcher := fun _ h => (List.mem_cons_of_mem _ (List.mem_append_left _ (List.mem_append_right _ h)))
theorem hv_X7_ofCatcher : yX7_ofCatcher.cls = RX7 ∧ yX7_ofCatcher.cls ≠ "java/lang/invoke/MethodHandle" ∧ yX7_ofCatcher.cls ≠ "java/lang/invoke/VarHandle" ∧ (parseMethodDescriptor yX7_ofCatcher.desc).map (fun d => d.parameters.length) = some 2 := by decide +kernel
def X7_ofCatcher_r (a1 : Int32) (a2 : Int32) (t : ct_St) : Int32 :=
  if X7_isOneOf_r 4 a1 = 0 then
    (-1)
  else
    X0_tell_r a2 (t (20 + ix a1))
set_option maxHeartbeats 4000000 in
set_option maxRecDepth 100000 in
theorem c_X7_ofCatcher (l : Launch) (g : ct_G) (t : ct_St) (a1 : Int32) (a2 : Int32) : MI l g shG yX7_ofCatcher wsX7_ofCatcher (rmd 1) [.ref (g.2.1 0), .int a1, .int a2] t (X7_ofCatcher_r a1 a2 t) t := by
  refine MI.of (own := RX7) (cc := cX7_ofCatcher) (maxL := 3) rfl (by decide) rfl (Nat.le_of_ble_eq_true rfl) (fun p e s m args below meth cd A Q C hret ls hl => ?_)
  have hl : lv_has ls 3 [(0, .ref (g.2.1 0)), (1, .int a1), (2, .int a2)] := hl
  refine v_iconst (v := 4) C dX7_ofCatcher_0 (by decide) ?_
  refine v_iload_n C dX7_ofCatcher_1 rfl (lv_at hl 1 rfl) ?_
  refine v_scalli C (c_X7_isOneOf l g _ _ _) (va_cwS 2 C.2.2.2.2.1 gX7_ofCatcher_X7_isOneOf rfl rfl rfl hs_X7_isOneOf ⟨Nat.le_of_ble_eq_true rfl, Nat.le_of_ble_eq_true rfl⟩) rfl hl.1 rfl (Nat.le_of_ble_eq_true rfl) dX7_ofCatcher_2 ⟨Nat.le_refl _, Nat.le_refl _⟩ ?_
  refine v_if_eq (tgt := 21) C dX7_ofCatcher_5 (by decide) (fun c_1 => ?_) (fun c_1 => ?_)
  · refine v_iconst (v := (-1)) C dX7_ofCatcher_21 (by decide) ?_
    exact hret _ _ _ _ (Eq.symm ((if_pos c_1).trans rfl)) rfl dX7_ofCatcher_22
  · refine v_aload_n C dX7_ofCatcher_8 rfl (lv_at hl 0 rfl) ?_
    refine v_getR C iX7_ofCatcher_X7 k_0 rfl rfl (j := 2) rfl (by decide) rfl (C.w 1 rfl) dX7_ofCatcher_9 ?_
    refine v_iload_n C dX7_ofCatcher_12 rfl (lv_at hl 1 rfl) ?_
    refine v_aald C k_3 rfl rfl (isOneOf4_in c_1) (q_cat (vp_lt (isOneOf4_in c_1))) dX7_ofCatcher_13 ?_
    refine v_iload_n C dX7_ofCatcher_14 rfl (lv_at hl 2 rfl) ?_
    refine v_calli C (MI.un (c_X0_tell l g _ _ (k_cat (vp_lt (isOneOf4_in c_1))) _ _)) (cwV 1 C.2.2.2.2.1 gX7_ofCatcher_X0_tell rfl rfl rfl hv_X0_tell ⟨Nat.le_of_ble_eq_true rfl, Nat.le_of_ble_eq_true rfl⟩) (k_cat (vp_lt (isOneOf4_in c_1))) rfl rfl rfl rfl hl.1 rfl (Nat.le_of_ble_eq_true rfl) dX7_ofCatcher_15 ⟨Nat.le_refl _, Nat.le_refl _⟩ ?_
    refine VW.st (ur_self _ _) ?_
    refine v_goto (tgt := 22) C dX7_ofCatcher_18 (by decide) ?_
    exact hret _ _ _ _ (Eq.symm ((if_neg c_1).trans rfl)) rfl dX7_ofCatcher_22
theorem iX7_hasPulse_X7 : ∀ w ∈ wsX70, w ∈ wsX7_hasPulse := fun _ h => (List.mem_cons_of_mem _ (List.mem_append_left _ (List.mem_append_left _ (List.mem_append_right _ h))))
theorem iX7_hasPulse_X2 : ∀ w ∈ wsX20, w ∈ wsX7_hasPulse := fun _ h => (List.mem_cons_of_mem _ (List.mem_append_left _ (List.mem_append_right _ h)))
theorem iX7_hasPulse_X3 : ∀ w ∈ wsX30, w ∈ wsX7_hasPulse := fun _ h => (List.mem_cons_of_mem _ (List.mem_append_right _ h))
theorem pm_in {a : Int32} (h : vp_in a 4) (h0 : ¬ a ≤ 0) : vp_in (a - 1) 4 := by
  obtain ⟨j, hj, rfl⟩ := vp_in_of h (by decide)
  rcases j with _ | j
  · exact absurd (by decide) h0
  · rw [nI_pred]
    exact vp_in_nI (by omega) (by decide)
theorem hv_X7_hasPulse : yX7_hasPulse.cls = RX7 ∧ yX7_hasPulse.cls ≠ "java/lang/invoke/MethodHandle" ∧ yX7_hasPulse.cls ≠ "java/lang/invoke/VarHandle" ∧ (parseMethodDescriptor yX7_hasPulse.desc).map (fun d => d.parameters.length) = some 1 := by decide +kernel
def X7_hasPulse_r (a1 : Int32) (t : ct_St) : Int32 :=
  if t (12 + ix a1) 3 = 1 then
    1
  else
    if t (12 + ix a1) 3 = 2 then
      if a1 ≤ 0 then
        0
      else
        if t (12 + ix (a1 - 1)) 9 = 0 then
          0
        else
          1
    else
      if t (12 + ix a1) 3 = 3 then
        if t (16 + ix a1) 4 = 1 then
          1
        else
          0
      else
        0
set_option maxHeartbeats 4000000 in
set_option maxRecDepth 100000 in
theorem c_X7_hasPulse (l : Launch) (g : ct_G) (t : ct_St) (a1 : Int32) (h1 : vp_in a1 4) : MI l g shG yX7_hasPulse wsX7_hasPulse (rmd 0) [.ref (g.2.1 0), .int a1] t (X7_hasPulse_r a1 t) t := by
  refine MZ.of (own := RX7) (cc := cX7_hasPulse) (maxL := 2) rfl (by decide) rfl (Nat.le_of_ble_eq_true rfl) (fun p e s m args below meth cd A Q C hret ls hl => ?_)
  have hl : lv_has ls 2 [(0, .ref (g.2.1 0)), (1, .int a1)] := hl
  refine v_aload_n C dX7_hasPulse_0 rfl (lv_at hl 0 rfl) ?_
  refine v_getR C iX7_hasPulse_X7 k_0 rfl rfl (j := 0) rfl (by decide) rfl (C.w 1 rfl) dX7_hasPulse_1 ?_
  refine v_iload_n C dX7_hasPulse_4 rfl (lv_at hl 1 rfl) ?_
  refine v_aald C k_1 rfl rfl h1 (q_cnt (vp_lt h1)) dX7_hasPulse_5 ?_
  refine v_getI C iX7_hasPulse_X2 (k_cnt (vp_lt h1)) rfl rfl (j := 3) rfl (by decide) rfl (C.w 2 rfl) dX7_hasPulse_6 ?_
  refine v_by (v := 1) (fun c_1 => ?_) (fun c_1 => ?_)
  · refine v_tabIn (off := 27) (tgt := 36) C dX7_hasPulse_9 c_1 (by decide) (by decide) (by decide) (by decide) ?_
    refine v_iconst (v := 1) C dX7_hasPulse_36 (by decide) ?_
    exact hret _ _ _ _ (Eq.symm ((if_pos c_1).trans rfl)) rfl rfl dX7_hasPulse_37
  · refine v_by (v := 2) (fun c_2 => ?_) (fun c_2 => ?_)
    · refine v_tabIn (off := 29) (tgt := 38) C dX7_hasPulse_9 c_2 (by decide) (by decide) (by decide) (by decide) ?_
      refine v_iload_n C dX7_hasPulse_38 rfl (lv_at hl 1 rfl) ?_
      refine v_if_le (tgt := 60) C dX7_hasPulse_39 (by decide) (fun c_3 => ?_) (fun c_3 => ?_)
      · refine v_iconst (v := 0) C dX7_hasPulse_60 (by decide) ?_
        exact hret _ _ _ _ (Eq.symm ((if_neg c_1).trans ((if_pos c_2).trans ((if_pos c_3).trans rfl)))) rfl rfl dX7_hasPulse_61
      · refine v_aload_n C dX7_hasPulse_42 rfl (lv_at hl 0 rfl) ?_
        refine v_getR C iX7_hasPulse_X7 k_0 rfl rfl (j := 0) rfl (by decide) rfl (C.w 1 rfl) dX7_hasPulse_43 ?_
        refine v_iload_n C dX7_hasPulse_46 rfl (lv_at hl 1 rfl) ?_
        refine v_iconst (v := 1) C dX7_hasPulse_47 (by decide) ?_
        refine v_isub C dX7_hasPulse_48 ?_
        refine v_aald C k_1 rfl rfl (pm_in h1 c_3) (q_cnt (vp_lt (pm_in h1 c_3))) dX7_hasPulse_49 ?_
        refine v_getI C iX7_hasPulse_X2 (k_cnt (vp_lt (pm_in h1 c_3))) rfl rfl (j := 9) rfl (by decide) rfl (C.w 3 rfl) dX7_hasPulse_50 ?_
        refine v_if_eq (tgt := 60) C dX7_hasPulse_53 (by decide) (fun c_4 => ?_) (fun c_4 => ?_)
        · refine v_iconst (v := 0) C dX7_hasPulse_60 (by decide) ?_
          exact hret _ _ _ _ (Eq.symm ((if_neg c_1).trans ((if_pos c_2).trans ((if_neg c_3).trans ((if_pos c_4).trans rfl))))) rfl rfl dX7_hasPulse_61
        · refine v_iconst (v := 1) C dX7_hasPulse_56 (by decide) ?_
          refine v_goto (tgt := 61) C dX7_hasPulse_57 (by decide) ?_
          exact hret _ _ _ _ (Eq.symm ((if_neg c_1).trans ((if_pos c_2).trans ((if_neg c_3).trans ((if_neg c_4).trans rfl))))) rfl rfl dX7_hasPulse_61
    · refine v_by (v := 3) (fun c_5 => ?_) (fun c_5 => ?_)
      · refine v_tabIn (off := 53) (tgt := 62) C dX7_hasPulse_9 c_5 (by decide) (by decide) (by decide) (by decide) ?_
        refine v_aload_n C dX7_hasPulse_62 rfl (lv_at hl 0 rfl) ?_
        refine v_getR C iX7_hasPulse_X7 k_0 rfl rfl (j := 1) rfl (by decide) rfl (C.w 4 rfl) dX7_hasPulse_63 ?_
        refine v_iload_n C dX7_hasPulse_66 rfl (lv_at hl 1 rfl) ?_
        refine v_aald C k_2 rfl rfl h1 (q_inp (vp_lt h1)) dX7_hasPulse_67 ?_
        refine v_getI C iX7_hasPulse_X3 (k_inp (vp_lt h1)) rfl rfl (j := 4) rfl (by decide) rfl (C.w 5 rfl) dX7_hasPulse_68 ?_
        refine v_iconst (v := 1) C dX7_hasPulse_71 (by decide) ?_
        refine v_icmp_ne (tgt := 79) C dX7_hasPulse_72 (by decide) (fun c_6 => ?_) (fun c_6 => ?_)
        · refine v_iconst (v := 0) C dX7_hasPulse_79 (by decide) ?_
          exact hret _ _ _ _ (Eq.symm ((if_neg c_1).trans ((if_neg c_2).trans ((if_pos c_5).trans ((if_neg c_6).trans rfl))))) rfl rfl dX7_hasPulse_80
        · refine v_iconst (v := 1) C dX7_hasPulse_75 (by decide) ?_
          refine v_goto (tgt := 80) C dX7_hasPulse_76 (by decide) ?_
          exact hret _ _ _ _ (Eq.symm ((if_neg c_1).trans ((if_neg c_2).trans ((if_pos c_5).trans ((if_pos c_6).trans rfl))))) rfl rfl dX7_hasPulse_80
      · refine v_tabOut (tgt := 81) C dX7_hasPulse_9 (by have h0 := lv_neT (a := 1) c_1 (by decide); have h1 := lv_neT (a := 2) c_2 (by decide); have h2 := lv_neT (a := 3) c_5 (by decide); omega) (by decide) ?_
        refine v_iconst (v := 0) C dX7_hasPulse_81 (by decide) ?_
        exact hret _ _ _ _ (Eq.symm ((if_neg c_1).trans ((if_neg c_2).trans ((if_neg c_5).trans rfl)))) rfl rfl dX7_hasPulse_82
theorem X7_hasPulse_z (a1 : Int32) (t : ct_St) : narrow .boolean (.int (X7_hasPulse_r a1 t)) = .int (X7_hasPulse_r a1 t) := by
  dsimp only [X7_hasPulse_r]
  (repeat' split) <;> first | rfl
theorem iX7_workOutPins_X7 : ∀ w ∈ wsX70, w ∈ wsX7_workOutPins := fun _ h => (List.mem_cons_of_mem _ (List.mem_append_left _ (List.mem_append_left _ (List.mem_append_right _ h))))
theorem pin_in {y x : Int32} (hy : vp_in y 4) (hx : vp_in x 2) : vp_in (2 * y + x) 8 := by
  obtain ⟨i, hi, rfl⟩ := vp_in_of hy (by decide)
  obtain ⟨j, hj, rfl⟩ := vp_in_of hx (by decide)
  rw [show (2 : Int32) * nI i = nI (2 * i) from pk_mul 2 i, nI_add]
  exact vp_in_nI (by omega) (by decide)
theorem nxt_in {n : Int32} (h : vp_in n 24) : vp_in ((n + 1) - (n + 1) / 24 * 24) 24 := by
  obtain ⟨i, hi, rfl⟩ := vp_in_of h (by decide)
  rw [nI_1, show nI (i + 1) - nI (i + 1) / 24 * 24 = nI ((i + 1) % 24) from pk_rem (d := 24) (by omega) (by decide) (by decide)]
  exact vp_in_nI (Nat.mod_lt _ (by decide)) (by decide)
theorem hv_X7_workOutPins : yX7_workOutPins.cls = RX7 ∧ yX7_workOutPins.cls ≠ "java/lang/invoke/MethodHandle" ∧ yX7_workOutPins.cls ≠ "java/lang/invoke/VarHandle" ∧ (parseMethodDescriptor yX7_workOutPins.desc).map (fun d => d.parameters.length) = some 0 := by decide +kernel
def X7_wopi_it (y : Int32) (x : Int32) (t : ct_St) : ct_St :=
  let t1 := X5_drive_s ((2 * y) + x) (X1_pinLevel_r x (t 0 8) (t (24 + ix y))) (t 0 7) t
  t1
theorem X7_wopi_it_fr (y : Int32) (x : Int32) (t : ct_St) {r : Nat} (h6 : r ≠ 6) (h8 : r ≠ 8) (h9 : r ≠ 9) (h10 : r ≠ 10) (h11 : r ≠ 11) : X7_wopi_it y x t r = t r := by
  dsimp only [X7_wopi_it]
  (repeat' split) <;> simp only [us_ne, ur_ne, h6, h8, h9, h10, h11, ne_eq, not_false_eq_true, X5_drive_s_fr]
theorem dr65 (a1 a2 a3 : Int32) (t : ct_St) (h : vp_in (t 6 5) 24) : vp_in (X5_drive_s a1 a2 a3 t 6 5) 24 := by
  unfold X5_drive_s
  split
  · exact h
  · show vp_in ((t 6 5 + 1) - (t 6 5 + 1) / 24 * 24) 24
    exact nxt_in h
theorem ok_X7_wopi_it (y x : Int32) (t : ct_St) (h : okC t) : okC (X7_wopi_it y x t) := by
  have e : ∀ r, (∀ q, q ∈ [6, 8, 9, 10, 11] → r ≠ q) → X7_wopi_it y x t r = t r := fun r hr => X7_wopi_it_fr y x t (hr 6 (by decide)) (hr 8 (by decide)) (hr 9 (by decide)) (hr 10 (by decide)) (hr 11 (by decide))
  refine okC_of h (fun j hj => ?_) (fun j hj => ?_) (fun j hj => ?_) (e 7 (by decide)) (dr65 _ _ _ t h.2.2.2.2.2)
  · rw [e _ (by intro q hq; simp at hq; omega)]
  · rw [e _ (by intro q hq; simp at hq; omega)]
  · rw [e _ (by intro q hq; simp at hq; omega)]
set_option maxHeartbeats 4000000 in
set_option maxRecDepth 100000 in
theorem cb_X7_wopi {p : Program} {e : Env} {s : State} {m : MethodId} {args : Array Value} {below : List Frame} {meth : Method} {cd : Code} {A : Nat → Prop} {Q : State → Prop} (l : Launch) (g : ct_G) (C : Cx p s m args cd A g cX7_workOutPins RX7 wsX7_workOutPins 3) (t : ct_St) (y : Int32) (x : Int32) (hx : vp_in x 2) (hy : vp_in y 4) (hc : okC t) (K : ∀ (ls : Array Slot) (x1 : Int32), x1 = x + 1 → lv_has ls 3 [(0, .ref (g.2.1 0)), (1, .int y), (2, .int x1)] → VW p l e (rmd 2) s m args below meth cd 0 0 Q A g shG (X7_wopi_it y x t) (F0 m 9 ls [])) (ls : Array Slot) (hl : lv_has ls 3 [(0, .ref (g.2.1 0)), (1, .int y), (2, .int x)]) : VW p l e (rmd 2) s m args below meth cd 0 0 Q A g shG t (F0 m 9 ls []) := by
  refine v_iload_n C dX7_workOutPins_9 rfl (lv_at hl 2 rfl) ?_
  refine v_iconst (v := 2) C dX7_workOutPins_10 (by decide) ?_
  refine v_icmp_ge (tgt := 50) C dX7_workOutPins_11 (by decide) (fun h => absurd h ((vp_nle hx (by decide)))) (fun _ => ?_)
  refine v_aload_n C dX7_workOutPins_14 rfl (lv_at hl 0 rfl) ?_
  refine v_getR C iX7_workOutPins_X7 k_0 rfl rfl (j := 5) rfl (by decide) rfl (C.w 1 rfl) dX7_workOutPins_15 ?_
  refine v_iconst (v := 2) C dX7_workOutPins_18 (by decide) ?_
  refine v_iload_n C dX7_workOutPins_19 rfl (lv_at hl 1 rfl) ?_
  refine v_imul C dX7_workOutPins_20 ?_
  refine v_iload_n C dX7_workOutPins_21 rfl (lv_at hl 2 rfl) ?_
  refine v_iadd C dX7_workOutPins_22 ?_
  refine v_aload_n C dX7_workOutPins_23 rfl (lv_at hl 0 rfl) ?_
  refine v_getR C iX7_workOutPins_X7 k_0 rfl rfl (j := 3) rfl (by decide) rfl (C.w 2 rfl) dX7_workOutPins_24 ?_
  refine v_iload_n C dX7_workOutPins_27 rfl (lv_at hl 1 rfl) ?_
  refine v_aald C k_4 rfl rfl hy (q_chn (vp_lt hy)) dX7_workOutPins_28 ?_
  refine v_iload_n C dX7_workOutPins_29 rfl (lv_at hl 2 rfl) ?_
  refine v_aload_n C dX7_workOutPins_30 rfl (lv_at hl 0 rfl) ?_
  refine v_getI C iX7_workOutPins_X7 k_0 rfl rfl (j := 8) rfl (by decide) rfl (C.w 3 rfl) dX7_workOutPins_31 ?_
  refine v_calli C (MI.un (c_X1_pinLevel l g _ _ (k_chn (vp_lt hy)) _ _ _)) (cwV 2 C.2.2.2.2.1 gX7_workOutPins_X1_pinLevel rfl rfl rfl hv_X1_pinLevel ⟨Nat.le_of_ble_eq_true rfl, Nat.le_of_ble_eq_true rfl⟩) (k_chn (vp_lt hy)) rfl rfl rfl rfl hl.1 rfl (Nat.le_of_ble_eq_true rfl) dX7_workOutPins_34 ⟨Nat.le_refl _, Nat.le_refl _⟩ ?_
  refine VW.st (ur_self _ _) ?_
  refine v_aload_n C dX7_workOutPins_37 rfl (lv_at hl 0 rfl) ?_
  refine v_getI C iX7_workOutPins_X7 k_0 rfl rfl (j := 7) rfl (by decide) rfl (C.w 4 rfl) dX7_workOutPins_38 ?_
  refine v_callv C (c_X5_drive l g _ _ _ _ (pin_in hy hx) hc.2.2.2.2.2) (cwV 3 C.2.2.2.2.1 gX7_workOutPins_X5_drive rfl rfl rfl hv_X5_drive ⟨Nat.le_of_ble_eq_true rfl, Nat.le_of_ble_eq_true rfl⟩) k_6 rfl rfl rfl rfl hl.1 rfl (Nat.le_of_ble_eq_true rfl) dX7_workOutPins_41 ⟨Nat.le_refl _, Nat.le_refl _⟩ ?_
  refine v_iinc (k0 := 2) (v := _ + 1) (lv' := [(2, _), (0, _), (1, _)]) C dX7_workOutPins_44 hl rfl rfl (by decide) rfl (fun ls hl => ?_)
  refine v_goto (tgt := 9) C dX7_workOutPins_47 (by decide) ?_
  exact VW.st rfl (K ls _ rfl (lv_sub hl [1, 2, 0] rfl))
def X7_wop_it (x : Int32) (t : ct_St) : ct_St :=
  let t1 := X7_wopi_it x 0 t
  let t2 := X7_wopi_it x 1 t1
  t2
theorem X7_wop_it_fr (x : Int32) (t : ct_St) {r : Nat} (h6 : r ≠ 6) (h8 : r ≠ 8) (h9 : r ≠ 9) (h10 : r ≠ 10) (h11 : r ≠ 11) : X7_wop_it x t r = t r := by
  dsimp only [X7_wop_it]
  (repeat' split) <;> simp only [us_ne, ur_ne, h6, h8, h9, h10, h11, ne_eq, not_false_eq_true, X7_wopi_it_fr]
theorem ok_X7_wop_it (x : Int32) (t : ct_St) (h : okC t) : okC (X7_wop_it x t) := by
  dsimp only [X7_wop_it]
  exact ok_X7_wopi_it _ _ _ (ok_X7_wopi_it _ _ _ h)
set_option maxHeartbeats 4000000 in
set_option maxRecDepth 100000 in
theorem cb_X7_wop {p : Program} {e : Env} {s : State} {m : MethodId} {args : Array Value} {below : List Frame} {meth : Method} {cd : Code} {A : Nat → Prop} {Q : State → Prop} (l : Launch) (g : ct_G) (C : Cx p s m args cd A g cX7_workOutPins RX7 wsX7_workOutPins 3) (t : ct_St) (x : Int32) (hx : vp_in x 4) (hc : okC t) (K : ∀ (ls : Array Slot) (x1 : Int32), x1 = x + 1 → lv_has ls 3 [(0, .ref (g.2.1 0)), (1, .int x1)] → VW p l e (rmd 2) s m args below meth cd 0 0 Q A g shG (X7_wop_it x t) (F0 m 2 ls [])) (ls : Array Slot) (hl : lv_has ls 3 [(0, .ref (g.2.1 0)), (1, .int x)]) : VW p l e (rmd 2) s m args below meth cd 0 0 Q A g shG t (F0 m 2 ls []) := by
  refine v_iload_n C dX7_workOutPins_2 rfl (lv_at hl 1 rfl) ?_
  refine v_iconst (v := 4) C dX7_workOutPins_3 (by decide) ?_
  refine v_icmp_ge (tgt := 56) C dX7_workOutPins_4 (by decide) (fun h => absurd h ((vp_nle hx (by decide)))) (fun _ => ?_)
  refine v_iconst (v := 0) C dX7_workOutPins_7 (by decide) ?_
  refine v_istore_n (lv' := [(2, _), (0, _), (1, _)]) C dX7_workOutPins_8 rfl hl (by decide) rfl (fun ls hl => ?_)
  refine cb_X7_wopi l g C _ _ 0 vl_0_2 hx hc (fun ls x1 hx1 hl => ?_) ls (lv_sub hl [1, 2, 0] rfl)
  obtain rfl : x1 = 1 := hx1.trans (by decide)
  refine cb_X7_wopi l g C _ _ 1 vl_1_2 hx (ok_X7_wopi_it _ _ _ hc) (fun ls x1 hx1 hl => ?_) ls (lv_sub hl [0, 1, 2] rfl)
  obtain rfl : x1 = 2 := hx1.trans (by decide)
  refine v_iload_n C dX7_workOutPins_9 rfl (lv_at hl 2 rfl) ?_
  refine v_iconst (v := 2) C dX7_workOutPins_10 (by decide) ?_
  refine v_icmp_ge (tgt := 50) C dX7_workOutPins_11 (by decide) (fun _ => ?_) (fun h => absurd h (by decide))
  refine v_iinc (k0 := 1) (v := _ + 1) (lv' := [(1, _), (0, _), (2, _)]) C dX7_workOutPins_50 hl rfl rfl (by decide) rfl (fun ls hl => ?_)
  refine v_goto (tgt := 2) C dX7_workOutPins_53 (by decide) ?_
  exact VW.st rfl (K ls _ rfl (lv_sub hl [1, 0] rfl))
def X7_workOutPins_s (t : ct_St) : ct_St :=
  let t1 := X7_wop_it 0 t
  let t2 := X7_wop_it 1 t1
  let t3 := X7_wop_it 2 t2
  let t4 := X7_wop_it 3 t3
  t4
set_option maxHeartbeats 4000000 in
set_option maxRecDepth 100000 in
theorem c_X7_workOutPins (l : Launch) (g : ct_G) (t : ct_St) (hc : okC t) : MV l g shG yX7_workOutPins wsX7_workOutPins (rmd 2) [.ref (g.2.1 0)] t (X7_workOutPins_s t) := by
  refine MV.of (own := RX7) (cc := cX7_workOutPins) (maxL := 3) rfl (by decide) rfl (Nat.le_of_ble_eq_true rfl) (fun p e s m args below meth cd A Q C hret ls hl => ?_)
  have hl : lv_has ls 3 [(0, .ref (g.2.1 0))] := hl
  refine v_iconst (v := 0) C dX7_workOutPins_0 (by decide) ?_
  refine v_istore_n (lv' := [(1, _), (0, _)]) C dX7_workOutPins_1 rfl hl (by decide) rfl (fun ls hl => ?_)
  refine cb_X7_wop l g C _ 0 vl_0_4 hc (fun ls x1 hx1 hl => ?_) ls (lv_sub hl [1, 0] rfl)
  obtain rfl : x1 = 1 := hx1.trans (by decide)
  refine cb_X7_wop l g C _ 1 vl_1_4 (ok_X7_wop_it _ _ hc) (fun ls x1 hx1 hl => ?_) ls (lv_sub hl [0, 1] rfl)
  obtain rfl : x1 = 2 := hx1.trans (by decide)
  refine cb_X7_wop l g C _ 2 vl_2_4 (ok_X7_wop_it _ _ (ok_X7_wop_it _ _ hc)) (fun ls x1 hx1 hl => ?_) ls (lv_sub hl [0, 1] rfl)
  obtain rfl : x1 = 3 := hx1.trans (by decide)
  refine cb_X7_wop l g C _ 3 vl_3_4 (ok_X7_wop_it _ _ (ok_X7_wop_it _ _ (ok_X7_wop_it _ _ hc))) (fun ls x1 hx1 hl => ?_) ls (lv_sub hl [0, 1] rfl)
  obtain rfl : x1 = 4 := hx1.trans (by decide)
  refine v_iload_n C dX7_workOutPins_2 rfl (lv_at hl 1 rfl) ?_
  refine v_iconst (v := 4) C dX7_workOutPins_3 (by decide) ?_
  refine v_icmp_ge (tgt := 56) C dX7_workOutPins_4 (by decide) (fun _ => ?_) (fun h => absurd h (by decide))
  exact hret _ _ _ rfl dX7_workOutPins_56
theorem ok_X7_workOutPins_s (t : ct_St) (h : okC t) : okC (X7_workOutPins_s t) := by
  dsimp only [X7_workOutPins_s]
  exact ok_X7_wop_it _ _ (ok_X7_wop_it _ _ (ok_X7_wop_it _ _ (ok_X7_wop_it _ _ h)))
theorem X7_workOutPins_s_fr (t : ct_St) {r : Nat} (h6 : r ≠ 6) (h8 : r ≠ 8) (h9 : r ≠ 9) (h10 : r ≠ 10) (h11 : r ≠ 11) : X7_workOutPins_s t r = t r := by
  dsimp only [X7_workOutPins_s]
  (repeat' split) <;> simp only [us_ne, ur_ne, h6, h8, h9, h10, h11, ne_eq, not_false_eq_true, X7_wop_it_fr, X7_wopi_it_fr]
theorem iX7_channel_X7 : ∀ w ∈ wsX70, w ∈ wsX7_channel := fun _ h => (List.mem_cons_of_mem _ (List.mem_append_left _ (List.mem_append_left _ (List.mem_append_right _ h))))
theorem okC_chn {t : ct_St} {x : Int32} {f : Nat → Int32} (h : okC t) (hx : vp_in x 4) (hf : f 0 = t (24 + ix x) 0 ∨ vp_in (f 0) 4) : okC (ur t (24 + ix x) f) := by
  have hl := vp_lt hx
  refine ⟨fun j hj => by rw [ur_ne _ _ (by omega)]; exact h.1 j hj, fun j hj => by rw [ur_ne _ _ (by omega)]; exact h.2.1 j hj, fun j hj => ?_, by rw [ur_ne _ _ (by omega)]; exact h.2.2.2.1, by rw [ur_ne _ _ (by omega)]; exact h.2.2.2.2.1, by rw [ur_ne _ _ (by omega)]; exact h.2.2.2.2.2⟩
  by_cases e : 24 + j = 24 + ix x
  · rw [e, ur_at]
    rcases hf with q | q
    · rw [q]; exact h.2.2.1 _ hl
    · exact q
  · rw [ur_ne _ _ e]; exact h.2.2.1 j hj
theorem hv_X7_channel : yX7_channel.cls = RX7 ∧ yX7_channel.cls ≠ "java/lang/invoke/MethodHandle" ∧ yX7_channel.cls ≠ "java/lang/invoke/VarHandle" ∧ (parseMethodDescriptor yX7_channel.desc).map (fun d => d.parameters.length) = some 4 := by decide +kernel
def X7_channel_r (a1 : Int32) (a2 : Int32) (a3 : Int32) (a4 : Int32) : Int32 :=
  if X7_isOneOf_r 4 a1 = 0 then
    (-1)
  else
    if X7_isOneOf_r 4 a2 = 0 then
      (-1)
    else
      if X7_within_r a3 0 4 = 0 then
        (-2)
      else
        if X7_within_r a4 0 9999 = 0 then
          (-2)
        else
          1
def X7_channel_s (a1 : Int32) (a2 : Int32) (a3 : Int32) (a4 : Int32) (t : ct_St) : ct_St :=
  if X7_isOneOf_r 4 a1 = 0 then
    t
  else
    if X7_isOneOf_r 4 a2 = 0 then
      t
    else
      if X7_within_r a3 0 4 = 0 then
        t
      else
        if X7_within_r a4 0 9999 = 0 then
          t
        else
          let t1 := ur t (24 + ix a1) (X1_setUp_s a2 a3 a4 (t (24 + ix a1)))
          let t2 := X7_workOutPins_s t1
          t2
set_option maxHeartbeats 4000000 in
set_option maxRecDepth 100000 in
theorem c_X7_channel (l : Launch) (g : ct_G) (t : ct_St) (a1 : Int32) (a2 : Int32) (a3 : Int32) (a4 : Int32) (hc : okC t) : MI l g shG yX7_channel wsX7_channel (rmd 3) [.ref (g.2.1 0), .int a1, .int a2, .int a3, .int a4] t (X7_channel_r a1 a2 a3 a4) (X7_channel_s a1 a2 a3 a4 t) := by
  refine MI.of (own := RX7) (cc := cX7_channel) (maxL := 5) rfl (by decide) rfl (Nat.le_of_ble_eq_true rfl) (fun p e s m args below meth cd A Q C hret ls hl => ?_)
  have hl : lv_has ls 5 [(0, .ref (g.2.1 0)), (1, .int a1), (2, .int a2), (3, .int a3), (4, .int a4)] := hl
  refine v_iconst (v := 4) C dX7_channel_0 (by decide) ?_
  refine v_iload_n C dX7_channel_1 rfl (lv_at hl 1 rfl) ?_
  refine v_scalli C (c_X7_isOneOf l g _ _ _) (va_cwS 2 C.2.2.2.2.1 gX7_channel_X7_isOneOf rfl rfl rfl hs_X7_isOneOf ⟨Nat.le_of_ble_eq_true rfl, Nat.le_of_ble_eq_true rfl⟩) rfl hl.1 rfl (Nat.le_of_ble_eq_true rfl) dX7_channel_2 ⟨Nat.le_refl _, Nat.le_refl _⟩ ?_
  refine v_if_eq (tgt := 16) C dX7_channel_5 (by decide) (fun c_1 => ?_) (fun c_1 => ?_)
  · refine v_iconst (v := (-1)) C dX7_channel_16 (by decide) ?_
    exact hret _ _ _ _ (Eq.symm ((if_pos c_1).trans rfl)) (Eq.symm ((if_pos c_1).trans rfl)) dX7_channel_17
  · refine v_iconst (v := 4) C dX7_channel_8 (by decide) ?_
    refine v_iload_n C dX7_channel_9 rfl (lv_at hl 2 rfl) ?_
    refine v_scalli C (c_X7_isOneOf l g _ _ _) (va_cwS 2 C.2.2.2.2.1 gX7_channel_X7_isOneOf rfl rfl rfl hs_X7_isOneOf ⟨Nat.le_of_ble_eq_true rfl, Nat.le_of_ble_eq_true rfl⟩) rfl hl.1 rfl (Nat.le_of_ble_eq_true rfl) dX7_channel_10 ⟨Nat.le_refl _, Nat.le_refl _⟩ ?_
    refine v_if_ne (tgt := 18) C dX7_channel_13 (by decide) (fun c_2 => ?_) (fun c_2 => ?_)
    · refine v_iload_n C dX7_channel_18 rfl (lv_at hl 3 rfl) ?_
      refine v_iconst (v := 0) C dX7_channel_19 (by decide) ?_
      refine v_iconst (v := 4) C dX7_channel_20 (by decide) ?_
      refine v_scalli C (c_X7_within l g _ _ _ _) (va_cwS 3 C.2.2.2.2.1 gX7_channel_X7_within rfl rfl rfl hs_X7_within ⟨Nat.le_of_ble_eq_true rfl, Nat.le_of_ble_eq_true rfl⟩) rfl hl.1 rfl (Nat.le_of_ble_eq_true rfl) dX7_channel_21 ⟨Nat.le_refl _, Nat.le_refl _⟩ ?_
      refine v_if_eq (tgt := 39) C dX7_channel_24 (by decide) (fun c_3 => ?_) (fun c_3 => ?_)
      · refine v_bipush (v := (-2)) C dX7_channel_39 (by decide) ?_
        exact hret _ _ _ _ (Eq.symm ((if_neg c_1).trans ((if_neg c_2).trans ((if_pos c_3).trans rfl)))) (Eq.symm ((if_neg c_1).trans ((if_neg c_2).trans ((if_pos c_3).trans rfl)))) dX7_channel_41
      · refine v_iload C dX7_channel_27 (lv_at hl 4 rfl) ?_
        refine v_iconst (v := 0) C dX7_channel_29 (by decide) ?_
        refine v_sipush (v := 9999) C dX7_channel_30 (by decide) ?_
        refine v_scalli C (c_X7_within l g _ _ _ _) (va_cwS 3 C.2.2.2.2.1 gX7_channel_X7_within rfl rfl rfl hs_X7_within ⟨Nat.le_of_ble_eq_true rfl, Nat.le_of_ble_eq_true rfl⟩) rfl hl.1 rfl (Nat.le_of_ble_eq_true rfl) dX7_channel_33 ⟨Nat.le_refl _, Nat.le_refl _⟩ ?_
        refine v_if_ne (tgt := 42) C dX7_channel_36 (by decide) (fun c_4 => ?_) (fun c_4 => ?_)
        · refine v_aload_n C dX7_channel_42 rfl (lv_at hl 0 rfl) ?_
          refine v_getR C iX7_channel_X7 k_0 rfl rfl (j := 3) rfl (by decide) rfl (C.w 1 rfl) dX7_channel_43 ?_
          refine v_iload_n C dX7_channel_46 rfl (lv_at hl 1 rfl) ?_
          refine v_aald C k_4 rfl rfl (isOneOf4_in c_1) (q_chn (vp_lt (isOneOf4_in c_1))) dX7_channel_47 ?_
          refine v_iload_n C dX7_channel_48 rfl (lv_at hl 2 rfl) ?_
          refine v_iload_n C dX7_channel_49 rfl (lv_at hl 3 rfl) ?_
          refine v_iload C dX7_channel_50 (lv_at hl 4 rfl) ?_
          refine v_callv C (MV.un (c_X1_setUp l g _ _ (k_chn (vp_lt (isOneOf4_in c_1))) _ _ _ _)) (cwV 3 C.2.2.2.2.1 gX7_channel_X1_setUp rfl rfl rfl hv_X1_setUp ⟨Nat.le_of_ble_eq_true rfl, Nat.le_of_ble_eq_true rfl⟩) (k_chn (vp_lt (isOneOf4_in c_1))) rfl rfl rfl rfl hl.1 rfl (Nat.le_of_ble_eq_true rfl) dX7_channel_52 ⟨Nat.le_refl _, Nat.le_refl _⟩ ?_
          refine v_aload_n C dX7_channel_55 rfl (lv_at hl 0 rfl) ?_
          refine v_callv C (c_X7_workOutPins l g _ (okC_chn hc (isOneOf4_in c_1) (Or.inr (isOneOf4_in c_2)))) (cwV 0 C.2.2.2.2.1 gX7_channel_X7_workOutPins rfl rfl rfl hv_X7_workOutPins ⟨Nat.le_of_ble_eq_true rfl, Nat.le_of_ble_eq_true rfl⟩) k_0 rfl rfl rfl rfl hl.1 rfl (Nat.le_of_ble_eq_true rfl) dX7_channel_56 ⟨Nat.le_refl _, Nat.le_refl _⟩ ?_
          refine v_iconst (v := 1) C dX7_channel_59 (by decide) ?_
          exact hret _ _ _ _ (Eq.symm ((if_neg c_1).trans ((if_neg c_2).trans ((if_neg c_3).trans ((if_neg c_4).trans rfl))))) (Eq.symm ((if_neg c_1).trans ((if_neg c_2).trans ((if_neg c_3).trans ((if_neg c_4).trans rfl))))) dX7_channel_60
        · refine v_bipush (v := (-2)) C dX7_channel_39 (by decide) ?_
          exact hret _ _ _ _ (Eq.symm ((if_neg c_1).trans ((if_neg c_2).trans ((if_neg c_3).trans ((if_pos c_4).trans rfl))))) (Eq.symm ((if_neg c_1).trans ((if_neg c_2).trans ((if_neg c_3).trans ((if_pos c_4).trans rfl))))) dX7_channel_41
    · refine v_iconst (v := (-1)) C dX7_channel_16 (by decide) ?_
      exact hret _ _ _ _ (Eq.symm ((if_neg c_1).trans ((if_pos c_2).trans rfl))) (Eq.symm ((if_neg c_1).trans ((if_pos c_2).trans rfl))) dX7_channel_17
-- no frame of X7_channel_s: ['6', '8', '9', '10', '11', '24 + ix a1']
theorem iX7_outputs_X7 : ∀ w ∈ wsX70, w ∈ wsX7_outputs := fun _ h => (List.mem_cons_of_mem _ (List.mem_append_left _ (List.mem_append_left _ (List.mem_append_right _ h))))
theorem hv_X7_outputs : yX7_outputs.cls = RX7 ∧ yX7_outputs.cls ≠ "java/lang/invoke/MethodHandle" ∧ yX7_outputs.cls ≠ "java/lang/invoke/VarHandle" ∧ (parseMethodDescriptor yX7_outputs.desc).map (fun d => d.parameters.length) = some 4 := by decide +kernel
def X7_outputs_r (a1 : Int32) (a2 : Int32) (a3 : Int32) (a4 : Int32) : Int32 :=
  if X7_isOneOf_r 4 a1 = 0 then
    (-1)
  else
    if X7_within_r a2 0 20 = 0 then
      (-2)
    else
      if X7_isSetOfOutputs_r a3 = 0 then
        (-2)
      else
        if X7_isSetOfOutputs_r a4 = 0 then
          (-2)
        else
          1
def X7_outputs_s (a1 : Int32) (a2 : Int32) (a3 : Int32) (a4 : Int32) (t : ct_St) : ct_St :=
  if X7_isOneOf_r 4 a1 = 0 then
    t
  else
    if X7_within_r a2 0 20 = 0 then
      t
    else
      if X7_isSetOfOutputs_r a3 = 0 then
        t
      else
        if X7_isSetOfOutputs_r a4 = 0 then
          t
        else
          let t1 := ur t (24 + ix a1) (X1_shapeOutputs_s a2 a3 a4 (t (24 + ix a1)))
          let t2 := X7_workOutPins_s t1
          t2
set_option maxHeartbeats 4000000 in
set_option maxRecDepth 100000 in
theorem c_X7_outputs (l : Launch) (g : ct_G) (t : ct_St) (a1 : Int32) (a2 : Int32) (a3 : Int32) (a4 : Int32) (hc : okC t) : MI l g shG yX7_outputs wsX7_outputs (rmd 3) [.ref (g.2.1 0), .int a1, .int a2, .int a3, .int a4] t (X7_outputs_r a1 a2 a3 a4) (X7_outputs_s a1 a2 a3 a4 t) := by
  refine MI.of (own := RX7) (cc := cX7_outputs) (maxL := 5) rfl (by decide) rfl (Nat.le_of_ble_eq_true rfl) (fun p e s m args below meth cd A Q C hret ls hl => ?_)
  have hl : lv_has ls 5 [(0, .ref (g.2.1 0)), (1, .int a1), (2, .int a2), (3, .int a3), (4, .int a4)] := hl
  refine v_iconst (v := 4) C dX7_outputs_0 (by decide) ?_
  refine v_iload_n C dX7_outputs_1 rfl (lv_at hl 1 rfl) ?_
  refine v_scalli C (c_X7_isOneOf l g _ _ _) (va_cwS 2 C.2.2.2.2.1 gX7_outputs_X7_isOneOf rfl rfl rfl hs_X7_isOneOf ⟨Nat.le_of_ble_eq_true rfl, Nat.le_of_ble_eq_true rfl⟩) rfl hl.1 rfl (Nat.le_of_ble_eq_true rfl) dX7_outputs_2 ⟨Nat.le_refl _, Nat.le_refl _⟩ ?_
  refine v_if_ne (tgt := 10) C dX7_outputs_5 (by decide) (fun c_1 => ?_) (fun c_1 => ?_)
  · refine v_iload_n C dX7_outputs_10 rfl (lv_at hl 2 rfl) ?_
    refine v_iconst (v := 0) C dX7_outputs_11 (by decide) ?_
    refine v_bipush (v := 20) C dX7_outputs_12 (by decide) ?_
    refine v_scalli C (c_X7_within l g _ _ _ _) (va_cwS 3 C.2.2.2.2.1 gX7_outputs_X7_within rfl rfl rfl hs_X7_within ⟨Nat.le_of_ble_eq_true rfl, Nat.le_of_ble_eq_true rfl⟩) rfl hl.1 rfl (Nat.le_of_ble_eq_true rfl) dX7_outputs_14 ⟨Nat.le_refl _, Nat.le_refl _⟩ ?_
    refine v_if_eq (tgt := 35) C dX7_outputs_17 (by decide) (fun c_2 => ?_) (fun c_2 => ?_)
    · refine v_bipush (v := (-2)) C dX7_outputs_35 (by decide) ?_
      exact hret _ _ _ _ (Eq.symm ((if_neg c_1).trans ((if_pos c_2).trans rfl))) (Eq.symm ((if_neg c_1).trans ((if_pos c_2).trans rfl))) dX7_outputs_37
    · refine v_iload_n C dX7_outputs_20 rfl (lv_at hl 3 rfl) ?_
      refine v_scalli C (c_X7_isSetOfOutputs l g _ _) (va_cwS 1 C.2.2.2.2.1 gX7_outputs_X7_isSetOfOutputs rfl rfl rfl hs_X7_isSetOfOutputs ⟨Nat.le_of_ble_eq_true rfl, Nat.le_of_ble_eq_true rfl⟩) rfl hl.1 rfl (Nat.le_of_ble_eq_true rfl) dX7_outputs_21 ⟨Nat.le_refl _, Nat.le_refl _⟩ ?_
      refine v_if_eq (tgt := 35) C dX7_outputs_24 (by decide) (fun c_3 => ?_) (fun c_3 => ?_)
      · refine v_bipush (v := (-2)) C dX7_outputs_35 (by decide) ?_
        exact hret _ _ _ _ (Eq.symm ((if_neg c_1).trans ((if_neg c_2).trans ((if_pos c_3).trans rfl)))) (Eq.symm ((if_neg c_1).trans ((if_neg c_2).trans ((if_pos c_3).trans rfl)))) dX7_outputs_37
      · refine v_iload C dX7_outputs_27 (lv_at hl 4 rfl) ?_
        refine v_scalli C (c_X7_isSetOfOutputs l g _ _) (va_cwS 1 C.2.2.2.2.1 gX7_outputs_X7_isSetOfOutputs rfl rfl rfl hs_X7_isSetOfOutputs ⟨Nat.le_of_ble_eq_true rfl, Nat.le_of_ble_eq_true rfl⟩) rfl hl.1 rfl (Nat.le_of_ble_eq_true rfl) dX7_outputs_29 ⟨Nat.le_refl _, Nat.le_refl _⟩ ?_
        refine v_if_ne (tgt := 38) C dX7_outputs_32 (by decide) (fun c_4 => ?_) (fun c_4 => ?_)
        · refine v_aload_n C dX7_outputs_38 rfl (lv_at hl 0 rfl) ?_
          refine v_getR C iX7_outputs_X7 k_0 rfl rfl (j := 3) rfl (by decide) rfl (C.w 1 rfl) dX7_outputs_39 ?_
          refine v_iload_n C dX7_outputs_42 rfl (lv_at hl 1 rfl) ?_
          refine v_aald C k_4 rfl rfl (isOneOf4_in c_1) (q_chn (vp_lt (isOneOf4_in c_1))) dX7_outputs_43 ?_
          refine v_iload_n C dX7_outputs_44 rfl (lv_at hl 2 rfl) ?_
          refine v_iload_n C dX7_outputs_45 rfl (lv_at hl 3 rfl) ?_
          refine v_iload C dX7_outputs_46 (lv_at hl 4 rfl) ?_
          refine v_callv C (MV.un (c_X1_shapeOutputs l g _ _ (k_chn (vp_lt (isOneOf4_in c_1))) _ _ _ _)) (cwV 3 C.2.2.2.2.1 gX7_outputs_X1_shapeOutputs rfl rfl rfl hv_X1_shapeOutputs ⟨Nat.le_of_ble_eq_true rfl, Nat.le_of_ble_eq_true rfl⟩) (k_chn (vp_lt (isOneOf4_in c_1))) rfl rfl rfl rfl hl.1 rfl (Nat.le_of_ble_eq_true rfl) dX7_outputs_48 ⟨Nat.le_refl _, Nat.le_refl _⟩ ?_
          refine v_aload_n C dX7_outputs_51 rfl (lv_at hl 0 rfl) ?_
          refine v_callv C (c_X7_workOutPins l g _ (okC_chn hc (isOneOf4_in c_1) (Or.inl rfl))) (cwV 0 C.2.2.2.2.1 gX7_outputs_X7_workOutPins rfl rfl rfl hv_X7_workOutPins ⟨Nat.le_of_ble_eq_true rfl, Nat.le_of_ble_eq_true rfl⟩) k_0 rfl rfl rfl rfl hl.1 rfl (Nat.le_of_ble_eq_true rfl) dX7_outputs_52 ⟨Nat.le_refl _, Nat.le_refl _⟩ ?_
          refine v_iconst (v := 1) C dX7_outputs_55 (by decide) ?_
          exact hret _ _ _ _ (Eq.symm ((if_neg c_1).trans ((if_neg c_2).trans ((if_neg c_3).trans ((if_neg c_4).trans rfl))))) (Eq.symm ((if_neg c_1).trans ((if_neg c_2).trans ((if_neg c_3).trans ((if_neg c_4).trans rfl))))) dX7_outputs_56
        · refine v_bipush (v := (-2)) C dX7_outputs_35 (by decide) ?_
          exact hret _ _ _ _ (Eq.symm ((if_neg c_1).trans ((if_neg c_2).trans ((if_neg c_3).trans ((if_pos c_4).trans rfl))))) (Eq.symm ((if_neg c_1).trans ((if_neg c_2).trans ((if_neg c_3).trans ((if_pos c_4).trans rfl))))) dX7_outputs_37
  · refine v_iconst (v := (-1)) C dX7_outputs_8 (by decide) ?_
    exact hret _ _ _ _ (Eq.symm ((if_pos c_1).trans rfl)) (Eq.symm ((if_pos c_1).trans rfl)) dX7_outputs_9
-- no frame of X7_outputs_s: ['6', '8', '9', '10', '11', '24 + ix a1']
theorem iX7_ofChannel_X7 : ∀ w ∈ wsX70, w ∈ wsX7_ofChannel := fun _ h => (List.mem_cons_of_mem _ (List.mem_append_left _ (List.mem_append_right _ h)))
theorem hv_X7_ofChannel : yX7_ofChannel.cls = RX7 ∧ yX7_ofChannel.cls ≠ "java/lang/invoke/MethodHandle" ∧ yX7_ofChannel.cls ≠ "java/lang/invoke/VarHandle" ∧ (parseMethodDescriptor yX7_ofChannel.desc).map (fun d => d.parameters.length) = some 2 := by decide +kernel
def X7_ofChannel_r (a1 : Int32) (a2 : Int32) (t : ct_St) : Int32 :=
  if X7_isOneOf_r 4 a1 = 0 then
    (-1)
  else
    X1_tell_r a2 (t 0 8) (t (24 + ix a1))
set_option maxHeartbeats 4000000 in
set_option maxRecDepth 100000 in
theorem c_X7_ofChannel (l : Launch) (g : ct_G) (t : ct_St) (a1 : Int32) (a2 : Int32) : MI l g shG yX7_ofChannel wsX7_ofChannel (rmd 2) [.ref (g.2.1 0), .int a1, .int a2] t (X7_ofChannel_r a1 a2 t) t := by
  refine MI.of (own := RX7) (cc := cX7_ofChannel) (maxL := 3) rfl (by decide) rfl (Nat.le_of_ble_eq_true rfl) (fun p e s m args below meth cd A Q C hret ls hl => ?_)
  have hl : lv_has ls 3 [(0, .ref (g.2.1 0)), (1, .int a1), (2, .int a2)] := hl
  refine v_iconst (v := 4) C dX7_ofChannel_0 (by decide) ?_
  refine v_iload_n C dX7_ofChannel_1 rfl (lv_at hl 1 rfl) ?_
  refine v_scalli C (c_X7_isOneOf l g _ _ _) (va_cwS 2 C.2.2.2.2.1 gX7_ofChannel_X7_isOneOf rfl rfl rfl hs_X7_isOneOf ⟨Nat.le_of_ble_eq_true rfl, Nat.le_of_ble_eq_true rfl⟩) rfl hl.1 rfl (Nat.le_of_ble_eq_true rfl) dX7_ofChannel_2 ⟨Nat.le_refl _, Nat.le_refl _⟩ ?_
  refine v_if_eq (tgt := 25) C dX7_ofChannel_5 (by decide) (fun c_1 => ?_) (fun c_1 => ?_)
  · refine v_iconst (v := (-1)) C dX7_ofChannel_25 (by decide) ?_
    exact hret _ _ _ _ (Eq.symm ((if_pos c_1).trans rfl)) rfl dX7_ofChannel_26
  · refine v_aload_n C dX7_ofChannel_8 rfl (lv_at hl 0 rfl) ?_
    refine v_getR C iX7_ofChannel_X7 k_0 rfl rfl (j := 3) rfl (by decide) rfl (C.w 1 rfl) dX7_ofChannel_9 ?_
    refine v_iload_n C dX7_ofChannel_12 rfl (lv_at hl 1 rfl) ?_
    refine v_aald C k_4 rfl rfl (isOneOf4_in c_1) (q_chn (vp_lt (isOneOf4_in c_1))) dX7_ofChannel_13 ?_
    refine v_iload_n C dX7_ofChannel_14 rfl (lv_at hl 2 rfl) ?_
    refine v_aload_n C dX7_ofChannel_15 rfl (lv_at hl 0 rfl) ?_
    refine v_getI C iX7_ofChannel_X7 k_0 rfl rfl (j := 8) rfl (by decide) rfl (C.w 2 rfl) dX7_ofChannel_16 ?_
    refine v_calli C (MI.un (c_X1_tell l g _ _ (k_chn (vp_lt (isOneOf4_in c_1))) _ _ _)) (cwV 2 C.2.2.2.2.1 gX7_ofChannel_X1_tell rfl rfl rfl hv_X1_tell ⟨Nat.le_of_ble_eq_true rfl, Nat.le_of_ble_eq_true rfl⟩) (k_chn (vp_lt (isOneOf4_in c_1))) rfl rfl rfl rfl hl.1 rfl (Nat.le_of_ble_eq_true rfl) dX7_ofChannel_19 ⟨Nat.le_refl _, Nat.le_refl _⟩ ?_
    refine VW.st (ur_self _ _) ?_
    refine v_goto (tgt := 26) C dX7_ofChannel_22 (by decide) ?_
    exact hret _ _ _ _ (Eq.symm ((if_neg c_1).trans rfl)) rfl dX7_ofChannel_26
theorem iX7_pin_X7 : ∀ w ∈ wsX70, w ∈ wsX7_pin := fun _ h => (List.mem_cons_of_mem _ (List.mem_append_left _ (List.mem_append_right _ h)))
theorem iX7_pin_X5 : ∀ w ∈ wsX50, w ∈ wsX7_pin := fun _ h => (List.mem_cons_of_mem _ (List.mem_append_right _ h))
theorem hv_X7_pin : yX7_pin.cls = RX7 ∧ yX7_pin.cls ≠ "java/lang/invoke/MethodHandle" ∧ yX7_pin.cls ≠ "java/lang/invoke/VarHandle" ∧ (parseMethodDescriptor yX7_pin.desc).map (fun d => d.parameters.length) = some 1 := by decide +kernel
def X7_pin_r (a1 : Int32) (t : ct_St) : Int32 :=
  if X7_isOneOf_r 8 a1 = 0 then
    (-2)
  else
    t 8 (ix a1)
set_option maxHeartbeats 4000000 in
set_option maxRecDepth 100000 in
theorem c_X7_pin (l : Launch) (g : ct_G) (t : ct_St) (a1 : Int32) : MI l g shG yX7_pin wsX7_pin (rmd 1) [.ref (g.2.1 0), .int a1] t (X7_pin_r a1 t) t := by
  refine MI.of (own := RX7) (cc := cX7_pin) (maxL := 2) rfl (by decide) rfl (Nat.le_of_ble_eq_true rfl) (fun p e s m args below meth cd A Q C hret ls hl => ?_)
  have hl : lv_has ls 2 [(0, .ref (g.2.1 0)), (1, .int a1)] := hl
  refine v_bipush (v := 8) C dX7_pin_0 (by decide) ?_
  refine v_iload_n C dX7_pin_2 rfl (lv_at hl 1 rfl) ?_
  refine v_scalli C (c_X7_isOneOf l g _ _ _) (va_cwS 2 C.2.2.2.2.1 gX7_pin_X7_isOneOf rfl rfl rfl hs_X7_isOneOf ⟨Nat.le_of_ble_eq_true rfl, Nat.le_of_ble_eq_true rfl⟩) rfl hl.1 rfl (Nat.le_of_ble_eq_true rfl) dX7_pin_3 ⟨Nat.le_refl _, Nat.le_refl _⟩ ?_
  refine v_if_eq (tgt := 21) C dX7_pin_6 (by decide) (fun c_1 => ?_) (fun c_1 => ?_)
  · refine v_bipush (v := (-2)) C dX7_pin_21 (by decide) ?_
    exact hret _ _ _ _ (Eq.symm ((if_pos c_1).trans rfl)) rfl dX7_pin_23
  · refine v_aload_n C dX7_pin_9 rfl (lv_at hl 0 rfl) ?_
    refine v_getR C iX7_pin_X7 k_0 rfl rfl (j := 5) rfl (by decide) rfl (C.w 1 rfl) dX7_pin_10 ?_
    refine v_getR C iX7_pin_X5 k_6 rfl rfl (j := 0) rfl (by decide) rfl (C.w 2 rfl) dX7_pin_13 ?_
    refine v_iload_n C dX7_pin_16 rfl (lv_at hl 1 rfl) ?_
    refine v_iald C k_8 rfl (isOneOf8_in c_1) dX7_pin_17 ?_
    refine v_goto (tgt := 23) C dX7_pin_18 (by decide) ?_
    exact hret _ _ _ _ (Eq.symm ((if_neg c_1).trans rfl)) rfl dX7_pin_23
theorem iX7_brake_X7 : ∀ w ∈ wsX70, w ∈ wsX7_brake := fun _ h => (List.mem_cons_of_mem _ (List.mem_append_left _ (List.mem_append_left _ (List.mem_append_right _ h))))
theorem hv_X7_brake : yX7_brake.cls = RX7 ∧ yX7_brake.cls ≠ "java/lang/invoke/MethodHandle" ∧ yX7_brake.cls ≠ "java/lang/invoke/VarHandle" ∧ (parseMethodDescriptor yX7_brake.desc).map (fun d => d.parameters.length) = some 0 := by decide +kernel
def X7_brake_r (t : ct_St) : Int32 :=
  if t 0 8 = 0 then
    1
  else
    0
def X7_brake_s (t : ct_St) : ct_St :=
  if t 0 8 = 0 then
    let t1 := us t 0 8 1
    let t2 := X7_workOutPins_s t1
    t2
  else
    let t3 := us t 0 8 1
    let t4 := X7_workOutPins_s t3
    t4
set_option maxHeartbeats 4000000 in
set_option maxRecDepth 100000 in
theorem c_X7_brake (l : Launch) (g : ct_G) (t : ct_St) (hc : okC t) : MI l g shG yX7_brake wsX7_brake (rmd 3) [.ref (g.2.1 0)] t (X7_brake_r t) (X7_brake_s t) := by
  refine MI.of (own := RX7) (cc := cX7_brake) (maxL := 2) rfl (by decide) rfl (Nat.le_of_ble_eq_true rfl) (fun p e s m args below meth cd A Q C hret ls hl => ?_)
  have hl : lv_has ls 2 [(0, .ref (g.2.1 0))] := hl
  refine v_aload_n C dX7_brake_0 rfl (lv_at hl 0 rfl) ?_
  refine v_getI C iX7_brake_X7 k_0 rfl rfl (j := 8) rfl (by decide) rfl (C.w 1 rfl) dX7_brake_1 ?_
  refine v_if_eq (tgt := 11) C dX7_brake_4 (by decide) (fun c_1 => ?_) (fun c_1 => ?_)
  · refine v_iconst (v := 1) C dX7_brake_11 (by decide) ?_
    refine v_istore_n (lv' := [(1, _), (0, _)]) C dX7_brake_12 rfl hl (by decide) rfl (fun ls hl => ?_)
    refine v_aload_n C dX7_brake_13 rfl (lv_at hl 1 rfl) ?_
    refine v_iconst (v := 1) C dX7_brake_14 (by decide) ?_
    refine v_put C iX7_brake_X7 tyX7 tyX7_ok nmX7 k_0 rfl rfl (j := 8) rfl (by decide) rfl (C.w 1 rfl) rfl rfl rfl dX7_brake_15 ?_
    refine v_aload_n C dX7_brake_18 rfl (lv_at hl 1 rfl) ?_
    refine v_callv C (c_X7_workOutPins l g _ (okC_us hc (by intro j hj; omega) (by decide) (by decide))) (cwV 0 C.2.2.2.2.1 gX7_brake_X7_workOutPins rfl rfl rfl hv_X7_workOutPins ⟨Nat.le_of_ble_eq_true rfl, Nat.le_of_ble_eq_true rfl⟩) k_0 rfl rfl rfl rfl hl.1 rfl (Nat.le_of_ble_eq_true rfl) dX7_brake_19 ⟨Nat.le_refl _, Nat.le_refl _⟩ ?_
    refine v_iload_n C dX7_brake_22 rfl (lv_at hl 0 rfl) ?_
    exact hret _ _ _ _ (Eq.symm ((if_pos c_1).trans rfl)) (Eq.symm ((if_pos c_1).trans rfl)) dX7_brake_23
  · refine v_iconst (v := 0) C dX7_brake_7 (by decide) ?_
    refine v_goto (tgt := 12) C dX7_brake_8 (by decide) ?_
    refine v_istore_n (lv' := [(1, _), (0, _)]) C dX7_brake_12 rfl hl (by decide) rfl (fun ls hl => ?_)
    refine v_aload_n C dX7_brake_13 rfl (lv_at hl 1 rfl) ?_
    refine v_iconst (v := 1) C dX7_brake_14 (by decide) ?_
    refine v_put C iX7_brake_X7 tyX7 tyX7_ok nmX7 k_0 rfl rfl (j := 8) rfl (by decide) rfl (C.w 1 rfl) rfl rfl rfl dX7_brake_15 ?_
    refine v_aload_n C dX7_brake_18 rfl (lv_at hl 1 rfl) ?_
    refine v_callv C (c_X7_workOutPins l g _ (okC_us hc (by intro j hj; omega) (by decide) (by decide))) (cwV 0 C.2.2.2.2.1 gX7_brake_X7_workOutPins rfl rfl rfl hv_X7_workOutPins ⟨Nat.le_of_ble_eq_true rfl, Nat.le_of_ble_eq_true rfl⟩) k_0 rfl rfl rfl rfl hl.1 rfl (Nat.le_of_ble_eq_true rfl) dX7_brake_19 ⟨Nat.le_refl _, Nat.le_refl _⟩ ?_
    refine v_iload_n C dX7_brake_22 rfl (lv_at hl 0 rfl) ?_
    exact hret _ _ _ _ (Eq.symm ((if_neg c_1).trans rfl)) (Eq.symm ((if_neg c_1).trans rfl)) dX7_brake_23
theorem X7_brake_s_fr (t : ct_St) {r : Nat} (h0 : r ≠ 0) (h6 : r ≠ 6) (h8 : r ≠ 8) (h9 : r ≠ 9) (h10 : r ≠ 10) (h11 : r ≠ 11) : X7_brake_s t r = t r := by
  dsimp only [X7_brake_s]
  (repeat' split) <;> simp only [us_ne, ur_ne, h0, h6, h8, h9, h10, h11, ne_eq, not_false_eq_true, X7_workOutPins_s_fr]
theorem iX7_arm_X7 : ∀ w ∈ wsX70, w ∈ wsX7_arm := fun _ h => (List.mem_cons_of_mem _ (List.mem_append_left _ (List.mem_append_left _ (List.mem_append_right _ h))))
theorem hv_X7_arm : yX7_arm.cls = RX7 ∧ yX7_arm.cls ≠ "java/lang/invoke/MethodHandle" ∧ yX7_arm.cls ≠ "java/lang/invoke/VarHandle" ∧ (parseMethodDescriptor yX7_arm.desc).map (fun d => d.parameters.length) = some 0 := by decide +kernel
def X7_arm_r (t : ct_St) : Int32 :=
  if t 0 8 = 0 then
    0
  else
    1
def X7_arm_s (t : ct_St) : ct_St :=
  if t 0 8 = 0 then
    let t1 := us t 0 8 0
    let t2 := X7_workOutPins_s t1
    t2
  else
    let t3 := us t 0 8 0
    let t4 := X7_workOutPins_s t3
    t4
set_option maxHeartbeats 4000000 in
set_option maxRecDepth 100000 in
theorem c_X7_arm (l : Launch) (g : ct_G) (t : ct_St) (hc : okC t) : MI l g shG yX7_arm wsX7_arm (rmd 3) [.ref (g.2.1 0)] t (X7_arm_r t) (X7_arm_s t) := by
  refine MI.of (own := RX7) (cc := cX7_arm) (maxL := 2) rfl (by decide) rfl (Nat.le_of_ble_eq_true rfl) (fun p e s m args below meth cd A Q C hret ls hl => ?_)
  have hl : lv_has ls 2 [(0, .ref (g.2.1 0))] := hl
  refine v_aload_n C dX7_arm_0 rfl (lv_at hl 0 rfl) ?_
  refine v_getI C iX7_arm_X7 k_0 rfl rfl (j := 8) rfl (by decide) rfl (C.w 1 rfl) dX7_arm_1 ?_
  refine v_if_eq (tgt := 11) C dX7_arm_4 (by decide) (fun c_1 => ?_) (fun c_1 => ?_)
  · refine v_iconst (v := 0) C dX7_arm_11 (by decide) ?_
    refine v_istore_n (lv' := [(1, _), (0, _)]) C dX7_arm_12 rfl hl (by decide) rfl (fun ls hl => ?_)
    refine v_aload_n C dX7_arm_13 rfl (lv_at hl 1 rfl) ?_
    refine v_iconst (v := 0) C dX7_arm_14 (by decide) ?_
    refine v_put C iX7_arm_X7 tyX7 tyX7_ok nmX7 k_0 rfl rfl (j := 8) rfl (by decide) rfl (C.w 1 rfl) rfl rfl rfl dX7_arm_15 ?_
    refine v_aload_n C dX7_arm_18 rfl (lv_at hl 1 rfl) ?_
    refine v_callv C (c_X7_workOutPins l g _ (okC_us hc (by intro j hj; omega) (by decide) (by decide))) (cwV 0 C.2.2.2.2.1 gX7_arm_X7_workOutPins rfl rfl rfl hv_X7_workOutPins ⟨Nat.le_of_ble_eq_true rfl, Nat.le_of_ble_eq_true rfl⟩) k_0 rfl rfl rfl rfl hl.1 rfl (Nat.le_of_ble_eq_true rfl) dX7_arm_19 ⟨Nat.le_refl _, Nat.le_refl _⟩ ?_
    refine v_iload_n C dX7_arm_22 rfl (lv_at hl 0 rfl) ?_
    exact hret _ _ _ _ (Eq.symm ((if_pos c_1).trans rfl)) (Eq.symm ((if_pos c_1).trans rfl)) dX7_arm_23
  · refine v_iconst (v := 1) C dX7_arm_7 (by decide) ?_
    refine v_goto (tgt := 12) C dX7_arm_8 (by decide) ?_
    refine v_istore_n (lv' := [(1, _), (0, _)]) C dX7_arm_12 rfl hl (by decide) rfl (fun ls hl => ?_)
    refine v_aload_n C dX7_arm_13 rfl (lv_at hl 1 rfl) ?_
    refine v_iconst (v := 0) C dX7_arm_14 (by decide) ?_
    refine v_put C iX7_arm_X7 tyX7 tyX7_ok nmX7 k_0 rfl rfl (j := 8) rfl (by decide) rfl (C.w 1 rfl) rfl rfl rfl dX7_arm_15 ?_
    refine v_aload_n C dX7_arm_18 rfl (lv_at hl 1 rfl) ?_
    refine v_callv C (c_X7_workOutPins l g _ (okC_us hc (by intro j hj; omega) (by decide) (by decide))) (cwV 0 C.2.2.2.2.1 gX7_arm_X7_workOutPins rfl rfl rfl hv_X7_workOutPins ⟨Nat.le_of_ble_eq_true rfl, Nat.le_of_ble_eq_true rfl⟩) k_0 rfl rfl rfl rfl hl.1 rfl (Nat.le_of_ble_eq_true rfl) dX7_arm_19 ⟨Nat.le_refl _, Nat.le_refl _⟩ ?_
    refine v_iload_n C dX7_arm_22 rfl (lv_at hl 0 rfl) ?_
    exact hret _ _ _ _ (Eq.symm ((if_neg c_1).trans rfl)) (Eq.symm ((if_neg c_1).trans rfl)) dX7_arm_23
theorem X7_arm_s_fr (t : ct_St) {r : Nat} (h0 : r ≠ 0) (h6 : r ≠ 6) (h8 : r ≠ 8) (h9 : r ≠ 9) (h10 : r ≠ 10) (h11 : r ≠ 11) : X7_arm_s t r = t r := by
  dsimp only [X7_arm_s]
  (repeat' split) <;> simp only [us_ne, ur_ne, h0, h6, h8, h9, h10, h11, ne_eq, not_false_eq_true, X7_workOutPins_s_fr]
theorem iX7_record_X7 : ∀ w ∈ wsX70, w ∈ wsX7_record := fun _ h => (List.mem_cons_of_mem _ (List.mem_append_left _ (List.mem_append_right _ h)))
theorem hv_X7_record : yX7_record.cls = RX7 ∧ yX7_record.cls ≠ "java/lang/invoke/MethodHandle" ∧ yX7_record.cls ≠ "java/lang/invoke/VarHandle" ∧ (parseMethodDescriptor yX7_record.desc).map (fun d => d.parameters.length) = some 2 := by decide +kernel
def X7_record_r (a1 : Int32) (a2 : Int32) (t : ct_St) : Int32 :=
  if X7_isOneOf_r 24 a1 = 0 then
    (-2)
  else
    X5_tell_r a1 a2 t
set_option maxHeartbeats 4000000 in
set_option maxRecDepth 100000 in
theorem c_X7_record (l : Launch) (g : ct_G) (t : ct_St) (a1 : Int32) (a2 : Int32) (hn : vp_in (t 6 5) 24) : MI l g shG yX7_record wsX7_record (rmd 2) [.ref (g.2.1 0), .int a1, .int a2] t (X7_record_r a1 a2 t) t := by
  refine MI.of (own := RX7) (cc := cX7_record) (maxL := 3) rfl (by decide) rfl (Nat.le_of_ble_eq_true rfl) (fun p e s m args below meth cd A Q C hret ls hl => ?_)
  have hl : lv_has ls 3 [(0, .ref (g.2.1 0)), (1, .int a1), (2, .int a2)] := hl
  refine v_bipush (v := 24) C dX7_record_0 (by decide) ?_
  refine v_iload_n C dX7_record_2 rfl (lv_at hl 1 rfl) ?_
  refine v_scalli C (c_X7_isOneOf l g _ _ _) (va_cwS 2 C.2.2.2.2.1 gX7_record_X7_isOneOf rfl rfl rfl hs_X7_isOneOf ⟨Nat.le_of_ble_eq_true rfl, Nat.le_of_ble_eq_true rfl⟩) rfl hl.1 rfl (Nat.le_of_ble_eq_true rfl) dX7_record_3 ⟨Nat.le_refl _, Nat.le_refl _⟩ ?_
  refine v_if_eq (tgt := 21) C dX7_record_6 (by decide) (fun c_1 => ?_) (fun c_1 => ?_)
  · refine v_bipush (v := (-2)) C dX7_record_21 (by decide) ?_
    exact hret _ _ _ _ (Eq.symm ((if_pos c_1).trans rfl)) rfl dX7_record_23
  · refine v_aload_n C dX7_record_9 rfl (lv_at hl 0 rfl) ?_
    refine v_getR C iX7_record_X7 k_0 rfl rfl (j := 5) rfl (by decide) rfl (C.w 1 rfl) dX7_record_10 ?_
    refine v_iload_n C dX7_record_13 rfl (lv_at hl 1 rfl) ?_
    refine v_iload_n C dX7_record_14 rfl (lv_at hl 2 rfl) ?_
    refine v_calli C (c_X5_tell l g _ _ _ (isOneOf24_in c_1) hn) (cwV 2 C.2.2.2.2.1 gX7_record_X5_tell rfl rfl rfl hv_X5_tell ⟨Nat.le_of_ble_eq_true rfl, Nat.le_of_ble_eq_true rfl⟩) k_6 rfl rfl rfl rfl hl.1 rfl (Nat.le_of_ble_eq_true rfl) dX7_record_15 ⟨Nat.le_refl _, Nat.le_refl _⟩ ?_
    refine v_goto (tgt := 23) C dX7_record_18 (by decide) ?_
    exact hret _ _ _ _ (Eq.symm ((if_neg c_1).trans rfl)) rfl dX7_record_23
theorem iX7_holds_X7 : ∀ w ∈ wsX70, w ∈ wsX7_holds := fun _ h => (List.mem_cons_of_mem _ (List.mem_append_left _ (List.mem_append_right _ h)))
theorem iX7_holds_X4 : ∀ w ∈ wsX40, w ∈ wsX7_holds := fun _ h => (List.mem_cons_of_mem _ (List.mem_append_right _ h))
theorem hv_X7_holds : yX7_holds.cls = RX7 ∧ yX7_holds.cls ≠ "java/lang/invoke/MethodHandle" ∧ yX7_holds.cls ≠ "java/lang/invoke/VarHandle" ∧ (parseMethodDescriptor yX7_holds.desc).map (fun d => d.parameters.length) = some 2 := by decide +kernel
def X7_holds_r (a1 : Int32) (a2 : Int32) (t : ct_St) : Int32 :=
  if X7_isOneOf_r 2 a1 = 0 then
    (-1)
  else
    if X7_within_r a2 0 1 = 0 then
      (-2)
    else
      let x1 := t (28 + ix a1) 0
      x1
def X7_holds_s (a1 : Int32) (a2 : Int32) (t : ct_St) : ct_St :=
  if X7_isOneOf_r 2 a1 = 0 then
    t
  else
    if X7_within_r a2 0 1 = 0 then
      t
    else
      let t2 := us t (28 + ix a1) 0 a2
      let t3 := us t2 (28 + ix a1) 1 (-9)
      t3
set_option maxHeartbeats 4000000 in
set_option maxRecDepth 100000 in
theorem c_X7_holds (l : Launch) (g : ct_G) (t : ct_St) (a1 : Int32) (a2 : Int32) : MI l g shG yX7_holds wsX7_holds (rmd 1) [.ref (g.2.1 0), .int a1, .int a2] t (X7_holds_r a1 a2 t) (X7_holds_s a1 a2 t) := by
  refine MI.of (own := RX7) (cc := cX7_holds) (maxL := 4) rfl (by decide) rfl (Nat.le_of_ble_eq_true rfl) (fun p e s m args below meth cd A Q C hret ls hl => ?_)
  have hl : lv_has ls 4 [(0, .ref (g.2.1 0)), (1, .int a1), (2, .int a2)] := hl
  refine v_iconst (v := 2) C dX7_holds_0 (by decide) ?_
  refine v_iload_n C dX7_holds_1 rfl (lv_at hl 1 rfl) ?_
  refine v_scalli C (c_X7_isOneOf l g _ _ _) (va_cwS 2 C.2.2.2.2.1 gX7_holds_X7_isOneOf rfl rfl rfl hs_X7_isOneOf ⟨Nat.le_of_ble_eq_true rfl, Nat.le_of_ble_eq_true rfl⟩) rfl hl.1 rfl (Nat.le_of_ble_eq_true rfl) dX7_holds_2 ⟨Nat.le_refl _, Nat.le_refl _⟩ ?_
  refine v_if_ne (tgt := 10) C dX7_holds_5 (by decide) (fun c_1 => ?_) (fun c_1 => ?_)
  · refine v_iload_n C dX7_holds_10 rfl (lv_at hl 2 rfl) ?_
    refine v_iconst (v := 0) C dX7_holds_11 (by decide) ?_
    refine v_iconst (v := 1) C dX7_holds_12 (by decide) ?_
    refine v_scalli C (c_X7_within l g _ _ _ _) (va_cwS 3 C.2.2.2.2.1 gX7_holds_X7_within rfl rfl rfl hs_X7_within ⟨Nat.le_of_ble_eq_true rfl, Nat.le_of_ble_eq_true rfl⟩) rfl hl.1 rfl (Nat.le_of_ble_eq_true rfl) dX7_holds_13 ⟨Nat.le_refl _, Nat.le_refl _⟩ ?_
    refine v_if_ne (tgt := 22) C dX7_holds_16 (by decide) (fun c_2 => ?_) (fun c_2 => ?_)
    · refine v_aload_n C dX7_holds_22 rfl (lv_at hl 0 rfl) ?_
      refine v_getR C iX7_holds_X7 k_0 rfl rfl (j := 4) rfl (by decide) rfl (C.w 1 rfl) dX7_holds_23 ?_
      refine v_iload_n C dX7_holds_26 rfl (lv_at hl 1 rfl) ?_
      refine v_aald C k_5 rfl rfl (isOneOf2_in c_1) (q_par (vp_lt (isOneOf2_in c_1))) dX7_holds_27 ?_
      refine v_getI C iX7_holds_X4 (k_par (vp_lt (isOneOf2_in c_1))) rfl rfl (j := 0) rfl (by decide) rfl (C.w 2 rfl) dX7_holds_28 ?_
      refine v_istore_n (lv' := [(3, _), (0, _), (1, _), (2, _)]) C dX7_holds_31 rfl hl (by decide) rfl (fun ls hl => ?_)
      refine v_aload_n C dX7_holds_32 rfl (lv_at hl 1 rfl) ?_
      refine v_getR C iX7_holds_X7 k_0 rfl rfl (j := 4) rfl (by decide) rfl (C.w 1 rfl) dX7_holds_33 ?_
      refine v_iload_n C dX7_holds_36 rfl (lv_at hl 2 rfl) ?_
      refine v_aald C k_5 rfl rfl (isOneOf2_in c_1) (q_par (vp_lt (isOneOf2_in c_1))) dX7_holds_37 ?_
      refine v_iload_n C dX7_holds_38 rfl (lv_at hl 3 rfl) ?_
      refine v_put C iX7_holds_X4 tyX4 tyX4_ok nmX4 (k_par (vp_lt (isOneOf2_in c_1))) rfl rfl (j := 0) rfl (by decide) rfl (C.w 2 rfl) rfl rfl rfl dX7_holds_39 ?_
      refine v_aload_n C dX7_holds_42 rfl (lv_at hl 1 rfl) ?_
      refine v_getR C iX7_holds_X7 k_0 rfl rfl (j := 4) rfl (by decide) rfl (C.w 1 rfl) dX7_holds_43 ?_
      refine v_iload_n C dX7_holds_46 rfl (lv_at hl 2 rfl) ?_
      refine v_aald C k_5 rfl rfl (isOneOf2_in c_1) (q_par (vp_lt (isOneOf2_in c_1))) dX7_holds_47 ?_
      refine v_bipush (v := (-9)) C dX7_holds_48 (by decide) ?_
      refine v_put C iX7_holds_X4 tyX4 tyX4_ok nmX4 (k_par (vp_lt (isOneOf2_in c_1))) rfl rfl (j := 1) rfl (by decide) rfl (C.w 3 rfl) rfl rfl rfl dX7_holds_50 ?_
      refine v_iload_n C dX7_holds_53 rfl (lv_at hl 0 rfl) ?_
      exact hret _ _ _ _ (Eq.symm ((if_neg c_1).trans ((if_neg c_2).trans rfl))) (Eq.symm ((if_neg c_1).trans ((if_neg c_2).trans rfl))) dX7_holds_54
    · refine v_bipush (v := (-2)) C dX7_holds_19 (by decide) ?_
      exact hret _ _ _ _ (Eq.symm ((if_neg c_1).trans ((if_pos c_2).trans rfl))) (Eq.symm ((if_neg c_1).trans ((if_pos c_2).trans rfl))) dX7_holds_21
  · refine v_iconst (v := (-1)) C dX7_holds_8 (by decide) ?_
    exact hret _ _ _ _ (Eq.symm ((if_pos c_1).trans rfl)) (Eq.symm ((if_pos c_1).trans rfl)) dX7_holds_9
-- no frame of X7_holds_s: ['28 + ix a1']
theorem iX7_isWhole_X7 : ∀ w ∈ wsX70, w ∈ wsX7_isWhole := fun _ h => (List.mem_cons_of_mem _ (List.mem_append_left _ (List.mem_append_right _ h)))
theorem iX7_isWhole_X2 : ∀ w ∈ wsX20, w ∈ wsX7_isWhole := fun _ h => (List.mem_cons_of_mem _ (List.mem_append_right _ h))
theorem hv_X7_isWhole : yX7_isWhole.cls = RX7 ∧ yX7_isWhole.cls ≠ "java/lang/invoke/MethodHandle" ∧ yX7_isWhole.cls ≠ "java/lang/invoke/VarHandle" ∧ (parseMethodDescriptor yX7_isWhole.desc).map (fun d => d.parameters.length) = some 1 := by decide +kernel
def X7_isWhole_r (a1 : Int32) (t : ct_St) : Int32 :=
  if t (12 + ix ((2 * a1) + 1)) 3 = 2 then
    if t (12 + ix ((2 * a1) + 1)) 2 = 1 then
      if t (12 + ix ((2 * a1) + 1)) 0 = 0 then
        if t (12 + ix (2 * a1)) 0 = 0 then
          1
        else
          0
      else
        0
    else
      0
  else
    0
set_option maxHeartbeats 4000000 in
set_option maxRecDepth 100000 in
theorem c_X7_isWhole (l : Launch) (g : ct_G) (t : ct_St) (a1 : Int32) (h1 : vp_in a1 2) : MI l g shG yX7_isWhole wsX7_isWhole (rmd 0) [.ref (g.2.1 0), .int a1] t (X7_isWhole_r a1 t) t := by
  refine MZ.of (own := RX7) (cc := cX7_isWhole) (maxL := 4) rfl (by decide) rfl (Nat.le_of_ble_eq_true rfl) (fun p e s m args below meth cd A Q C hret ls hl => ?_)
  have hl : lv_has ls 4 [(0, .ref (g.2.1 0)), (1, .int a1)] := hl
  refine v_aload_n C dX7_isWhole_0 rfl (lv_at hl 0 rfl) ?_
  refine v_getR C iX7_isWhole_X7 k_0 rfl rfl (j := 0) rfl (by decide) rfl (C.w 1 rfl) dX7_isWhole_1 ?_
  refine v_iconst (v := 2) C dX7_isWhole_4 (by decide) ?_
  refine v_iload_n C dX7_isWhole_5 rfl (lv_at hl 1 rfl) ?_
  refine v_imul C dX7_isWhole_6 ?_
  refine v_aald C k_1 rfl rfl (pf_2 h1).2.1 (q_cnt (vp_lt (pf_2 h1).2.1)) dX7_isWhole_7 ?_
  refine v_astore_n (lv' := [(2, _), (0, _), (1, _)]) C dX7_isWhole_8 rfl hl (by decide) rfl (fun ls hl => ?_)
  refine v_aload_n C dX7_isWhole_9 rfl (lv_at hl 1 rfl) ?_
  refine v_getR C iX7_isWhole_X7 k_0 rfl rfl (j := 0) rfl (by decide) rfl (C.w 1 rfl) dX7_isWhole_10 ?_
  refine v_iconst (v := 2) C dX7_isWhole_13 (by decide) ?_
  refine v_iload_n C dX7_isWhole_14 rfl (lv_at hl 2 rfl) ?_
  refine v_imul C dX7_isWhole_15 ?_
  refine v_iconst (v := 1) C dX7_isWhole_16 (by decide) ?_
  refine v_iadd C dX7_isWhole_17 ?_
  refine v_aald C k_1 rfl rfl (pf_2 h1).1 (q_cnt (vp_lt (pf_2 h1).1)) dX7_isWhole_18 ?_
  refine v_astore_n (lv' := [(3, _), (2, _), (0, _), (1, _)]) C dX7_isWhole_19 rfl hl (by decide) rfl (fun ls hl => ?_)
  refine v_aload_n C dX7_isWhole_20 rfl (lv_at hl 0 rfl) ?_
  refine v_getI C iX7_isWhole_X2 (k_cnt (vp_lt (pf_2 h1).1)) rfl rfl (j := 3) rfl (by decide) rfl (C.w 2 rfl) dX7_isWhole_21 ?_
  refine v_iconst (v := 2) C dX7_isWhole_24 (by decide) ?_
  refine v_icmp_ne (tgt := 54) C dX7_isWhole_25 (by decide) (fun c_1 => ?_) (fun c_1 => ?_)
  · refine v_iconst (v := 0) C dX7_isWhole_54 (by decide) ?_
    exact hret _ _ _ _ (Eq.symm ((if_neg c_1).trans rfl)) rfl rfl dX7_isWhole_55
  · refine v_aload_n C dX7_isWhole_28 rfl (lv_at hl 0 rfl) ?_
    refine v_getI C iX7_isWhole_X2 (k_cnt (vp_lt (pf_2 h1).1)) rfl rfl (j := 2) rfl (by decide) rfl (C.w 3 rfl) dX7_isWhole_29 ?_
    refine v_iconst (v := 1) C dX7_isWhole_32 (by decide) ?_
    refine v_icmp_ne (tgt := 54) C dX7_isWhole_33 (by decide) (fun c_2 => ?_) (fun c_2 => ?_)
    · refine v_iconst (v := 0) C dX7_isWhole_54 (by decide) ?_
      exact hret _ _ _ _ (Eq.symm ((if_pos c_1).trans ((if_neg c_2).trans rfl))) rfl rfl dX7_isWhole_55
    · refine v_aload_n C dX7_isWhole_36 rfl (lv_at hl 0 rfl) ?_
      refine v_getI C iX7_isWhole_X2 (k_cnt (vp_lt (pf_2 h1).1)) rfl rfl (j := 0) rfl (by decide) rfl (C.w 4 rfl) dX7_isWhole_37 ?_
      refine v_if_ne (tgt := 54) C dX7_isWhole_40 (by decide) (fun c_3 => ?_) (fun c_3 => ?_)
      · refine v_iconst (v := 0) C dX7_isWhole_54 (by decide) ?_
        exact hret _ _ _ _ (Eq.symm ((if_pos c_1).trans ((if_pos c_2).trans ((if_neg c_3).trans rfl)))) rfl rfl dX7_isWhole_55
      · refine v_aload_n C dX7_isWhole_43 rfl (lv_at hl 1 rfl) ?_
        refine v_getI C iX7_isWhole_X2 (k_cnt (vp_lt (pf_2 h1).2.1)) rfl rfl (j := 0) rfl (by decide) rfl (C.w 4 rfl) dX7_isWhole_44 ?_
        refine v_if_ne (tgt := 54) C dX7_isWhole_47 (by decide) (fun c_4 => ?_) (fun c_4 => ?_)
        · refine v_iconst (v := 0) C dX7_isWhole_54 (by decide) ?_
          exact hret _ _ _ _ (Eq.symm ((if_pos c_1).trans ((if_pos c_2).trans ((if_pos c_3).trans ((if_neg c_4).trans rfl))))) rfl rfl dX7_isWhole_55
        · refine v_iconst (v := 1) C dX7_isWhole_50 (by decide) ?_
          refine v_goto (tgt := 55) C dX7_isWhole_51 (by decide) ?_
          exact hret _ _ _ _ (Eq.symm ((if_pos c_1).trans ((if_pos c_2).trans ((if_pos c_3).trans ((if_pos c_4).trans rfl))))) rfl rfl dX7_isWhole_55
theorem X7_isWhole_z (a1 : Int32) (t : ct_St) : narrow .boolean (.int (X7_isWhole_r a1 t)) = .int (X7_isWhole_r a1 t) := by
  dsimp only [X7_isWhole_r]
  (repeat' split) <;> first | rfl
theorem iX7_read_X7 : ∀ w ∈ wsX70, w ∈ wsX7_read := fun _ h => (List.mem_cons_of_mem _ (List.mem_append_left _ (List.mem_append_left _ (List.mem_append_right _ h))))
theorem iX7_read_X2 : ∀ w ∈ wsX20, w ∈ wsX7_read := fun _ h => (List.mem_cons_of_mem _ (List.mem_append_left _ (List.mem_append_right _ h)))
theorem iX7_read_X4 : ∀ w ∈ wsX40, w ∈ wsX7_read := fun _ h => (List.mem_cons_of_mem _ (List.mem_append_right _ h))
theorem hv_X7_read : yX7_read.cls = RX7 ∧ yX7_read.cls ≠ "java/lang/invoke/MethodHandle" ∧ yX7_read.cls ≠ "java/lang/invoke/VarHandle" ∧ (parseMethodDescriptor yX7_read.desc).map (fun d => d.parameters.length) = some 2 := by decide +kernel
def X7_read_r (a1 : Int32) (a2 : Int32) (t : ct_St) : Int32 :=
  if X7_isOneOf_r 2 a1 = 0 then
    (-1)
  else
    if X7_within_r a2 0 1 = 0 then
      (-2)
    else
      if X7_isWhole_r a1 t = 0 then
        (-3)
      else
        let x1 := t (12 + ix ((2 * a1) + 1)) 4
        if a2 = 1 then
          X4_takeHigh_r x1 (t (28 + ix a1))
        else
          let t2 := us t (28 + ix a1) 1 x1
          t2 (12 + ix (2 * a1)) 4
def X7_read_s (a1 : Int32) (a2 : Int32) (t : ct_St) : ct_St :=
  if X7_isOneOf_r 2 a1 = 0 then
    t
  else
    if X7_within_r a2 0 1 = 0 then
      t
    else
      if X7_isWhole_r a1 t = 0 then
        t
      else
        let x1 := t (12 + ix ((2 * a1) + 1)) 4
        if a2 = 1 then
          let t3 := ur t (28 + ix a1) (X4_takeHigh_s x1 (t (28 + ix a1)))
          t3
        else
          let t2 := us t (28 + ix a1) 1 x1
          t2
set_option maxHeartbeats 4000000 in
set_option maxRecDepth 100000 in
theorem c_X7_read (l : Launch) (g : ct_G) (t : ct_St) (a1 : Int32) (a2 : Int32) : MI l g shG yX7_read wsX7_read (rmd 1) [.ref (g.2.1 0), .int a1, .int a2] t (X7_read_r a1 a2 t) (X7_read_s a1 a2 t) := by
  refine MI.of (own := RX7) (cc := cX7_read) (maxL := 4) rfl (by decide) rfl (Nat.le_of_ble_eq_true rfl) (fun p e s m args below meth cd A Q C hret ls hl => ?_)
  have hl : lv_has ls 4 [(0, .ref (g.2.1 0)), (1, .int a1), (2, .int a2)] := hl
  refine v_iconst (v := 2) C dX7_read_0 (by decide) ?_
  refine v_iload_n C dX7_read_1 rfl (lv_at hl 1 rfl) ?_
  refine v_scalli C (c_X7_isOneOf l g _ _ _) (va_cwS 2 C.2.2.2.2.1 gX7_read_X7_isOneOf rfl rfl rfl hs_X7_isOneOf ⟨Nat.le_of_ble_eq_true rfl, Nat.le_of_ble_eq_true rfl⟩) rfl hl.1 rfl (Nat.le_of_ble_eq_true rfl) dX7_read_2 ⟨Nat.le_refl _, Nat.le_refl _⟩ ?_
  refine v_if_ne (tgt := 10) C dX7_read_5 (by decide) (fun c_1 => ?_) (fun c_1 => ?_)
  · refine v_iload_n C dX7_read_10 rfl (lv_at hl 2 rfl) ?_
    refine v_iconst (v := 0) C dX7_read_11 (by decide) ?_
    refine v_iconst (v := 1) C dX7_read_12 (by decide) ?_
    refine v_scalli C (c_X7_within l g _ _ _ _) (va_cwS 3 C.2.2.2.2.1 gX7_read_X7_within rfl rfl rfl hs_X7_within ⟨Nat.le_of_ble_eq_true rfl, Nat.le_of_ble_eq_true rfl⟩) rfl hl.1 rfl (Nat.le_of_ble_eq_true rfl) dX7_read_13 ⟨Nat.le_refl _, Nat.le_refl _⟩ ?_
    refine v_if_ne (tgt := 22) C dX7_read_16 (by decide) (fun c_2 => ?_) (fun c_2 => ?_)
    · refine v_aload_n C dX7_read_22 rfl (lv_at hl 0 rfl) ?_
      refine v_iload_n C dX7_read_23 rfl (lv_at hl 1 rfl) ?_
      refine v_calli C (c_X7_isWhole l g _ _ (isOneOf2_in c_1)) (cwV 1 C.2.2.2.2.1 gX7_read_X7_isWhole rfl rfl rfl hv_X7_isWhole ⟨Nat.le_of_ble_eq_true rfl, Nat.le_of_ble_eq_true rfl⟩) k_0 rfl rfl rfl rfl hl.1 rfl (Nat.le_of_ble_eq_true rfl) dX7_read_24 ⟨Nat.le_refl _, Nat.le_refl _⟩ ?_
      refine v_if_ne (tgt := 33) C dX7_read_27 (by decide) (fun c_3 => ?_) (fun c_3 => ?_)
      · refine v_aload_n C dX7_read_33 rfl (lv_at hl 0 rfl) ?_
        refine v_getR C iX7_read_X7 k_0 rfl rfl (j := 0) rfl (by decide) rfl (C.w 1 rfl) dX7_read_34 ?_
        refine v_iconst (v := 2) C dX7_read_37 (by decide) ?_
        refine v_iload_n C dX7_read_38 rfl (lv_at hl 1 rfl) ?_
        refine v_imul C dX7_read_39 ?_
        refine v_iconst (v := 1) C dX7_read_40 (by decide) ?_
        refine v_iadd C dX7_read_41 ?_
        refine v_aald C k_1 rfl rfl (pf_2 (isOneOf2_in c_1)).1 (q_cnt (vp_lt (pf_2 (isOneOf2_in c_1)).1)) dX7_read_42 ?_
        refine v_getI C iX7_read_X2 (k_cnt (vp_lt (pf_2 (isOneOf2_in c_1)).1)) rfl rfl (j := 4) rfl (by decide) rfl (C.w 2 rfl) dX7_read_43 ?_
        refine v_istore_n (lv' := [(3, _), (0, _), (1, _), (2, _)]) C dX7_read_46 rfl hl (by decide) rfl (fun ls hl => ?_)
        refine v_iload_n C dX7_read_47 rfl (lv_at hl 3 rfl) ?_
        refine v_iconst (v := 1) C dX7_read_48 (by decide) ?_
        refine v_icmp_ne (tgt := 63) C dX7_read_49 (by decide) (fun c_4 => ?_) (fun c_4 => ?_)
        · refine v_aload_n C dX7_read_63 rfl (lv_at hl 1 rfl) ?_
          refine v_getR C iX7_read_X7 k_0 rfl rfl (j := 4) rfl (by decide) rfl (C.w 3 rfl) dX7_read_64 ?_
          refine v_iload_n C dX7_read_67 rfl (lv_at hl 2 rfl) ?_
          refine v_aald C k_5 rfl rfl (isOneOf2_in c_1) (q_par (vp_lt (isOneOf2_in c_1))) dX7_read_68 ?_
          refine v_iload_n C dX7_read_69 rfl (lv_at hl 0 rfl) ?_
          refine v_put C iX7_read_X4 tyX4 tyX4_ok nmX4 (k_par (vp_lt (isOneOf2_in c_1))) rfl rfl (j := 1) rfl (by decide) rfl (C.w 4 rfl) rfl rfl rfl dX7_read_70 ?_
          refine v_aload_n C dX7_read_73 rfl (lv_at hl 1 rfl) ?_
          refine v_getR C iX7_read_X7 k_0 rfl rfl (j := 0) rfl (by decide) rfl (C.w 1 rfl) dX7_read_74 ?_
          refine v_iconst (v := 2) C dX7_read_77 (by decide) ?_
          refine v_iload_n C dX7_read_78 rfl (lv_at hl 2 rfl) ?_
          refine v_imul C dX7_read_79 ?_
          refine v_aald C k_1 rfl rfl (pf_2 (isOneOf2_in c_1)).2.1 (q_cnt (vp_lt (pf_2 (isOneOf2_in c_1)).2.1)) dX7_read_80 ?_
          refine v_getI C iX7_read_X2 (k_cnt (vp_lt (pf_2 (isOneOf2_in c_1)).2.1)) rfl rfl (j := 4) rfl (by decide) rfl (C.w 2 rfl) dX7_read_81 ?_
          exact hret _ _ _ _ (Eq.symm ((if_neg c_1).trans ((if_neg c_2).trans ((if_neg c_3).trans ((if_neg c_4).trans rfl))))) (Eq.symm ((if_neg c_1).trans ((if_neg c_2).trans ((if_neg c_3).trans ((if_neg c_4).trans rfl))))) dX7_read_84
        · refine v_aload_n C dX7_read_52 rfl (lv_at hl 1 rfl) ?_
          refine v_getR C iX7_read_X7 k_0 rfl rfl (j := 4) rfl (by decide) rfl (C.w 3 rfl) dX7_read_53 ?_
          refine v_iload_n C dX7_read_56 rfl (lv_at hl 2 rfl) ?_
          refine v_aald C k_5 rfl rfl (isOneOf2_in c_1) (q_par (vp_lt (isOneOf2_in c_1))) dX7_read_57 ?_
          refine v_iload_n C dX7_read_58 rfl (lv_at hl 0 rfl) ?_
          refine v_calli C (MI.un (c_X4_takeHigh l g _ _ (k_par (vp_lt (isOneOf2_in c_1))) _ _)) (cwV 1 C.2.2.2.2.1 gX7_read_X4_takeHigh rfl rfl rfl hv_X4_takeHigh ⟨Nat.le_of_ble_eq_true rfl, Nat.le_of_ble_eq_true rfl⟩) (k_par (vp_lt (isOneOf2_in c_1))) rfl rfl rfl rfl hl.1 rfl (Nat.le_of_ble_eq_true rfl) dX7_read_59 ⟨Nat.le_refl _, Nat.le_refl _⟩ ?_
          exact hret _ _ _ _ (Eq.symm ((if_neg c_1).trans ((if_neg c_2).trans ((if_neg c_3).trans ((if_pos c_4).trans rfl))))) (Eq.symm ((if_neg c_1).trans ((if_neg c_2).trans ((if_neg c_3).trans ((if_pos c_4).trans rfl))))) dX7_read_62
      · refine v_bipush (v := (-3)) C dX7_read_30 (by decide) ?_
        exact hret _ _ _ _ (Eq.symm ((if_neg c_1).trans ((if_neg c_2).trans ((if_pos c_3).trans rfl)))) (Eq.symm ((if_neg c_1).trans ((if_neg c_2).trans ((if_pos c_3).trans rfl)))) dX7_read_32
    · refine v_bipush (v := (-2)) C dX7_read_19 (by decide) ?_
      exact hret _ _ _ _ (Eq.symm ((if_neg c_1).trans ((if_pos c_2).trans rfl))) (Eq.symm ((if_neg c_1).trans ((if_pos c_2).trans rfl))) dX7_read_21
  · refine v_iconst (v := (-1)) C dX7_read_8 (by decide) ?_
    exact hret _ _ _ _ (Eq.symm ((if_pos c_1).trans rfl)) (Eq.symm ((if_pos c_1).trans rfl)) dX7_read_9
-- no frame of X7_read_s: ['28 + ix a1']
theorem iX7_wide_X7 : ∀ w ∈ wsX70, w ∈ wsX7_wide := fun _ h => (List.mem_cons_of_mem _ (List.mem_append_left _ (List.mem_append_right _ h)))
theorem iX7_wide_X2 : ∀ w ∈ wsX20, w ∈ wsX7_wide := fun _ h => (List.mem_cons_of_mem _ (List.mem_append_right _ h))
theorem hv_X7_wide : yX7_wide.cls = RX7 ∧ yX7_wide.cls ≠ "java/lang/invoke/MethodHandle" ∧ yX7_wide.cls ≠ "java/lang/invoke/VarHandle" ∧ (parseMethodDescriptor yX7_wide.desc).map (fun d => d.parameters.length) = some 1 := by decide +kernel
def X7_wide_r (a1 : Int32) (t : ct_St) : Int32 :=
  if X7_isOneOf_r 2 a1 = 0 then
    (-1)
  else
    if X7_isWhole_r a1 t = 0 then
      (-3)
    else
      ((t (12 + ix ((2 * a1) + 1)) 4) * ((t (12 + ix (2 * a1)) 1) + 1)) + (t (12 + ix (2 * a1)) 4)
set_option maxHeartbeats 4000000 in
set_option maxRecDepth 100000 in
theorem c_X7_wide (l : Launch) (g : ct_G) (t : ct_St) (a1 : Int32) : MI l g shG yX7_wide wsX7_wide (rmd 1) [.ref (g.2.1 0), .int a1] t (X7_wide_r a1 t) t := by
  refine MI.of (own := RX7) (cc := cX7_wide) (maxL := 4) rfl (by decide) rfl (Nat.le_of_ble_eq_true rfl) (fun p e s m args below meth cd A Q C hret ls hl => ?_)
  have hl : lv_has ls 4 [(0, .ref (g.2.1 0)), (1, .int a1)] := hl
  refine v_iconst (v := 2) C dX7_wide_0 (by decide) ?_
  refine v_iload_n C dX7_wide_1 rfl (lv_at hl 1 rfl) ?_
  refine v_scalli C (c_X7_isOneOf l g _ _ _) (va_cwS 2 C.2.2.2.2.1 gX7_wide_X7_isOneOf rfl rfl rfl hs_X7_isOneOf ⟨Nat.le_of_ble_eq_true rfl, Nat.le_of_ble_eq_true rfl⟩) rfl hl.1 rfl (Nat.le_of_ble_eq_true rfl) dX7_wide_2 ⟨Nat.le_refl _, Nat.le_refl _⟩ ?_
  refine v_if_ne (tgt := 10) C dX7_wide_5 (by decide) (fun c_1 => ?_) (fun c_1 => ?_)
  · refine v_aload_n C dX7_wide_10 rfl (lv_at hl 0 rfl) ?_
    refine v_iload_n C dX7_wide_11 rfl (lv_at hl 1 rfl) ?_
    refine v_calli C (c_X7_isWhole l g _ _ (isOneOf2_in c_1)) (cwV 1 C.2.2.2.2.1 gX7_wide_X7_isWhole rfl rfl rfl hv_X7_isWhole ⟨Nat.le_of_ble_eq_true rfl, Nat.le_of_ble_eq_true rfl⟩) k_0 rfl rfl rfl rfl hl.1 rfl (Nat.le_of_ble_eq_true rfl) dX7_wide_12 ⟨Nat.le_refl _, Nat.le_refl _⟩ ?_
    refine v_if_ne (tgt := 21) C dX7_wide_15 (by decide) (fun c_2 => ?_) (fun c_2 => ?_)
    · refine v_aload_n C dX7_wide_21 rfl (lv_at hl 0 rfl) ?_
      refine v_getR C iX7_wide_X7 k_0 rfl rfl (j := 0) rfl (by decide) rfl (C.w 1 rfl) dX7_wide_22 ?_
      refine v_iconst (v := 2) C dX7_wide_25 (by decide) ?_
      refine v_iload_n C dX7_wide_26 rfl (lv_at hl 1 rfl) ?_
      refine v_imul C dX7_wide_27 ?_
      refine v_aald C k_1 rfl rfl (pf_2 (isOneOf2_in c_1)).2.1 (q_cnt (vp_lt (pf_2 (isOneOf2_in c_1)).2.1)) dX7_wide_28 ?_
      refine v_astore_n (lv' := [(2, _), (0, _), (1, _)]) C dX7_wide_29 rfl hl (by decide) rfl (fun ls hl => ?_)
      refine v_aload_n C dX7_wide_30 rfl (lv_at hl 1 rfl) ?_
      refine v_getR C iX7_wide_X7 k_0 rfl rfl (j := 0) rfl (by decide) rfl (C.w 1 rfl) dX7_wide_31 ?_
      refine v_iconst (v := 2) C dX7_wide_34 (by decide) ?_
      refine v_iload_n C dX7_wide_35 rfl (lv_at hl 2 rfl) ?_
      refine v_imul C dX7_wide_36 ?_
      refine v_iconst (v := 1) C dX7_wide_37 (by decide) ?_
      refine v_iadd C dX7_wide_38 ?_
      refine v_aald C k_1 rfl rfl (pf_2 (isOneOf2_in c_1)).1 (q_cnt (vp_lt (pf_2 (isOneOf2_in c_1)).1)) dX7_wide_39 ?_
      refine v_astore_n (lv' := [(3, _), (2, _), (0, _), (1, _)]) C dX7_wide_40 rfl hl (by decide) rfl (fun ls hl => ?_)
      refine v_aload_n C dX7_wide_41 rfl (lv_at hl 0 rfl) ?_
      refine v_getI C iX7_wide_X2 (k_cnt (vp_lt (pf_2 (isOneOf2_in c_1)).1)) rfl rfl (j := 4) rfl (by decide) rfl (C.w 2 rfl) dX7_wide_42 ?_
      refine v_aload_n C dX7_wide_45 rfl (lv_at hl 1 rfl) ?_
      refine v_getI C iX7_wide_X2 (k_cnt (vp_lt (pf_2 (isOneOf2_in c_1)).2.1)) rfl rfl (j := 1) rfl (by decide) rfl (C.w 3 rfl) dX7_wide_46 ?_
      refine v_iconst (v := 1) C dX7_wide_49 (by decide) ?_
      refine v_iadd C dX7_wide_50 ?_
      refine v_imul C dX7_wide_51 ?_
      refine v_aload_n C dX7_wide_52 rfl (lv_at hl 1 rfl) ?_
      refine v_getI C iX7_wide_X2 (k_cnt (vp_lt (pf_2 (isOneOf2_in c_1)).2.1)) rfl rfl (j := 4) rfl (by decide) rfl (C.w 2 rfl) dX7_wide_53 ?_
      refine v_iadd C dX7_wide_56 ?_
      exact hret _ _ _ _ (Eq.symm ((if_neg c_1).trans ((if_neg c_2).trans rfl))) rfl dX7_wide_57
    · refine v_bipush (v := (-3)) C dX7_wide_18 (by decide) ?_
      exact hret _ _ _ _ (Eq.symm ((if_neg c_1).trans ((if_pos c_2).trans rfl))) rfl dX7_wide_20
  · refine v_iconst (v := (-1)) C dX7_wide_8 (by decide) ?_
    exact hret _ _ _ _ (Eq.symm ((if_pos c_1).trans rfl)) rfl dX7_wide_9
theorem iX7_slow_X7 : ∀ w ∈ wsX70, w ∈ wsX7_slow := fun _ h => (List.mem_cons_of_mem _ (List.mem_append_left _ (List.mem_append_right _ h)))
theorem hv_X7_slow : yX7_slow.cls = RX7 ∧ yX7_slow.cls ≠ "java/lang/invoke/MethodHandle" ∧ yX7_slow.cls ≠ "java/lang/invoke/VarHandle" ∧ (parseMethodDescriptor yX7_slow.desc).map (fun d => d.parameters.length) = some 3 := by decide +kernel
def X7_slow_r (a1 : Int32) (a2 : Int32) (a3 : Int32) : Int32 :=
  if X7_isOneOf_r 4 a2 = 0 then
    (-1)
  else
    if X7_within_r a1 2 16 = 0 then
      (-2)
    else
      if X7_within_r a3 0 1 = 0 then
        (-2)
      else
        1
def X7_slow_s (a1 : Int32) (a2 : Int32) (a3 : Int32) (t : ct_St) : ct_St :=
  if X7_isOneOf_r 4 a2 = 0 then
    t
  else
    if X7_within_r a1 2 16 = 0 then
      t
    else
      if X7_within_r a3 0 1 = 0 then
        t
      else
        let t1 := ur t 7 (X6_setUp_s a1 a2 a3 (t 7))
        t1
set_option maxHeartbeats 4000000 in
set_option maxRecDepth 100000 in
theorem c_X7_slow (l : Launch) (g : ct_G) (t : ct_St) (a1 : Int32) (a2 : Int32) (a3 : Int32) : MI l g shG yX7_slow wsX7_slow (rmd 1) [.ref (g.2.1 0), .int a1, .int a2, .int a3] t (X7_slow_r a1 a2 a3) (X7_slow_s a1 a2 a3 t) := by
  refine MI.of (own := RX7) (cc := cX7_slow) (maxL := 4) rfl (by decide) rfl (Nat.le_of_ble_eq_true rfl) (fun p e s m args below meth cd A Q C hret ls hl => ?_)
  have hl : lv_has ls 4 [(0, .ref (g.2.1 0)), (1, .int a1), (2, .int a2), (3, .int a3)] := hl
  refine v_iconst (v := 4) C dX7_slow_0 (by decide) ?_
  refine v_iload_n C dX7_slow_1 rfl (lv_at hl 2 rfl) ?_
  refine v_scalli C (c_X7_isOneOf l g _ _ _) (va_cwS 2 C.2.2.2.2.1 gX7_slow_X7_isOneOf rfl rfl rfl hs_X7_isOneOf ⟨Nat.le_of_ble_eq_true rfl, Nat.le_of_ble_eq_true rfl⟩) rfl hl.1 rfl (Nat.le_of_ble_eq_true rfl) dX7_slow_2 ⟨Nat.le_refl _, Nat.le_refl _⟩ ?_
  refine v_if_ne (tgt := 10) C dX7_slow_5 (by decide) (fun c_1 => ?_) (fun c_1 => ?_)
  · refine v_iload_n C dX7_slow_10 rfl (lv_at hl 1 rfl) ?_
    refine v_iconst (v := 2) C dX7_slow_11 (by decide) ?_
    refine v_bipush (v := 16) C dX7_slow_12 (by decide) ?_
    refine v_scalli C (c_X7_within l g _ _ _ _) (va_cwS 3 C.2.2.2.2.1 gX7_slow_X7_within rfl rfl rfl hs_X7_within ⟨Nat.le_of_ble_eq_true rfl, Nat.le_of_ble_eq_true rfl⟩) rfl hl.1 rfl (Nat.le_of_ble_eq_true rfl) dX7_slow_14 ⟨Nat.le_refl _, Nat.le_refl _⟩ ?_
    refine v_if_eq (tgt := 29) C dX7_slow_17 (by decide) (fun c_2 => ?_) (fun c_2 => ?_)
    · refine v_bipush (v := (-2)) C dX7_slow_29 (by decide) ?_
      exact hret _ _ _ _ (Eq.symm ((if_neg c_1).trans ((if_pos c_2).trans rfl))) (Eq.symm ((if_neg c_1).trans ((if_pos c_2).trans rfl))) dX7_slow_31
    · refine v_iload_n C dX7_slow_20 rfl (lv_at hl 3 rfl) ?_
      refine v_iconst (v := 0) C dX7_slow_21 (by decide) ?_
      refine v_iconst (v := 1) C dX7_slow_22 (by decide) ?_
      refine v_scalli C (c_X7_within l g _ _ _ _) (va_cwS 3 C.2.2.2.2.1 gX7_slow_X7_within rfl rfl rfl hs_X7_within ⟨Nat.le_of_ble_eq_true rfl, Nat.le_of_ble_eq_true rfl⟩) rfl hl.1 rfl (Nat.le_of_ble_eq_true rfl) dX7_slow_23 ⟨Nat.le_refl _, Nat.le_refl _⟩ ?_
      refine v_if_ne (tgt := 32) C dX7_slow_26 (by decide) (fun c_3 => ?_) (fun c_3 => ?_)
      · refine v_aload_n C dX7_slow_32 rfl (lv_at hl 0 rfl) ?_
        refine v_getR C iX7_slow_X7 k_0 rfl rfl (j := 6) rfl (by decide) rfl (C.w 1 rfl) dX7_slow_33 ?_
        refine v_iload_n C dX7_slow_36 rfl (lv_at hl 1 rfl) ?_
        refine v_iload_n C dX7_slow_37 rfl (lv_at hl 2 rfl) ?_
        refine v_iload_n C dX7_slow_38 rfl (lv_at hl 3 rfl) ?_
        refine v_callv C (MV.un (c_X6_setUp l g _ _ k_7 _ _ _ _)) (cwV 3 C.2.2.2.2.1 gX7_slow_X6_setUp rfl rfl rfl hv_X6_setUp ⟨Nat.le_of_ble_eq_true rfl, Nat.le_of_ble_eq_true rfl⟩) k_7 rfl rfl rfl rfl hl.1 rfl (Nat.le_of_ble_eq_true rfl) dX7_slow_39 ⟨Nat.le_refl _, Nat.le_refl _⟩ ?_
        refine v_iconst (v := 1) C dX7_slow_42 (by decide) ?_
        exact hret _ _ _ _ (Eq.symm ((if_neg c_1).trans ((if_neg c_2).trans ((if_neg c_3).trans rfl)))) (Eq.symm ((if_neg c_1).trans ((if_neg c_2).trans ((if_neg c_3).trans rfl)))) dX7_slow_43
      · refine v_bipush (v := (-2)) C dX7_slow_29 (by decide) ?_
        exact hret _ _ _ _ (Eq.symm ((if_neg c_1).trans ((if_neg c_2).trans ((if_pos c_3).trans rfl)))) (Eq.symm ((if_neg c_1).trans ((if_neg c_2).trans ((if_pos c_3).trans rfl)))) dX7_slow_31
  · refine v_iconst (v := (-1)) C dX7_slow_8 (by decide) ?_
    exact hret _ _ _ _ (Eq.symm ((if_pos c_1).trans rfl)) (Eq.symm ((if_pos c_1).trans rfl)) dX7_slow_9
theorem X7_slow_s_fr (a1 : Int32) (a2 : Int32) (a3 : Int32) (t : ct_St) {r : Nat} (h7 : r ≠ 7) : X7_slow_s a1 a2 a3 t r = t r := by
  dsimp only [X7_slow_s]
  (repeat' split) <;> simp only [us_ne, ur_ne, h7, ne_eq, not_false_eq_true]
theorem iX7_crossed_X7 : ∀ w ∈ wsX70, w ∈ wsX7_crossed := fun _ h => (List.mem_cons_of_mem _ (List.mem_append_left _ (List.mem_append_right _ h)))
theorem hv_X7_crossed : yX7_crossed.cls = RX7 ∧ yX7_crossed.cls ≠ "java/lang/invoke/MethodHandle" ∧ yX7_crossed.cls ≠ "java/lang/invoke/VarHandle" ∧ (parseMethodDescriptor yX7_crossed.desc).map (fun d => d.parameters.length) = some 1 := by decide +kernel
def X7_crossed_r (a1 : Int32) (t : ct_St) : Int32 :=
  X6_tell_r a1 (t 7)
set_option maxHeartbeats 4000000 in
set_option maxRecDepth 100000 in
theorem c_X7_crossed (l : Launch) (g : ct_G) (t : ct_St) (a1 : Int32) : MI l g shG yX7_crossed wsX7_crossed (rmd 1) [.ref (g.2.1 0), .int a1] t (X7_crossed_r a1 t) t := by
  refine MI.of (own := RX7) (cc := cX7_crossed) (maxL := 2) rfl (by decide) rfl (Nat.le_of_ble_eq_true rfl) (fun p e s m args below meth cd A Q C hret ls hl => ?_)
  have hl : lv_has ls 2 [(0, .ref (g.2.1 0)), (1, .int a1)] := hl
  refine v_aload_n C dX7_crossed_0 rfl (lv_at hl 0 rfl) ?_
  refine v_getR C iX7_crossed_X7 k_0 rfl rfl (j := 6) rfl (by decide) rfl (C.w 1 rfl) dX7_crossed_1 ?_
  refine v_iload_n C dX7_crossed_4 rfl (lv_at hl 1 rfl) ?_
  refine v_calli C (MI.un (c_X6_tell l g _ _ k_7 _ _)) (cwV 1 C.2.2.2.2.1 gX7_crossed_X6_tell rfl rfl rfl hv_X6_tell ⟨Nat.le_of_ble_eq_true rfl, Nat.le_of_ble_eq_true rfl⟩) k_7 rfl rfl rfl rfl hl.1 rfl (Nat.le_of_ble_eq_true rfl) dX7_crossed_5 ⟨Nat.le_refl _, Nat.le_refl _⟩ ?_
  refine VW.st (ur_self _ _) ?_
  exact hret _ _ _ _ rfl rfl dX7_crossed_8
theorem iX7_outputsOn_X7 : ∀ w ∈ wsX70, w ∈ wsX7_outputsOn := fun _ h => (List.mem_cons_of_mem _ (List.mem_append_left _ (List.mem_append_right _ h)))
theorem hv_X7_outputsOn : yX7_outputsOn.cls = RX7 ∧ yX7_outputsOn.cls ≠ "java/lang/invoke/MethodHandle" ∧ yX7_outputsOn.cls ≠ "java/lang/invoke/VarHandle" ∧ (parseMethodDescriptor yX7_outputsOn.desc).map (fun d => d.parameters.length) = some 0 := by decide +kernel
def X7_outputsOn_a1 (x : Int32) (y1 : Int32) (t : ct_St) : Int32 :=
  let x1 := y1 + (J6_bitCount_0f7a4_r (X1_outputsOn_r (t 0 8) (t (24 + ix x))))
  x1
set_option maxHeartbeats 4000000 in
set_option maxRecDepth 100000 in
theorem cb_X7_outputsOn {p : Program} {e : Env} {s : State} {m : MethodId} {args : Array Value} {below : List Frame} {meth : Method} {cd : Code} {A : Nat → Prop} {Q : State → Prop} (l : Launch) (g : ct_G) (C : Cx p s m args cd A g cX7_outputsOn RX7 wsX7_outputsOn 3) (t : ct_St) (x : Int32) (y1 : Int32) (hx : vp_in x 4) (K : ∀ (ls : Array Slot) (x1 : Int32), x1 = x + 1 → lv_has ls 3 [(0, .ref (g.2.1 0)), (1, .int (X7_outputsOn_a1 x y1 t)), (2, .int x1)] → VW p l e (rmd 1) s m args below meth cd 0 0 Q A g shG t (F0 m 4 ls [])) (ls : Array Slot) (hl : lv_has ls 3 [(0, .ref (g.2.1 0)), (1, .int y1), (2, .int x)]) : VW p l e (rmd 1) s m args below meth cd 0 0 Q A g shG t (F0 m 4 ls []) := by
  refine v_iload_n C dX7_outputsOn_4 rfl (lv_at hl 2 rfl) ?_
  refine v_iconst (v := 4) C dX7_outputsOn_5 (by decide) ?_
  refine v_icmp_ge (tgt := 34) C dX7_outputsOn_6 (by decide) (fun h => absurd h ((vp_nle hx (by decide)))) (fun _ => ?_)
  refine v_iload_n C dX7_outputsOn_9 rfl (lv_at hl 1 rfl) ?_
  refine v_aload_n C dX7_outputsOn_10 rfl (lv_at hl 0 rfl) ?_
  refine v_getR C iX7_outputsOn_X7 k_0 rfl rfl (j := 3) rfl (by decide) rfl (C.w 1 rfl) dX7_outputsOn_11 ?_
  refine v_iload_n C dX7_outputsOn_14 rfl (lv_at hl 2 rfl) ?_
  refine v_aald C k_4 rfl rfl hx (q_chn (vp_lt hx)) dX7_outputsOn_15 ?_
  refine v_aload_n C dX7_outputsOn_16 rfl (lv_at hl 0 rfl) ?_
  refine v_getI C iX7_outputsOn_X7 k_0 rfl rfl (j := 8) rfl (by decide) rfl (C.w 2 rfl) dX7_outputsOn_17 ?_
  refine v_calli C (MI.un (c_X1_outputsOn l g _ _ (k_chn (vp_lt hx)) _ _)) (cwV 1 C.2.2.2.2.1 gX7_outputsOn_X1_outputsOn rfl rfl rfl hv_X1_outputsOn ⟨Nat.le_of_ble_eq_true rfl, Nat.le_of_ble_eq_true rfl⟩) (k_chn (vp_lt hx)) rfl rfl rfl rfl hl.1 rfl (Nat.le_of_ble_eq_true rfl) dX7_outputsOn_20 ⟨Nat.le_refl _, Nat.le_refl _⟩ ?_
  refine VW.st (ur_self _ _) ?_
  refine v_scalli C (c_J6_bitCount_0f7a4 l g _ _) (va_cwS 1 C.2.2.2.2.1 gX7_outputsOn_J6_bitCount_0f7a4 rfl rfl rfl hs_J6_bitCount_0f7a4 ⟨Nat.le_of_ble_eq_true rfl, Nat.le_of_ble_eq_true rfl⟩) rfl hl.1 rfl (Nat.le_of_ble_eq_true rfl) dX7_outputsOn_23 ⟨Nat.le_refl _, Nat.le_refl _⟩ ?_
  refine v_iadd C dX7_outputsOn_26 ?_
  refine v_istore_n (lv' := [(1, _), (0, _), (2, _)]) C dX7_outputsOn_27 rfl hl (by decide) rfl (fun ls hl => ?_)
  refine v_iinc (k0 := 2) (v := _ + 1) (lv' := [(2, _), (1, _), (0, _)]) C dX7_outputsOn_28 hl rfl rfl (by decide) rfl (fun ls hl => ?_)
  refine v_goto (tgt := 4) C dX7_outputsOn_31 (by decide) ?_
  exact VW.st rfl (K ls _ rfl (lv_sub hl [2, 1, 0] rfl))
def X7_outputsOn_r (t : ct_St) : Int32 :=
  let x1 := X7_outputsOn_a1 0 0 t
  let x2 := X7_outputsOn_a1 1 x1 t
  let x3 := X7_outputsOn_a1 2 x2 t
  let x4 := X7_outputsOn_a1 3 x3 t
  x4
set_option maxHeartbeats 4000000 in
set_option maxRecDepth 100000 in
theorem c_X7_outputsOn (l : Launch) (g : ct_G) (t : ct_St) : MI l g shG yX7_outputsOn wsX7_outputsOn (rmd 1) [.ref (g.2.1 0)] t (X7_outputsOn_r t) t := by
  refine MI.of (own := RX7) (cc := cX7_outputsOn) (maxL := 3) rfl (by decide) rfl (Nat.le_of_ble_eq_true rfl) (fun p e s m args below meth cd A Q C hret ls hl => ?_)
  have hl : lv_has ls 3 [(0, .ref (g.2.1 0))] := hl
  refine v_iconst (v := 0) C dX7_outputsOn_0 (by decide) ?_
  refine v_istore_n (lv' := [(1, _), (0, _)]) C dX7_outputsOn_1 rfl hl (by decide) rfl (fun ls hl => ?_)
  refine v_iconst (v := 0) C dX7_outputsOn_2 (by decide) ?_
  refine v_istore_n (lv' := [(2, _), (1, _), (0, _)]) C dX7_outputsOn_3 rfl hl (by decide) rfl (fun ls hl => ?_)
  refine cb_X7_outputsOn l g C _ 0 _ vl_0_4 (fun ls x1 hx1 hl => ?_) ls (lv_sub hl [2, 1, 0] rfl)
  obtain rfl : x1 = 1 := hx1.trans (by decide)
  refine cb_X7_outputsOn l g C _ 1 _ vl_1_4 (fun ls x1 hx1 hl => ?_) ls (lv_sub hl [0, 1, 2] rfl)
  obtain rfl : x1 = 2 := hx1.trans (by decide)
  refine cb_X7_outputsOn l g C _ 2 _ vl_2_4 (fun ls x1 hx1 hl => ?_) ls (lv_sub hl [0, 1, 2] rfl)
  obtain rfl : x1 = 3 := hx1.trans (by decide)
  refine cb_X7_outputsOn l g C _ 3 _ vl_3_4 (fun ls x1 hx1 hl => ?_) ls (lv_sub hl [0, 1, 2] rfl)
  obtain rfl : x1 = 4 := hx1.trans (by decide)
  refine v_iload_n C dX7_outputsOn_4 rfl (lv_at hl 2 rfl) ?_
  refine v_iconst (v := 4) C dX7_outputsOn_5 (by decide) ?_
  refine v_icmp_ge (tgt := 34) C dX7_outputsOn_6 (by decide) (fun _ => ?_) (fun h => absurd h (by decide))
  refine v_iload_n C dX7_outputsOn_34 rfl (lv_at hl 1 rfl) ?_
  exact hret _ _ _ _ rfl rfl dX7_outputsOn_35
theorem iX7_catchersReady_X7 : ∀ w ∈ wsX70, w ∈ wsX7_catchersReady := fun _ h => (List.mem_cons_of_mem _ (List.mem_append_left _ (List.mem_append_right _ h)))
theorem iX7_catchersReady_X0 : ∀ w ∈ wsX00, w ∈ wsX7_catchersReady := fun _ h => (List.mem_cons_of_mem _ (List.mem_append_right _ h))
theorem hv_X7_catchersReady : yX7_catchersReady.cls = RX7 ∧ yX7_catchersReady.cls ≠ "java/lang/invoke/MethodHandle" ∧ yX7_catchersReady.cls ≠ "java/lang/invoke/VarHandle" ∧ (parseMethodDescriptor yX7_catchersReady.desc).map (fun d => d.parameters.length) = some 0 := by decide +kernel
def X7_catchersReady_a1 (x : Int32) (y1 : Int32) (t : ct_St) : Int32 :=
  let x1 := y1 + (t (20 + ix x) 5)
  x1
set_option maxHeartbeats 4000000 in
set_option maxRecDepth 100000 in
theorem cb_X7_catchersReady {p : Program} {e : Env} {s : State} {m : MethodId} {args : Array Value} {below : List Frame} {meth : Method} {cd : Code} {A : Nat → Prop} {Q : State → Prop} (l : Launch) (g : ct_G) (C : Cx p s m args cd A g cX7_catchersReady RX7 wsX7_catchersReady 3) (t : ct_St) (x : Int32) (y1 : Int32) (hx : vp_in x 4) (K : ∀ (ls : Array Slot) (x1 : Int32), x1 = x + 1 → lv_has ls 3 [(0, .ref (g.2.1 0)), (1, .int (X7_catchersReady_a1 x y1 t)), (2, .int x1)] → VW p l e (rmd 0) s m args below meth cd 0 0 Q A g shG t (F0 m 4 ls [])) (ls : Array Slot) (hl : lv_has ls 3 [(0, .ref (g.2.1 0)), (1, .int y1), (2, .int x)]) : VW p l e (rmd 0) s m args below meth cd 0 0 Q A g shG t (F0 m 4 ls []) := by
  refine v_iload_n C dX7_catchersReady_4 rfl (lv_at hl 2 rfl) ?_
  refine v_iconst (v := 4) C dX7_catchersReady_5 (by decide) ?_
  refine v_icmp_ge (tgt := 27) C dX7_catchersReady_6 (by decide) (fun h => absurd h ((vp_nle hx (by decide)))) (fun _ => ?_)
  refine v_iload_n C dX7_catchersReady_9 rfl (lv_at hl 1 rfl) ?_
  refine v_aload_n C dX7_catchersReady_10 rfl (lv_at hl 0 rfl) ?_
  refine v_getR C iX7_catchersReady_X7 k_0 rfl rfl (j := 2) rfl (by decide) rfl (C.w 1 rfl) dX7_catchersReady_11 ?_
  refine v_iload_n C dX7_catchersReady_14 rfl (lv_at hl 2 rfl) ?_
  refine v_aald C k_3 rfl rfl hx (q_cat (vp_lt hx)) dX7_catchersReady_15 ?_
  refine v_getI C iX7_catchersReady_X0 (k_cat (vp_lt hx)) rfl rfl (j := 5) rfl (by decide) rfl (C.w 2 rfl) dX7_catchersReady_16 ?_
  refine v_iadd C dX7_catchersReady_19 ?_
  refine v_istore_n (lv' := [(1, _), (0, _), (2, _)]) C dX7_catchersReady_20 rfl hl (by decide) rfl (fun ls hl => ?_)
  refine v_iinc (k0 := 2) (v := _ + 1) (lv' := [(2, _), (1, _), (0, _)]) C dX7_catchersReady_21 hl rfl rfl (by decide) rfl (fun ls hl => ?_)
  refine v_goto (tgt := 4) C dX7_catchersReady_24 (by decide) ?_
  exact VW.st rfl (K ls _ rfl (lv_sub hl [2, 1, 0] rfl))
def X7_catchersReady_r (t : ct_St) : Int32 :=
  let x1 := X7_catchersReady_a1 0 0 t
  let x2 := X7_catchersReady_a1 1 x1 t
  let x3 := X7_catchersReady_a1 2 x2 t
  let x4 := X7_catchersReady_a1 3 x3 t
  x4
set_option maxHeartbeats 4000000 in
set_option maxRecDepth 100000 in
theorem c_X7_catchersReady (l : Launch) (g : ct_G) (t : ct_St) : MI l g shG yX7_catchersReady wsX7_catchersReady (rmd 0) [.ref (g.2.1 0)] t (X7_catchersReady_r t) t := by
  refine MI.of (own := RX7) (cc := cX7_catchersReady) (maxL := 3) rfl (by decide) rfl (Nat.le_of_ble_eq_true rfl) (fun p e s m args below meth cd A Q C hret ls hl => ?_)
  have hl : lv_has ls 3 [(0, .ref (g.2.1 0))] := hl
  refine v_iconst (v := 0) C dX7_catchersReady_0 (by decide) ?_
  refine v_istore_n (lv' := [(1, _), (0, _)]) C dX7_catchersReady_1 rfl hl (by decide) rfl (fun ls hl => ?_)
  refine v_iconst (v := 0) C dX7_catchersReady_2 (by decide) ?_
  refine v_istore_n (lv' := [(2, _), (1, _), (0, _)]) C dX7_catchersReady_3 rfl hl (by decide) rfl (fun ls hl => ?_)
  refine cb_X7_catchersReady l g C _ 0 _ vl_0_4 (fun ls x1 hx1 hl => ?_) ls (lv_sub hl [2, 1, 0] rfl)
  obtain rfl : x1 = 1 := hx1.trans (by decide)
  refine cb_X7_catchersReady l g C _ 1 _ vl_1_4 (fun ls x1 hx1 hl => ?_) ls (lv_sub hl [0, 1, 2] rfl)
  obtain rfl : x1 = 2 := hx1.trans (by decide)
  refine cb_X7_catchersReady l g C _ 2 _ vl_2_4 (fun ls x1 hx1 hl => ?_) ls (lv_sub hl [0, 1, 2] rfl)
  obtain rfl : x1 = 3 := hx1.trans (by decide)
  refine cb_X7_catchersReady l g C _ 3 _ vl_3_4 (fun ls x1 hx1 hl => ?_) ls (lv_sub hl [0, 1, 2] rfl)
  obtain rfl : x1 = 4 := hx1.trans (by decide)
  refine v_iload_n C dX7_catchersReady_4 rfl (lv_at hl 2 rfl) ?_
  refine v_iconst (v := 4) C dX7_catchersReady_5 (by decide) ?_
  refine v_icmp_ge (tgt := 27) C dX7_catchersReady_6 (by decide) (fun _ => ?_) (fun h => absurd h (by decide))
  refine v_iload_n C dX7_catchersReady_27 rfl (lv_at hl 1 rfl) ?_
  exact hret _ _ _ _ rfl rfl dX7_catchersReady_28
theorem iX7_oversOfAll_X7 : ∀ w ∈ wsX70, w ∈ wsX7_oversOfAll := fun _ h => (List.mem_cons_of_mem _ (List.mem_append_left _ (List.mem_append_right _ h)))
theorem iX7_oversOfAll_X2 : ∀ w ∈ wsX20, w ∈ wsX7_oversOfAll := fun _ h => (List.mem_cons_of_mem _ (List.mem_append_right _ h))
theorem hv_X7_oversOfAll : yX7_oversOfAll.cls = RX7 ∧ yX7_oversOfAll.cls ≠ "java/lang/invoke/MethodHandle" ∧ yX7_oversOfAll.cls ≠ "java/lang/invoke/VarHandle" ∧ (parseMethodDescriptor yX7_oversOfAll.desc).map (fun d => d.parameters.length) = some 0 := by decide +kernel
def X7_oversOfAll_a1 (x : Int32) (y1 : Int32) (t : ct_St) : Int32 :=
  let x1 := y1 + (t (12 + ix x) 7)
  x1
set_option maxHeartbeats 4000000 in
set_option maxRecDepth 100000 in
theorem cb_X7_oversOfAll {p : Program} {e : Env} {s : State} {m : MethodId} {args : Array Value} {below : List Frame} {meth : Method} {cd : Code} {A : Nat → Prop} {Q : State → Prop} (l : Launch) (g : ct_G) (C : Cx p s m args cd A g cX7_oversOfAll RX7 wsX7_oversOfAll 3) (t : ct_St) (x : Int32) (y1 : Int32) (hx : vp_in x 4) (K : ∀ (ls : Array Slot) (x1 : Int32), x1 = x + 1 → lv_has ls 3 [(0, .ref (g.2.1 0)), (1, .int (X7_oversOfAll_a1 x y1 t)), (2, .int x1)] → VW p l e (rmd 0) s m args below meth cd 0 0 Q A g shG t (F0 m 4 ls [])) (ls : Array Slot) (hl : lv_has ls 3 [(0, .ref (g.2.1 0)), (1, .int y1), (2, .int x)]) : VW p l e (rmd 0) s m args below meth cd 0 0 Q A g shG t (F0 m 4 ls []) := by
  refine v_iload_n C dX7_oversOfAll_4 rfl (lv_at hl 2 rfl) ?_
  refine v_iconst (v := 4) C dX7_oversOfAll_5 (by decide) ?_
  refine v_icmp_ge (tgt := 27) C dX7_oversOfAll_6 (by decide) (fun h => absurd h ((vp_nle hx (by decide)))) (fun _ => ?_)
  refine v_iload_n C dX7_oversOfAll_9 rfl (lv_at hl 1 rfl) ?_
  refine v_aload_n C dX7_oversOfAll_10 rfl (lv_at hl 0 rfl) ?_
  refine v_getR C iX7_oversOfAll_X7 k_0 rfl rfl (j := 0) rfl (by decide) rfl (C.w 1 rfl) dX7_oversOfAll_11 ?_
  refine v_iload_n C dX7_oversOfAll_14 rfl (lv_at hl 2 rfl) ?_
  refine v_aald C k_1 rfl rfl hx (q_cnt (vp_lt hx)) dX7_oversOfAll_15 ?_
  refine v_getI C iX7_oversOfAll_X2 (k_cnt (vp_lt hx)) rfl rfl (j := 7) rfl (by decide) rfl (C.w 2 rfl) dX7_oversOfAll_16 ?_
  refine v_iadd C dX7_oversOfAll_19 ?_
  refine v_istore_n (lv' := [(1, _), (0, _), (2, _)]) C dX7_oversOfAll_20 rfl hl (by decide) rfl (fun ls hl => ?_)
  refine v_iinc (k0 := 2) (v := _ + 1) (lv' := [(2, _), (1, _), (0, _)]) C dX7_oversOfAll_21 hl rfl rfl (by decide) rfl (fun ls hl => ?_)
  refine v_goto (tgt := 4) C dX7_oversOfAll_24 (by decide) ?_
  exact VW.st rfl (K ls _ rfl (lv_sub hl [2, 1, 0] rfl))
def X7_oversOfAll_r (t : ct_St) : Int32 :=
  let x1 := X7_oversOfAll_a1 0 0 t
  let x2 := X7_oversOfAll_a1 1 x1 t
  let x3 := X7_oversOfAll_a1 2 x2 t
  let x4 := X7_oversOfAll_a1 3 x3 t
  x4
set_option maxHeartbeats 4000000 in
set_option maxRecDepth 100000 in
theorem c_X7_oversOfAll (l : Launch) (g : ct_G) (t : ct_St) : MI l g shG yX7_oversOfAll wsX7_oversOfAll (rmd 0) [.ref (g.2.1 0)] t (X7_oversOfAll_r t) t := by
  refine MI.of (own := RX7) (cc := cX7_oversOfAll) (maxL := 3) rfl (by decide) rfl (Nat.le_of_ble_eq_true rfl) (fun p e s m args below meth cd A Q C hret ls hl => ?_)
  have hl : lv_has ls 3 [(0, .ref (g.2.1 0))] := hl
  refine v_iconst (v := 0) C dX7_oversOfAll_0 (by decide) ?_
  refine v_istore_n (lv' := [(1, _), (0, _)]) C dX7_oversOfAll_1 rfl hl (by decide) rfl (fun ls hl => ?_)
  refine v_iconst (v := 0) C dX7_oversOfAll_2 (by decide) ?_
  refine v_istore_n (lv' := [(2, _), (1, _), (0, _)]) C dX7_oversOfAll_3 rfl hl (by decide) rfl (fun ls hl => ?_)
  refine cb_X7_oversOfAll l g C _ 0 _ vl_0_4 (fun ls x1 hx1 hl => ?_) ls (lv_sub hl [2, 1, 0] rfl)
  obtain rfl : x1 = 1 := hx1.trans (by decide)
  refine cb_X7_oversOfAll l g C _ 1 _ vl_1_4 (fun ls x1 hx1 hl => ?_) ls (lv_sub hl [0, 1, 2] rfl)
  obtain rfl : x1 = 2 := hx1.trans (by decide)
  refine cb_X7_oversOfAll l g C _ 2 _ vl_2_4 (fun ls x1 hx1 hl => ?_) ls (lv_sub hl [0, 1, 2] rfl)
  obtain rfl : x1 = 3 := hx1.trans (by decide)
  refine cb_X7_oversOfAll l g C _ 3 _ vl_3_4 (fun ls x1 hx1 hl => ?_) ls (lv_sub hl [0, 1, 2] rfl)
  obtain rfl : x1 = 4 := hx1.trans (by decide)
  refine v_iload_n C dX7_oversOfAll_4 rfl (lv_at hl 2 rfl) ?_
  refine v_iconst (v := 4) C dX7_oversOfAll_5 (by decide) ?_
  refine v_icmp_ge (tgt := 27) C dX7_oversOfAll_6 (by decide) (fun _ => ?_) (fun h => absurd h (by decide))
  refine v_iload_n C dX7_oversOfAll_27 rfl (lv_at hl 1 rfl) ?_
  exact hret _ _ _ _ rfl rfl dX7_oversOfAll_28
theorem iX7_many_X7 : ∀ w ∈ wsX70, w ∈ wsX7_many := fun _ h => (List.mem_cons_of_mem _ (List.mem_append_left _ (List.mem_append_left _ (List.mem_append_left _ (List.mem_append_left _ (List.mem_append_right _ h))))))
theorem iX7_many_X5 : ∀ w ∈ wsX50, w ∈ wsX7_many := fun _ h => (List.mem_cons_of_mem _ (List.mem_append_left _ (List.mem_append_left _ (List.mem_append_left _ (List.mem_append_right _ h)))))
theorem hv_X7_many : yX7_many.cls = RX7 ∧ yX7_many.cls ≠ "java/lang/invoke/MethodHandle" ∧ yX7_many.cls ≠ "java/lang/invoke/VarHandle" ∧ (parseMethodDescriptor yX7_many.desc).map (fun d => d.parameters.length) = some 1 := by decide +kernel
def X7_many_r (a1 : Int32) (t : ct_St) : Int32 :=
  if a1 = 0 then
    t 0 7
  else
    if a1 = 1 then
      if t 0 8 = 0 then
        0
      else
        1
    else
      if a1 = 2 then
        X7_outputsOn_r t
      else
        if a1 = 3 then
          t 6 4
        else
          if a1 = 4 then
            X7_catchersReady_r t
          else
            if a1 = 5 then
              X7_oversOfAll_r t
            else
              (-2)
set_option maxHeartbeats 4000000 in
set_option maxRecDepth 100000 in
theorem c_X7_many (l : Launch) (g : ct_G) (t : ct_St) (a1 : Int32) : MI l g shG yX7_many wsX7_many (rmd 2) [.ref (g.2.1 0), .int a1] t (X7_many_r a1 t) t := by
  refine MI.of (own := RX7) (cc := cX7_many) (maxL := 2) rfl (by decide) rfl (Nat.le_of_ble_eq_true rfl) (fun p e s m args below meth cd A Q C hret ls hl => ?_)
  have hl : lv_has ls 2 [(0, .ref (g.2.1 0)), (1, .int a1)] := hl
  refine v_iload_n C dX7_many_0 rfl (lv_at hl 1 rfl) ?_
  refine v_by (v := 0) (fun c_1 => ?_) (fun c_1 => ?_)
  · refine v_tabIn (off := 39) (tgt := 40) C dX7_many_1 c_1 (by decide) (by decide) (by decide) (by decide) ?_
    refine v_aload_n C dX7_many_40 rfl (lv_at hl 0 rfl) ?_
    refine v_getI C iX7_many_X7 k_0 rfl rfl (j := 7) rfl (by decide) rfl (C.w 1 rfl) dX7_many_41 ?_
    exact hret _ _ _ _ (Eq.symm ((if_pos c_1).trans rfl)) rfl dX7_many_44
  · refine v_by (v := 1) (fun c_2 => ?_) (fun c_2 => ?_)
    · refine v_tabIn (off := 44) (tgt := 45) C dX7_many_1 c_2 (by decide) (by decide) (by decide) (by decide) ?_
      refine v_aload_n C dX7_many_45 rfl (lv_at hl 0 rfl) ?_
      refine v_getI C iX7_many_X7 k_0 rfl rfl (j := 8) rfl (by decide) rfl (C.w 2 rfl) dX7_many_46 ?_
      refine v_if_eq (tgt := 56) C dX7_many_49 (by decide) (fun c_3 => ?_) (fun c_3 => ?_)
      · refine v_iconst (v := 0) C dX7_many_56 (by decide) ?_
        exact hret _ _ _ _ (Eq.symm ((if_neg c_1).trans ((if_pos c_2).trans ((if_pos c_3).trans rfl)))) rfl dX7_many_57
      · refine v_iconst (v := 1) C dX7_many_52 (by decide) ?_
        refine v_goto (tgt := 57) C dX7_many_53 (by decide) ?_
        exact hret _ _ _ _ (Eq.symm ((if_neg c_1).trans ((if_pos c_2).trans ((if_neg c_3).trans rfl)))) rfl dX7_many_57
    · refine v_by (v := 2) (fun c_4 => ?_) (fun c_4 => ?_)
      · refine v_tabIn (off := 57) (tgt := 58) C dX7_many_1 c_4 (by decide) (by decide) (by decide) (by decide) ?_
        refine v_aload_n C dX7_many_58 rfl (lv_at hl 0 rfl) ?_
        refine v_calli C (c_X7_outputsOn l g _) (cwV 0 C.2.2.2.2.1 gX7_many_X7_outputsOn rfl rfl rfl hv_X7_outputsOn ⟨Nat.le_of_ble_eq_true rfl, Nat.le_of_ble_eq_true rfl⟩) k_0 rfl rfl rfl rfl hl.1 rfl (Nat.le_of_ble_eq_true rfl) dX7_many_59 ⟨Nat.le_refl _, Nat.le_refl _⟩ ?_
        exact hret _ _ _ _ (Eq.symm ((if_neg c_1).trans ((if_neg c_2).trans ((if_pos c_4).trans rfl)))) rfl dX7_many_62
      · refine v_by (v := 3) (fun c_5 => ?_) (fun c_5 => ?_)
        · refine v_tabIn (off := 62) (tgt := 63) C dX7_many_1 c_5 (by decide) (by decide) (by decide) (by decide) ?_
          refine v_aload_n C dX7_many_63 rfl (lv_at hl 0 rfl) ?_
          refine v_getR C iX7_many_X7 k_0 rfl rfl (j := 5) rfl (by decide) rfl (C.w 3 rfl) dX7_many_64 ?_
          refine v_getI C iX7_many_X5 k_6 rfl rfl (j := 4) rfl (by decide) rfl (C.w 4 rfl) dX7_many_67 ?_
          exact hret _ _ _ _ (Eq.symm ((if_neg c_1).trans ((if_neg c_2).trans ((if_neg c_4).trans ((if_pos c_5).trans rfl))))) rfl dX7_many_70
        · refine v_by (v := 4) (fun c_6 => ?_) (fun c_6 => ?_)
          · refine v_tabIn (off := 70) (tgt := 71) C dX7_many_1 c_6 (by decide) (by decide) (by decide) (by decide) ?_
            refine v_aload_n C dX7_many_71 rfl (lv_at hl 0 rfl) ?_
            refine v_calli C (c_X7_catchersReady l g _) (cwV 0 C.2.2.2.2.1 gX7_many_X7_catchersReady rfl rfl rfl hv_X7_catchersReady ⟨Nat.le_of_ble_eq_true rfl, Nat.le_of_ble_eq_true rfl⟩) k_0 rfl rfl rfl rfl hl.1 rfl (Nat.le_of_ble_eq_true rfl) dX7_many_72 ⟨Nat.le_refl _, Nat.le_refl _⟩ ?_
            exact hret _ _ _ _ (Eq.symm ((if_neg c_1).trans ((if_neg c_2).trans ((if_neg c_4).trans ((if_neg c_5).trans ((if_pos c_6).trans rfl)))))) rfl dX7_many_75
          · refine v_by (v := 5) (fun c_7 => ?_) (fun c_7 => ?_)
            · refine v_tabIn (off := 75) (tgt := 76) C dX7_many_1 c_7 (by decide) (by decide) (by decide) (by decide) ?_
              refine v_aload_n C dX7_many_76 rfl (lv_at hl 0 rfl) ?_
              refine v_calli C (c_X7_oversOfAll l g _) (cwV 0 C.2.2.2.2.1 gX7_many_X7_oversOfAll rfl rfl rfl hv_X7_oversOfAll ⟨Nat.le_of_ble_eq_true rfl, Nat.le_of_ble_eq_true rfl⟩) k_0 rfl rfl rfl rfl hl.1 rfl (Nat.le_of_ble_eq_true rfl) dX7_many_77 ⟨Nat.le_refl _, Nat.le_refl _⟩ ?_
              exact hret _ _ _ _ (Eq.symm ((if_neg c_1).trans ((if_neg c_2).trans ((if_neg c_4).trans ((if_neg c_5).trans ((if_neg c_6).trans ((if_pos c_7).trans rfl))))))) rfl dX7_many_80
            · refine v_tabOut (tgt := 81) C dX7_many_1 (by have h0 := lv_neT (a := 0) c_1 (by decide); have h1 := lv_neT (a := 1) c_2 (by decide); have h2 := lv_neT (a := 2) c_4 (by decide); have h3 := lv_neT (a := 3) c_5 (by decide); have h4 := lv_neT (a := 4) c_6 (by decide); have h5 := lv_neT (a := 5) c_7 (by decide); omega) (by decide) ?_
              refine v_bipush (v := (-2)) C dX7_many_81 (by decide) ?_
              exact hret _ _ _ _ (Eq.symm ((if_neg c_1).trans ((if_neg c_2).trans ((if_neg c_4).trans ((if_neg c_5).trans ((if_neg c_6).trans ((if_neg c_7).trans rfl))))))) rfl dX7_many_83
