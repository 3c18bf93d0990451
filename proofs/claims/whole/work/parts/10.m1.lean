theorem hs_X8_within : yX8_within.cls ≠ "java/lang/invoke/MethodHandle" ∧ yX8_within.cls ≠ "java/lang/invoke/VarHandle" ∧ (parseMethodDescriptor yX8_within.desc).map (fun d => d.parameters.length) = some 3 := by decide +kernel
def X8_within_r (a1 : Int32) (a2 : Int32) (a3 : Int32) : Int32 :=
  if a1 < a2 then
    0
  else
    if a3 < a1 then
      0
    else
      1
set_option maxHeartbeats 4000000 in
set_option maxRecDepth 100000 in
theorem c_X8_within (l : Launch) (g : ct_G) (t : ct_St) (a1 : Int32) (a2 : Int32) (a3 : Int32) : MI l g shG yX8_within wsX8_within (rmd 0) [.int a1, .int a2, .int a3] t (X8_within_r a1 a2 a3) t := by
  refine MZ.of (own := RX8) (cc := cX8_within) (maxL := 3) rfl (by decide) rfl (Nat.le_of_ble_eq_true rfl) (fun p e s m args below meth cd A Q C hret ls hl => ?_)
  have hl : lv_has ls 3 [(0, .int a1), (1, .int a2), (2, .int a3)] := hl
  refine v_iload_n C dX8_within_0 rfl (lv_at hl 0 rfl) ?_
  refine v_iload_n C dX8_within_1 rfl (lv_at hl 1 rfl) ?_
  refine v_icmp_lt (tgt := 14) C dX8_within_2 (by decide) (fun c_1 => ?_) (fun c_1 => ?_)
  · refine v_iconst (v := 0) C dX8_within_14 (by decide) ?_
    exact hret _ _ _ _ (Eq.symm ((if_pos c_1).trans rfl)) rfl rfl dX8_within_15
  · refine v_iload_n C dX8_within_5 rfl (lv_at hl 0 rfl) ?_
    refine v_iload_n C dX8_within_6 rfl (lv_at hl 2 rfl) ?_
    refine v_icmp_gt (tgt := 14) C dX8_within_7 (by decide) (fun c_2 => ?_) (fun c_2 => ?_)
    · refine v_iconst (v := 0) C dX8_within_14 (by decide) ?_
      exact hret _ _ _ _ (Eq.symm ((if_neg c_1).trans ((if_pos c_2).trans rfl))) rfl rfl dX8_within_15
    · refine v_iconst (v := 1) C dX8_within_10 (by decide) ?_
      refine v_goto (tgt := 15) C dX8_within_11 (by decide) ?_
      exact hret _ _ _ _ (Eq.symm ((if_neg c_1).trans ((if_neg c_2).trans rfl))) rfl rfl dX8_within_15
theorem X8_within7_in {a : Int32} (h : ¬ X8_within_r a 0 7 = 0) : vp_in a 8 := by
  unfold X8_within_r at h
  split at h
  · exact absurd rfl h
  · split at h
    · exact absurd rfl h
    · next h1 h2 => exact wi_in h1 h2 (by decide)
theorem X8_within_z (a1 : Int32) (a2 : Int32) (a3 : Int32) : narrow .boolean (.int (X8_within_r a1 a2 a3)) = .int (X8_within_r a1 a2 a3) := by
  dsimp only [X8_within_r]
  (repeat' split) <;> first | rfl
theorem hs_X8_isOne : yX8_isOne.cls ≠ "java/lang/invoke/MethodHandle" ∧ yX8_isOne.cls ≠ "java/lang/invoke/VarHandle" ∧ (parseMethodDescriptor yX8_isOne.desc).map (fun d => d.parameters.length) = some 1 := by decide +kernel
def X8_isOne_r (a1 : Int32) : Int32 :=
  X8_within_r a1 0 3
set_option maxHeartbeats 4000000 in
set_option maxRecDepth 100000 in
theorem c_X8_isOne (l : Launch) (g : ct_G) (t : ct_St) (a1 : Int32) : MI l g shG yX8_isOne wsX8_isOne (rmd 1) [.int a1] t (X8_isOne_r a1) t := by
  refine MZ.of (own := RX8) (cc := cX8_isOne) (maxL := 1) rfl (by decide) rfl (Nat.le_of_ble_eq_true rfl) (fun p e s m args below meth cd A Q C hret ls hl => ?_)
  have hl : lv_has ls 1 [(0, .int a1)] := hl
  refine v_iload_n C dX8_isOne_0 rfl (lv_at hl 0 rfl) ?_
  refine v_iconst (v := 0) C dX8_isOne_1 (by decide) ?_
  refine v_iconst (v := 3) C dX8_isOne_2 (by decide) ?_
  refine v_scalli C (c_X8_within l g _ _ _ _) (va_cwS 3 C.2.2.2.2.1 gX8_isOne_X8_within rfl rfl rfl hs_X8_within ⟨Nat.le_of_ble_eq_true rfl, Nat.le_of_ble_eq_true rfl⟩) rfl hl.1 rfl (Nat.le_of_ble_eq_true rfl) dX8_isOne_3 ⟨Nat.le_refl _, Nat.le_refl _⟩ ?_
  exact hret _ _ _ _ rfl rfl (X8_within_z _ _ _) dX8_isOne_6
theorem X8_isOne_in {a : Int32} (h : ¬ X8_isOne_r a = 0) : vp_in a 4 := by
  unfold X8_isOne_r X8_within_r at h
  split at h
  · exact absurd rfl h
  · split at h
    · exact absurd rfl h
    · next h1 h2 => exact wi_in h1 h2 (by decide)
theorem X8_isOne_z (a1 : Int32) : narrow .boolean (.int (X8_isOne_r a1)) = .int (X8_isOne_r a1) := by
  dsimp only [X8_isOne_r]
  (repeat' split) <;> first | rfl | exact X8_within_z _ _ _
theorem hs_X8_isPair : yX8_isPair.cls ≠ "java/lang/invoke/MethodHandle" ∧ yX8_isPair.cls ≠ "java/lang/invoke/VarHandle" ∧ (parseMethodDescriptor yX8_isPair.desc).map (fun d => d.parameters.length) = some 1 := by decide +kernel
def X8_isPair_r (a1 : Int32) : Int32 :=
  X8_within_r a1 0 1
set_option maxHeartbeats 4000000 in
set_option maxRecDepth 100000 in
theorem c_X8_isPair (l : Launch) (g : ct_G) (t : ct_St) (a1 : Int32) : MI l g shG yX8_isPair wsX8_isPair (rmd 1) [.int a1] t (X8_isPair_r a1) t := by
  refine MZ.of (own := RX8) (cc := cX8_isPair) (maxL := 1) rfl (by decide) rfl (Nat.le_of_ble_eq_true rfl) (fun p e s m args below meth cd A Q C hret ls hl => ?_)
  have hl : lv_has ls 1 [(0, .int a1)] := hl
  refine v_iload_n C dX8_isPair_0 rfl (lv_at hl 0 rfl) ?_
  refine v_iconst (v := 0) C dX8_isPair_1 (by decide) ?_
  refine v_iconst (v := 1) C dX8_isPair_2 (by decide) ?_
  refine v_scalli C (c_X8_within l g _ _ _ _) (va_cwS 3 C.2.2.2.2.1 gX8_isPair_X8_within rfl rfl rfl hs_X8_within ⟨Nat.le_of_ble_eq_true rfl, Nat.le_of_ble_eq_true rfl⟩) rfl hl.1 rfl (Nat.le_of_ble_eq_true rfl) dX8_isPair_3 ⟨Nat.le_refl _, Nat.le_refl _⟩ ?_
  exact hret _ _ _ _ rfl rfl (X8_within_z _ _ _) dX8_isPair_6
theorem X8_isPair_in {a : Int32} (h : ¬ X8_isPair_r a = 0) : vp_in a 2 := by
  unfold X8_isPair_r X8_within_r at h
  split at h
  · exact absurd rfl h
  · split at h
    · exact absurd rfl h
    · next h1 h2 => exact wi_in h1 h2 (by decide)
theorem X8_isPair_z (a1 : Int32) : narrow .boolean (.int (X8_isPair_r a1)) = .int (X8_isPair_r a1) := by
  dsimp only [X8_isPair_r]
  (repeat' split) <;> first | rfl | exact X8_within_z _ _ _
theorem iX8_goesOver_X8 : ∀ w ∈ wsX80, w ∈ wsX8_goesOver := fun _ h => (List.mem_cons_of_mem _ (List.mem_append_right _ h))
theorem hv_X8_goesOver : yX8_goesOver.cls = RX8 ∧ yX8_goesOver.cls ≠ "java/lang/invoke/MethodHandle" ∧ yX8_goesOver.cls ≠ "java/lang/invoke/VarHandle" ∧ (parseMethodDescriptor yX8_goesOver.desc).map (fun d => d.parameters.length) = some 1 := by decide +kernel
def X8_goesOver_s (a1 : Int32) (t : ct_St) : ct_St :=
  let t1 := us t 41 (ix a1) 1
  let t2 := us t1 38 (ix a1) ((t1 38 (ix a1)) + 1)
  t2
set_option maxHeartbeats 4000000 in
set_option maxRecDepth 100000 in
theorem c_X8_goesOver (l : Launch) (g : ct_G) (t : ct_St) (a1 : Int32) (h1 : vp_in a1 4) : MV l g shG yX8_goesOver wsX8_goesOver (rmd 0) [.ref (g.2.1 30), .int a1] t (X8_goesOver_s a1 t) := by
  refine MV.of (own := RX8) (cc := cX8_goesOver) (maxL := 2) rfl (by decide) rfl (Nat.le_of_ble_eq_true rfl) (fun p e s m args below meth cd A Q C hret ls hl => ?_)
  have hl : lv_has ls 2 [(0, .ref (g.2.1 30)), (1, .int a1)] := hl
  refine v_aload_n C dX8_goesOver_0 rfl (lv_at hl 0 rfl) ?_
  refine v_getR C iX8_goesOver_X8 k_30 rfl rfl (j := 11) rfl (by decide) rfl (C.w 1 rfl) dX8_goesOver_1 ?_
  refine v_iload_n C dX8_goesOver_4 rfl (lv_at hl 1 rfl) ?_
  refine v_iconst (v := 1) C dX8_goesOver_5 (by decide) ?_
  refine v_zast (z := 1) C k_41 rfl h1 (by decide) dX8_goesOver_6 ?_
  refine v_aload_n C dX8_goesOver_7 rfl (lv_at hl 0 rfl) ?_
  refine v_getR C iX8_goesOver_X8 k_30 rfl rfl (j := 8) rfl (by decide) rfl (C.w 2 rfl) dX8_goesOver_8 ?_
  refine v_iload_n C dX8_goesOver_11 rfl (lv_at hl 1 rfl) ?_
  refine v_dup2 C dX8_goesOver_12 rfl rfl ?_
  refine v_iald C k_38 rfl h1 dX8_goesOver_13 ?_
  refine v_iconst (v := 1) C dX8_goesOver_14 (by decide) ?_
  refine v_iadd C dX8_goesOver_15 ?_
  refine v_iast C k_38 rfl h1 dX8_goesOver_16 ?_
  exact hret _ _ _ rfl dX8_goesOver_17
theorem X8_goesOver_s_fr (a1 : Int32) (t : ct_St) {r : Nat} (h38 : r ≠ 38) (h41 : r ≠ 41) : X8_goesOver_s a1 t r = t r := by
  dsimp only [X8_goesOver_s]
  (repeat' split) <;> simp only [us_ne, ur_ne, h38, h41, ne_eq, not_false_eq_true]
theorem iX8_takesTop_X8 : ∀ w ∈ wsX80, w ∈ wsX8_takesTop := fun _ h => (List.mem_cons_of_mem _ (List.mem_append_right _ h))
theorem hv_X8_takesTop : yX8_takesTop.cls = RX8 ∧ yX8_takesTop.cls ≠ "java/lang/invoke/MethodHandle" ∧ yX8_takesTop.cls ≠ "java/lang/invoke/VarHandle" ∧ (parseMethodDescriptor yX8_takesTop.desc).map (fun d => d.parameters.length) = some 1 := by decide +kernel
def X8_takesTop_s (a1 : Int32) (t : ct_St) : ct_St :=
  if t 39 (ix a1) = (-9) then
    let t3 := us t 32 (ix a1) (t 32 (ix a1))
    let t4 := us t3 39 (ix a1) (-9)
    t4
  else
    let t1 := us t 32 (ix a1) (t 39 (ix a1))
    let t2 := us t1 39 (ix a1) (-9)
    t2
set_option maxHeartbeats 4000000 in
set_option maxRecDepth 100000 in
theorem c_X8_takesTop (l : Launch) (g : ct_G) (t : ct_St) (a1 : Int32) (h1 : vp_in a1 4) : MV l g shG yX8_takesTop wsX8_takesTop (rmd 0) [.ref (g.2.1 30), .int a1] t (X8_takesTop_s a1 t) := by
  refine MV.of (own := RX8) (cc := cX8_takesTop) (maxL := 2) rfl (by decide) rfl (Nat.le_of_ble_eq_true rfl) (fun p e s m args below meth cd A Q C hret ls hl => ?_)
  have hl : lv_has ls 2 [(0, .ref (g.2.1 30)), (1, .int a1)] := hl
  refine v_aload_n C dX8_takesTop_0 rfl (lv_at hl 0 rfl) ?_
  refine v_getR C iX8_takesTop_X8 k_30 rfl rfl (j := 2) rfl (by decide) rfl (C.w 1 rfl) dX8_takesTop_1 ?_
  refine v_iload_n C dX8_takesTop_4 rfl (lv_at hl 1 rfl) ?_
  refine v_aload_n C dX8_takesTop_5 rfl (lv_at hl 0 rfl) ?_
  refine v_getR C iX8_takesTop_X8 k_30 rfl rfl (j := 9) rfl (by decide) rfl (C.w 2 rfl) dX8_takesTop_6 ?_
  refine v_iload_n C dX8_takesTop_9 rfl (lv_at hl 1 rfl) ?_
  refine v_iald C k_39 rfl h1 dX8_takesTop_10 ?_
  refine v_bipush (v := (-9)) C dX8_takesTop_11 (by decide) ?_
  refine v_icmp_ne (tgt := 25) C dX8_takesTop_13 (by decide) (fun c_1 => ?_) (fun c_1 => ?_)
  · refine v_aload_n C dX8_takesTop_25 rfl (lv_at hl 0 rfl) ?_
    refine v_getR C iX8_takesTop_X8 k_30 rfl rfl (j := 9) rfl (by decide) rfl (C.w 2 rfl) dX8_takesTop_26 ?_
    refine v_iload_n C dX8_takesTop_29 rfl (lv_at hl 1 rfl) ?_
    refine v_iald C k_39 rfl h1 dX8_takesTop_30 ?_
    refine v_iast C k_32 rfl h1 dX8_takesTop_31 ?_
    refine v_aload_n C dX8_takesTop_32 rfl (lv_at hl 0 rfl) ?_
    refine v_getR C iX8_takesTop_X8 k_30 rfl rfl (j := 9) rfl (by decide) rfl (C.w 2 rfl) dX8_takesTop_33 ?_
    refine v_iload_n C dX8_takesTop_36 rfl (lv_at hl 1 rfl) ?_
    refine v_bipush (v := (-9)) C dX8_takesTop_37 (by decide) ?_
    refine v_iast C k_39 rfl h1 dX8_takesTop_39 ?_
    exact hret _ _ _ (Eq.symm ((if_neg c_1).trans rfl)) dX8_takesTop_40
  · refine v_aload_n C dX8_takesTop_16 rfl (lv_at hl 0 rfl) ?_
    refine v_getR C iX8_takesTop_X8 k_30 rfl rfl (j := 2) rfl (by decide) rfl (C.w 1 rfl) dX8_takesTop_17 ?_
    refine v_iload_n C dX8_takesTop_20 rfl (lv_at hl 1 rfl) ?_
    refine v_iald C k_32 rfl h1 dX8_takesTop_21 ?_
    refine v_goto (tgt := 31) C dX8_takesTop_22 (by decide) ?_
    refine v_iast C k_32 rfl h1 dX8_takesTop_31 ?_
    refine v_aload_n C dX8_takesTop_32 rfl (lv_at hl 0 rfl) ?_
    refine v_getR C iX8_takesTop_X8 k_30 rfl rfl (j := 9) rfl (by decide) rfl (C.w 2 rfl) dX8_takesTop_33 ?_
    refine v_iload_n C dX8_takesTop_36 rfl (lv_at hl 1 rfl) ?_
    refine v_bipush (v := (-9)) C dX8_takesTop_37 (by decide) ?_
    refine v_iast C k_39 rfl h1 dX8_takesTop_39 ?_
    exact hret _ _ _ (Eq.symm ((if_pos c_1).trans rfl)) dX8_takesTop_40
theorem X8_takesTop_s_fr (a1 : Int32) (t : ct_St) {r : Nat} (h32 : r ≠ 32) (h39 : r ≠ 39) : X8_takesTop_s a1 t r = t r := by
  dsimp only [X8_takesTop_s]
  (repeat' split) <;> simp only [us_ne, ur_ne, h32, h39, ne_eq, not_false_eq_true]
theorem iX8_stepsUp_X8 : ∀ w ∈ wsX80, w ∈ wsX8_stepsUp := fun _ h => (List.mem_cons_of_mem _ (List.mem_append_right _ h))
theorem hv_X8_stepsUp : yX8_stepsUp.cls = RX8 ∧ yX8_stepsUp.cls ≠ "java/lang/invoke/MethodHandle" ∧ yX8_stepsUp.cls ≠ "java/lang/invoke/VarHandle" ∧ (parseMethodDescriptor yX8_stepsUp.desc).map (fun d => d.parameters.length) = some 1 := by decide +kernel
def X8_stepsUp_s (a1 : Int32) (t : ct_St) : ct_St :=
  if t 35 (ix a1) = t 32 (ix a1) then
    let t2 := X8_goesOver_s a1 t
    let t3 := X8_takesTop_s a1 t2
    let t4 := us t3 35 (ix a1) 0
    t4
  else
    let t1 := us t 35 (ix a1) ((t 35 (ix a1)) + 1)
    t1
set_option maxHeartbeats 4000000 in
set_option maxRecDepth 100000 in
theorem c_X8_stepsUp (l : Launch) (g : ct_G) (t : ct_St) (a1 : Int32) (h1 : vp_in a1 4) : MV l g shG yX8_stepsUp wsX8_stepsUp (rmd 1) [.ref (g.2.1 30), .int a1] t (X8_stepsUp_s a1 t) := by
  refine MV.of (own := RX8) (cc := cX8_stepsUp) (maxL := 2) rfl (by decide) rfl (Nat.le_of_ble_eq_true rfl) (fun p e s m args below meth cd A Q C hret ls hl => ?_)
  have hl : lv_has ls 2 [(0, .ref (g.2.1 30)), (1, .int a1)] := hl
  refine v_aload_n C dX8_stepsUp_0 rfl (lv_at hl 0 rfl) ?_
  refine v_getR C iX8_stepsUp_X8 k_30 rfl rfl (j := 5) rfl (by decide) rfl (C.w 1 rfl) dX8_stepsUp_1 ?_
  refine v_iload_n C dX8_stepsUp_4 rfl (lv_at hl 1 rfl) ?_
  refine v_iald C k_35 rfl h1 dX8_stepsUp_5 ?_
  refine v_aload_n C dX8_stepsUp_6 rfl (lv_at hl 0 rfl) ?_
  refine v_getR C iX8_stepsUp_X8 k_30 rfl rfl (j := 2) rfl (by decide) rfl (C.w 2 rfl) dX8_stepsUp_7 ?_
  refine v_iload_n C dX8_stepsUp_10 rfl (lv_at hl 1 rfl) ?_
  refine v_iald C k_32 rfl h1 dX8_stepsUp_11 ?_
  refine v_icmp_ne (tgt := 35) C dX8_stepsUp_12 (by decide) (fun c_1 => ?_) (fun c_1 => ?_)
  · refine v_aload_n C dX8_stepsUp_35 rfl (lv_at hl 0 rfl) ?_
    refine v_getR C iX8_stepsUp_X8 k_30 rfl rfl (j := 5) rfl (by decide) rfl (C.w 1 rfl) dX8_stepsUp_36 ?_
    refine v_iload_n C dX8_stepsUp_39 rfl (lv_at hl 1 rfl) ?_
    refine v_dup2 C dX8_stepsUp_40 rfl rfl ?_
    refine v_iald C k_35 rfl h1 dX8_stepsUp_41 ?_
    refine v_iconst (v := 1) C dX8_stepsUp_42 (by decide) ?_
    refine v_iadd C dX8_stepsUp_43 ?_
    refine v_iast C k_35 rfl h1 dX8_stepsUp_44 ?_
    exact hret _ _ _ (Eq.symm ((if_neg c_1).trans rfl)) dX8_stepsUp_45
  · refine v_aload_n C dX8_stepsUp_15 rfl (lv_at hl 0 rfl) ?_
    refine v_iload_n C dX8_stepsUp_16 rfl (lv_at hl 1 rfl) ?_
    refine v_callv C (c_X8_goesOver l g _ _ h1) (cwV 1 C.2.2.2.2.1 gX8_stepsUp_X8_goesOver rfl rfl rfl hv_X8_goesOver ⟨Nat.le_of_ble_eq_true rfl, Nat.le_of_ble_eq_true rfl⟩) k_30 rfl rfl rfl rfl hl.1 rfl (Nat.le_of_ble_eq_true rfl) dX8_stepsUp_17 ⟨Nat.le_refl _, Nat.le_refl _⟩ ?_
    refine v_aload_n C dX8_stepsUp_20 rfl (lv_at hl 0 rfl) ?_
    refine v_iload_n C dX8_stepsUp_21 rfl (lv_at hl 1 rfl) ?_
    refine v_callv C (c_X8_takesTop l g _ _ h1) (cwV 1 C.2.2.2.2.1 gX8_stepsUp_X8_takesTop rfl rfl rfl hv_X8_takesTop ⟨Nat.le_of_ble_eq_true rfl, Nat.le_of_ble_eq_true rfl⟩) k_30 rfl rfl rfl rfl hl.1 rfl (Nat.le_of_ble_eq_true rfl) dX8_stepsUp_22 ⟨Nat.le_refl _, Nat.le_refl _⟩ ?_
    refine v_aload_n C dX8_stepsUp_25 rfl (lv_at hl 0 rfl) ?_
    refine v_getR C iX8_stepsUp_X8 k_30 rfl rfl (j := 5) rfl (by decide) rfl (C.w 1 rfl) dX8_stepsUp_26 ?_
    refine v_iload_n C dX8_stepsUp_29 rfl (lv_at hl 1 rfl) ?_
    refine v_iconst (v := 0) C dX8_stepsUp_30 (by decide) ?_
    refine v_iast C k_35 rfl h1 dX8_stepsUp_31 ?_
    refine v_goto (tgt := 45) C dX8_stepsUp_32 (by decide) ?_
    exact hret _ _ _ (Eq.symm ((if_pos c_1).trans rfl)) dX8_stepsUp_45
theorem X8_stepsUp_s_fr (a1 : Int32) (t : ct_St) {r : Nat} (h32 : r ≠ 32) (h35 : r ≠ 35) (h38 : r ≠ 38) (h39 : r ≠ 39) (h41 : r ≠ 41) : X8_stepsUp_s a1 t r = t r := by
  dsimp only [X8_stepsUp_s]
  (repeat' split) <;> simp only [us_ne, ur_ne, h32, h35, h38, h39, h41, ne_eq, not_false_eq_true, X8_goesOver_s_fr, X8_takesTop_s_fr]
theorem iX8_stepsDown_X8 : ∀ w ∈ wsX80, w ∈ wsX8_stepsDown := fun _ h => (List.mem_cons_of_mem _ (List.mem_append_right _ h))
theorem hv_X8_stepsDown : yX8_stepsDown.cls = RX8 ∧ yX8_stepsDown.cls ≠ "java/lang/invoke/MethodHandle" ∧ yX8_stepsDown.cls ≠ "java/lang/invoke/VarHandle" ∧ (parseMethodDescriptor yX8_stepsDown.desc).map (fun d => d.parameters.length) = some 1 := by decide +kernel
def X8_stepsDown_s (a1 : Int32) (t : ct_St) : ct_St :=
  if t 35 (ix a1) = 0 then
    let t2 := X8_goesOver_s a1 t
    let t3 := X8_takesTop_s a1 t2
    let t4 := us t3 35 (ix a1) (t3 32 (ix a1))
    t4
  else
    let t1 := us t 35 (ix a1) ((t 35 (ix a1)) - 1)
    t1
set_option maxHeartbeats 4000000 in
set_option maxRecDepth 100000 in
theorem c_X8_stepsDown (l : Launch) (g : ct_G) (t : ct_St) (a1 : Int32) (h1 : vp_in a1 4) : MV l g shG yX8_stepsDown wsX8_stepsDown (rmd 1) [.ref (g.2.1 30), .int a1] t (X8_stepsDown_s a1 t) := by
  refine MV.of (own := RX8) (cc := cX8_stepsDown) (maxL := 2) rfl (by decide) rfl (Nat.le_of_ble_eq_true rfl) (fun p e s m args below meth cd A Q C hret ls hl => ?_)
  have hl : lv_has ls 2 [(0, .ref (g.2.1 30)), (1, .int a1)] := hl
  refine v_aload_n C dX8_stepsDown_0 rfl (lv_at hl 0 rfl) ?_
  refine v_getR C iX8_stepsDown_X8 k_30 rfl rfl (j := 5) rfl (by decide) rfl (C.w 1 rfl) dX8_stepsDown_1 ?_
  refine v_iload_n C dX8_stepsDown_4 rfl (lv_at hl 1 rfl) ?_
  refine v_iald C k_35 rfl h1 dX8_stepsDown_5 ?_
  refine v_if_ne (tgt := 34) C dX8_stepsDown_6 (by decide) (fun c_1 => ?_) (fun c_1 => ?_)
  · refine v_aload_n C dX8_stepsDown_34 rfl (lv_at hl 0 rfl) ?_
    refine v_getR C iX8_stepsDown_X8 k_30 rfl rfl (j := 5) rfl (by decide) rfl (C.w 1 rfl) dX8_stepsDown_35 ?_
    refine v_iload_n C dX8_stepsDown_38 rfl (lv_at hl 1 rfl) ?_
    refine v_dup2 C dX8_stepsDown_39 rfl rfl ?_
    refine v_iald C k_35 rfl h1 dX8_stepsDown_40 ?_
    refine v_iconst (v := 1) C dX8_stepsDown_41 (by decide) ?_
    refine v_isub C dX8_stepsDown_42 ?_
    refine v_iast C k_35 rfl h1 dX8_stepsDown_43 ?_
    exact hret _ _ _ (Eq.symm ((if_neg c_1).trans rfl)) dX8_stepsDown_44
  · refine v_aload_n C dX8_stepsDown_9 rfl (lv_at hl 0 rfl) ?_
    refine v_iload_n C dX8_stepsDown_10 rfl (lv_at hl 1 rfl) ?_
    refine v_callv C (c_X8_goesOver l g _ _ h1) (cwV 1 C.2.2.2.2.1 gX8_stepsDown_X8_goesOver rfl rfl rfl hv_X8_goesOver ⟨Nat.le_of_ble_eq_true rfl, Nat.le_of_ble_eq_true rfl⟩) k_30 rfl rfl rfl rfl hl.1 rfl (Nat.le_of_ble_eq_true rfl) dX8_stepsDown_11 ⟨Nat.le_refl _, Nat.le_refl _⟩ ?_
    refine v_aload_n C dX8_stepsDown_14 rfl (lv_at hl 0 rfl) ?_
    refine v_iload_n C dX8_stepsDown_15 rfl (lv_at hl 1 rfl) ?_
    refine v_callv C (c_X8_takesTop l g _ _ h1) (cwV 1 C.2.2.2.2.1 gX8_stepsDown_X8_takesTop rfl rfl rfl hv_X8_takesTop ⟨Nat.le_of_ble_eq_true rfl, Nat.le_of_ble_eq_true rfl⟩) k_30 rfl rfl rfl rfl hl.1 rfl (Nat.le_of_ble_eq_true rfl) dX8_stepsDown_16 ⟨Nat.le_refl _, Nat.le_refl _⟩ ?_
    refine v_aload_n C dX8_stepsDown_19 rfl (lv_at hl 0 rfl) ?_
    refine v_getR C iX8_stepsDown_X8 k_30 rfl rfl (j := 5) rfl (by decide) rfl (C.w 1 rfl) dX8_stepsDown_20 ?_
    refine v_iload_n C dX8_stepsDown_23 rfl (lv_at hl 1 rfl) ?_
    refine v_aload_n C dX8_stepsDown_24 rfl (lv_at hl 0 rfl) ?_
    refine v_getR C iX8_stepsDown_X8 k_30 rfl rfl (j := 2) rfl (by decide) rfl (C.w 2 rfl) dX8_stepsDown_25 ?_
    refine v_iload_n C dX8_stepsDown_28 rfl (lv_at hl 1 rfl) ?_
    refine v_iald C k_32 rfl h1 dX8_stepsDown_29 ?_
    refine v_iast C k_35 rfl h1 dX8_stepsDown_30 ?_
    refine v_goto (tgt := 44) C dX8_stepsDown_31 (by decide) ?_
    exact hret _ _ _ (Eq.symm ((if_pos c_1).trans rfl)) dX8_stepsDown_44
theorem X8_stepsDown_s_fr (a1 : Int32) (t : ct_St) {r : Nat} (h32 : r ≠ 32) (h35 : r ≠ 35) (h38 : r ≠ 38) (h39 : r ≠ 39) (h41 : r ≠ 41) : X8_stepsDown_s a1 t r = t r := by
  dsimp only [X8_stepsDown_s]
  (repeat' split) <;> simp only [us_ne, ur_ne, h32, h35, h38, h39, h41, ne_eq, not_false_eq_true, X8_goesOver_s_fr, X8_takesTop_s_fr]
theorem iX8_stepsBoth_X8 : ∀ w ∈ wsX80, w ∈ wsX8_stepsBoth := fun _ h => (List.mem_cons_of_mem _ (List.mem_append_right _ h))
theorem hv_X8_stepsBoth : yX8_stepsBoth.cls = RX8 ∧ yX8_stepsBoth.cls ≠ "java/lang/invoke/MethodHandle" ∧ yX8_stepsBoth.cls ≠ "java/lang/invoke/VarHandle" ∧ (parseMethodDescriptor yX8_stepsBoth.desc).map (fun d => d.parameters.length) = some 1 := by decide +kernel
def X8_stepsBoth_s (a1 : Int32) (t : ct_St) : ct_St :=
  if t 37 (ix a1) = 1 then
    if t 35 (ix a1) = t 32 (ix a1) then
      let t15 := X8_goesOver_s a1 t
      let t16 := us t15 37 (ix a1) 0
      if t16 37 (ix a1) = 1 then
        let t18 := us t16 35 (ix a1) ((t16 35 (ix a1)) + 1)
        t18
      else
        let t17 := us t16 35 (ix a1) ((t16 35 (ix a1)) + (-1))
        t17
    else
      if t 37 (ix a1) = 0 then
        if t 35 (ix a1) = 0 then
          let t10 := X8_goesOver_s a1 t
          let t11 := us t10 37 (ix a1) 1
          let t12 := X8_takesTop_s a1 t11
          if t12 37 (ix a1) = 1 then
            let t14 := us t12 35 (ix a1) ((t12 35 (ix a1)) + 1)
            t14
          else
            let t13 := us t12 35 (ix a1) ((t12 35 (ix a1)) + (-1))
            t13
        else
          let t9 := us t 35 (ix a1) ((t 35 (ix a1)) + 1)
          t9
      else
        let t8 := us t 35 (ix a1) ((t 35 (ix a1)) + 1)
        t8
  else
    if t 37 (ix a1) = 0 then
      if t 35 (ix a1) = 0 then
        let t3 := X8_goesOver_s a1 t
        let t4 := us t3 37 (ix a1) 1
        let t5 := X8_takesTop_s a1 t4
        if t5 37 (ix a1) = 1 then
          let t7 := us t5 35 (ix a1) ((t5 35 (ix a1)) + 1)
          t7
        else
          let t6 := us t5 35 (ix a1) ((t5 35 (ix a1)) + (-1))
          t6
      else
        let t2 := us t 35 (ix a1) ((t 35 (ix a1)) + (-1))
        t2
    else
      let t1 := us t 35 (ix a1) ((t 35 (ix a1)) + (-1))
      t1
set_option maxHeartbeats 4000000 in
set_option maxRecDepth 100000 in
theorem c_X8_stepsBoth (l : Launch) (g : ct_G) (t : ct_St) (a1 : Int32) (h1 : vp_in a1 4) : MV l g shG yX8_stepsBoth wsX8_stepsBoth (rmd 1) [.ref (g.2.1 30), .int a1] t (X8_stepsBoth_s a1 t) := by
  refine MV.of (own := RX8) (cc := cX8_stepsBoth) (maxL := 2) rfl (by decide) rfl (Nat.le_of_ble_eq_true rfl) (fun p e s m args below meth cd A Q C hret ls hl => ?_)
  have hl : lv_has ls 2 [(0, .ref (g.2.1 30)), (1, .int a1)] := hl
  refine v_aload_n C dX8_stepsBoth_0 rfl (lv_at hl 0 rfl) ?_
  refine v_getR C iX8_stepsBoth_X8 k_30 rfl rfl (j := 7) rfl (by decide) rfl (C.w 1 rfl) dX8_stepsBoth_1 ?_
  refine v_iload_n C dX8_stepsBoth_4 rfl (lv_at hl 1 rfl) ?_
  refine v_iald C k_37 rfl h1 dX8_stepsBoth_5 ?_
  refine v_iconst (v := 1) C dX8_stepsBoth_6 (by decide) ?_
  refine v_icmp_ne (tgt := 40) C dX8_stepsBoth_7 (by decide) (fun c_1 => ?_) (fun c_1 => ?_)
  · refine v_aload_n C dX8_stepsBoth_40 rfl (lv_at hl 0 rfl) ?_
    refine v_getR C iX8_stepsBoth_X8 k_30 rfl rfl (j := 7) rfl (by decide) rfl (C.w 1 rfl) dX8_stepsBoth_41 ?_
    refine v_iload_n C dX8_stepsBoth_44 rfl (lv_at hl 1 rfl) ?_
    refine v_iald C k_37 rfl h1 dX8_stepsBoth_45 ?_
    refine v_if_ne (tgt := 75) C dX8_stepsBoth_46 (by decide) (fun c_2 => ?_) (fun c_2 => ?_)
    · refine v_aload_n C dX8_stepsBoth_75 rfl (lv_at hl 0 rfl) ?_
      refine v_getR C iX8_stepsBoth_X8 k_30 rfl rfl (j := 5) rfl (by decide) rfl (C.w 2 rfl) dX8_stepsBoth_76 ?_
      refine v_iload_n C dX8_stepsBoth_79 rfl (lv_at hl 1 rfl) ?_
      refine v_dup2 C dX8_stepsBoth_80 rfl rfl ?_
      refine v_iald C k_35 rfl h1 dX8_stepsBoth_81 ?_
      refine v_aload_n C dX8_stepsBoth_82 rfl (lv_at hl 0 rfl) ?_
      refine v_getR C iX8_stepsBoth_X8 k_30 rfl rfl (j := 7) rfl (by decide) rfl (C.w 1 rfl) dX8_stepsBoth_83 ?_
      refine v_iload_n C dX8_stepsBoth_86 rfl (lv_at hl 1 rfl) ?_
      refine v_iald C k_37 rfl h1 dX8_stepsBoth_87 ?_
      refine v_iconst (v := 1) C dX8_stepsBoth_88 (by decide) ?_
      refine v_icmp_ne (tgt := 96) C dX8_stepsBoth_89 (by decide) (fun _ => ?_) (fun h => absurd h (c_1))
      refine v_iconst (v := (-1)) C dX8_stepsBoth_96 (by decide) ?_
      refine v_iadd C dX8_stepsBoth_97 ?_
      refine v_iast C k_35 rfl h1 dX8_stepsBoth_98 ?_
      exact hret _ _ _ (Eq.symm ((if_neg c_1).trans ((if_neg c_2).trans rfl))) dX8_stepsBoth_99
    · refine v_aload_n C dX8_stepsBoth_49 rfl (lv_at hl 0 rfl) ?_
      refine v_getR C iX8_stepsBoth_X8 k_30 rfl rfl (j := 5) rfl (by decide) rfl (C.w 2 rfl) dX8_stepsBoth_50 ?_
      refine v_iload_n C dX8_stepsBoth_53 rfl (lv_at hl 1 rfl) ?_
      refine v_iald C k_35 rfl h1 dX8_stepsBoth_54 ?_
      refine v_if_ne (tgt := 75) C dX8_stepsBoth_55 (by decide) (fun c_4 => ?_) (fun c_4 => ?_)
      · refine v_aload_n C dX8_stepsBoth_75 rfl (lv_at hl 0 rfl) ?_
        refine v_getR C iX8_stepsBoth_X8 k_30 rfl rfl (j := 5) rfl (by decide) rfl (C.w 2 rfl) dX8_stepsBoth_76 ?_
        refine v_iload_n C dX8_stepsBoth_79 rfl (lv_at hl 1 rfl) ?_
        refine v_dup2 C dX8_stepsBoth_80 rfl rfl ?_
        refine v_iald C k_35 rfl h1 dX8_stepsBoth_81 ?_
        refine v_aload_n C dX8_stepsBoth_82 rfl (lv_at hl 0 rfl) ?_
        refine v_getR C iX8_stepsBoth_X8 k_30 rfl rfl (j := 7) rfl (by decide) rfl (C.w 1 rfl) dX8_stepsBoth_83 ?_
        refine v_iload_n C dX8_stepsBoth_86 rfl (lv_at hl 1 rfl) ?_
        refine v_iald C k_37 rfl h1 dX8_stepsBoth_87 ?_
        refine v_iconst (v := 1) C dX8_stepsBoth_88 (by decide) ?_
        refine v_icmp_ne (tgt := 96) C dX8_stepsBoth_89 (by decide) (fun _ => ?_) (fun h => absurd h (c_1))
        refine v_iconst (v := (-1)) C dX8_stepsBoth_96 (by decide) ?_
        refine v_iadd C dX8_stepsBoth_97 ?_
        refine v_iast C k_35 rfl h1 dX8_stepsBoth_98 ?_
        exact hret _ _ _ (Eq.symm ((if_neg c_1).trans ((if_pos c_2).trans ((if_neg c_4).trans rfl)))) dX8_stepsBoth_99
      · refine v_aload_n C dX8_stepsBoth_58 rfl (lv_at hl 0 rfl) ?_
        refine v_iload_n C dX8_stepsBoth_59 rfl (lv_at hl 1 rfl) ?_
        refine v_callv C (c_X8_goesOver l g _ _ h1) (cwV 1 C.2.2.2.2.1 gX8_stepsBoth_X8_goesOver rfl rfl rfl hv_X8_goesOver ⟨Nat.le_of_ble_eq_true rfl, Nat.le_of_ble_eq_true rfl⟩) k_30 rfl rfl rfl rfl hl.1 rfl (Nat.le_of_ble_eq_true rfl) dX8_stepsBoth_60 ⟨Nat.le_refl _, Nat.le_refl _⟩ ?_
        refine v_aload_n C dX8_stepsBoth_63 rfl (lv_at hl 0 rfl) ?_
        refine v_getR C iX8_stepsBoth_X8 k_30 rfl rfl (j := 7) rfl (by decide) rfl (C.w 1 rfl) dX8_stepsBoth_64 ?_
        refine v_iload_n C dX8_stepsBoth_67 rfl (lv_at hl 1 rfl) ?_
        refine v_iconst (v := 1) C dX8_stepsBoth_68 (by decide) ?_
        refine v_iast C k_37 rfl h1 dX8_stepsBoth_69 ?_
        refine v_aload_n C dX8_stepsBoth_70 rfl (lv_at hl 0 rfl) ?_
        refine v_iload_n C dX8_stepsBoth_71 rfl (lv_at hl 1 rfl) ?_
        refine v_callv C (c_X8_takesTop l g _ _ h1) (cwV 1 C.2.2.2.2.1 gX8_stepsBoth_X8_takesTop rfl rfl rfl hv_X8_takesTop ⟨Nat.le_of_ble_eq_true rfl, Nat.le_of_ble_eq_true rfl⟩) k_30 rfl rfl rfl rfl hl.1 rfl (Nat.le_of_ble_eq_true rfl) dX8_stepsBoth_72 ⟨Nat.le_refl _, Nat.le_refl _⟩ ?_
        refine v_aload_n C dX8_stepsBoth_75 rfl (lv_at hl 0 rfl) ?_
        refine v_getR C iX8_stepsBoth_X8 k_30 rfl rfl (j := 5) rfl (by decide) rfl (C.w 2 rfl) dX8_stepsBoth_76 ?_
        refine v_iload_n C dX8_stepsBoth_79 rfl (lv_at hl 1 rfl) ?_
        refine v_dup2 C dX8_stepsBoth_80 rfl rfl ?_
        refine v_iald C k_35 rfl h1 dX8_stepsBoth_81 ?_
        refine v_aload_n C dX8_stepsBoth_82 rfl (lv_at hl 0 rfl) ?_
        refine v_getR C iX8_stepsBoth_X8 k_30 rfl rfl (j := 7) rfl (by decide) rfl (C.w 1 rfl) dX8_stepsBoth_83 ?_
        refine v_iload_n C dX8_stepsBoth_86 rfl (lv_at hl 1 rfl) ?_
        refine v_iald C k_37 rfl h1 dX8_stepsBoth_87 ?_
        refine v_iconst (v := 1) C dX8_stepsBoth_88 (by decide) ?_
        refine v_icmp_ne (tgt := 96) C dX8_stepsBoth_89 (by decide) (fun c_6 => ?_) (fun c_6 => ?_)
        · refine v_iconst (v := (-1)) C dX8_stepsBoth_96 (by decide) ?_
          refine v_iadd C dX8_stepsBoth_97 ?_
          refine v_iast C k_35 rfl h1 dX8_stepsBoth_98 ?_
          exact hret _ _ _ (Eq.symm ((if_neg c_1).trans ((if_pos c_2).trans ((if_pos c_4).trans ((if_neg c_6).trans rfl))))) dX8_stepsBoth_99
        · refine v_iconst (v := 1) C dX8_stepsBoth_92 (by decide) ?_
          refine v_goto (tgt := 97) C dX8_stepsBoth_93 (by decide) ?_
          refine v_iadd C dX8_stepsBoth_97 ?_
          refine v_iast C k_35 rfl h1 dX8_stepsBoth_98 ?_
          exact hret _ _ _ (Eq.symm ((if_neg c_1).trans ((if_pos c_2).trans ((if_pos c_4).trans ((if_pos c_6).trans rfl))))) dX8_stepsBoth_99
  · refine v_aload_n C dX8_stepsBoth_10 rfl (lv_at hl 0 rfl) ?_
    refine v_getR C iX8_stepsBoth_X8 k_30 rfl rfl (j := 5) rfl (by decide) rfl (C.w 2 rfl) dX8_stepsBoth_11 ?_
    refine v_iload_n C dX8_stepsBoth_14 rfl (lv_at hl 1 rfl) ?_
    refine v_iald C k_35 rfl h1 dX8_stepsBoth_15 ?_
    refine v_aload_n C dX8_stepsBoth_16 rfl (lv_at hl 0 rfl) ?_
    refine v_getR C iX8_stepsBoth_X8 k_30 rfl rfl (j := 2) rfl (by decide) rfl (C.w 3 rfl) dX8_stepsBoth_17 ?_
    refine v_iload_n C dX8_stepsBoth_20 rfl (lv_at hl 1 rfl) ?_
    refine v_iald C k_32 rfl h1 dX8_stepsBoth_21 ?_
    refine v_icmp_ne (tgt := 40) C dX8_stepsBoth_22 (by decide) (fun c_7 => ?_) (fun c_7 => ?_)
    · refine v_aload_n C dX8_stepsBoth_40 rfl (lv_at hl 0 rfl) ?_
      refine v_getR C iX8_stepsBoth_X8 k_30 rfl rfl (j := 7) rfl (by decide) rfl (C.w 1 rfl) dX8_stepsBoth_41 ?_
      refine v_iload_n C dX8_stepsBoth_44 rfl (lv_at hl 1 rfl) ?_
      refine v_iald C k_37 rfl h1 dX8_stepsBoth_45 ?_
      refine v_if_ne (tgt := 75) C dX8_stepsBoth_46 (by decide) (fun c_8 => ?_) (fun c_8 => ?_)
      · refine v_aload_n C dX8_stepsBoth_75 rfl (lv_at hl 0 rfl) ?_
        refine v_getR C iX8_stepsBoth_X8 k_30 rfl rfl (j := 5) rfl (by decide) rfl (C.w 2 rfl) dX8_stepsBoth_76 ?_
        refine v_iload_n C dX8_stepsBoth_79 rfl (lv_at hl 1 rfl) ?_
        refine v_dup2 C dX8_stepsBoth_80 rfl rfl ?_
        refine v_iald C k_35 rfl h1 dX8_stepsBoth_81 ?_
        refine v_aload_n C dX8_stepsBoth_82 rfl (lv_at hl 0 rfl) ?_
        refine v_getR C iX8_stepsBoth_X8 k_30 rfl rfl (j := 7) rfl (by decide) rfl (C.w 1 rfl) dX8_stepsBoth_83 ?_
        refine v_iload_n C dX8_stepsBoth_86 rfl (lv_at hl 1 rfl) ?_
        refine v_iald C k_37 rfl h1 dX8_stepsBoth_87 ?_
        refine v_iconst (v := 1) C dX8_stepsBoth_88 (by decide) ?_
        refine v_icmp_ne (tgt := 96) C dX8_stepsBoth_89 (by decide) (fun h => absurd (c_1) h) (fun _ => ?_)
        refine v_iconst (v := 1) C dX8_stepsBoth_92 (by decide) ?_
        refine v_goto (tgt := 97) C dX8_stepsBoth_93 (by decide) ?_
        refine v_iadd C dX8_stepsBoth_97 ?_
        refine v_iast C k_35 rfl h1 dX8_stepsBoth_98 ?_
        exact hret _ _ _ (Eq.symm ((if_pos c_1).trans ((if_neg c_7).trans ((if_neg c_8).trans rfl)))) dX8_stepsBoth_99
      · refine v_aload_n C dX8_stepsBoth_49 rfl (lv_at hl 0 rfl) ?_
        refine v_getR C iX8_stepsBoth_X8 k_30 rfl rfl (j := 5) rfl (by decide) rfl (C.w 2 rfl) dX8_stepsBoth_50 ?_
        refine v_iload_n C dX8_stepsBoth_53 rfl (lv_at hl 1 rfl) ?_
        refine v_iald C k_35 rfl h1 dX8_stepsBoth_54 ?_
        refine v_if_ne (tgt := 75) C dX8_stepsBoth_55 (by decide) (fun c_10 => ?_) (fun c_10 => ?_)
        · refine v_aload_n C dX8_stepsBoth_75 rfl (lv_at hl 0 rfl) ?_
          refine v_getR C iX8_stepsBoth_X8 k_30 rfl rfl (j := 5) rfl (by decide) rfl (C.w 2 rfl) dX8_stepsBoth_76 ?_
          refine v_iload_n C dX8_stepsBoth_79 rfl (lv_at hl 1 rfl) ?_
          refine v_dup2 C dX8_stepsBoth_80 rfl rfl ?_
          refine v_iald C k_35 rfl h1 dX8_stepsBoth_81 ?_
          refine v_aload_n C dX8_stepsBoth_82 rfl (lv_at hl 0 rfl) ?_
          refine v_getR C iX8_stepsBoth_X8 k_30 rfl rfl (j := 7) rfl (by decide) rfl (C.w 1 rfl) dX8_stepsBoth_83 ?_
          refine v_iload_n C dX8_stepsBoth_86 rfl (lv_at hl 1 rfl) ?_
          refine v_iald C k_37 rfl h1 dX8_stepsBoth_87 ?_
          refine v_iconst (v := 1) C dX8_stepsBoth_88 (by decide) ?_
          refine v_icmp_ne (tgt := 96) C dX8_stepsBoth_89 (by decide) (fun h => absurd (c_1) h) (fun _ => ?_)
          refine v_iconst (v := 1) C dX8_stepsBoth_92 (by decide) ?_
          refine v_goto (tgt := 97) C dX8_stepsBoth_93 (by decide) ?_
          refine v_iadd C dX8_stepsBoth_97 ?_
          refine v_iast C k_35 rfl h1 dX8_stepsBoth_98 ?_
          exact hret _ _ _ (Eq.symm ((if_pos c_1).trans ((if_neg c_7).trans ((if_pos c_8).trans ((if_neg c_10).trans rfl))))) dX8_stepsBoth_99
        · refine v_aload_n C dX8_stepsBoth_58 rfl (lv_at hl 0 rfl) ?_
          refine v_iload_n C dX8_stepsBoth_59 rfl (lv_at hl 1 rfl) ?_
          refine v_callv C (c_X8_goesOver l g _ _ h1) (cwV 1 C.2.2.2.2.1 gX8_stepsBoth_X8_goesOver rfl rfl rfl hv_X8_goesOver ⟨Nat.le_of_ble_eq_true rfl, Nat.le_of_ble_eq_true rfl⟩) k_30 rfl rfl rfl rfl hl.1 rfl (Nat.le_of_ble_eq_true rfl) dX8_stepsBoth_60 ⟨Nat.le_refl _, Nat.le_refl _⟩ ?_
          refine v_aload_n C dX8_stepsBoth_63 rfl (lv_at hl 0 rfl) ?_
          refine v_getR C iX8_stepsBoth_X8 k_30 rfl rfl (j := 7) rfl (by decide) rfl (C.w 1 rfl) dX8_stepsBoth_64 ?_
          refine v_iload_n C dX8_stepsBoth_67 rfl (lv_at hl 1 rfl) ?_
          refine v_iconst (v := 1) C dX8_stepsBoth_68 (by decide) ?_
          refine v_iast C k_37 rfl h1 dX8_stepsBoth_69 ?_
          refine v_aload_n C dX8_stepsBoth_70 rfl (lv_at hl 0 rfl) ?_
          refine v_iload_n C dX8_stepsBoth_71 rfl (lv_at hl 1 rfl) ?_
          refine v_callv C (c_X8_takesTop l g _ _ h1) (cwV 1 C.2.2.2.2.1 gX8_stepsBoth_X8_takesTop rfl rfl rfl hv_X8_takesTop ⟨Nat.le_of_ble_eq_true rfl, Nat.le_of_ble_eq_true rfl⟩) k_30 rfl rfl rfl rfl hl.1 rfl (Nat.le_of_ble_eq_true rfl) dX8_stepsBoth_72 ⟨Nat.le_refl _, Nat.le_refl _⟩ ?_
          refine v_aload_n C dX8_stepsBoth_75 rfl (lv_at hl 0 rfl) ?_
          refine v_getR C iX8_stepsBoth_X8 k_30 rfl rfl (j := 5) rfl (by decide) rfl (C.w 2 rfl) dX8_stepsBoth_76 ?_
          refine v_iload_n C dX8_stepsBoth_79 rfl (lv_at hl 1 rfl) ?_
          refine v_dup2 C dX8_stepsBoth_80 rfl rfl ?_
          refine v_iald C k_35 rfl h1 dX8_stepsBoth_81 ?_
          refine v_aload_n C dX8_stepsBoth_82 rfl (lv_at hl 0 rfl) ?_
          refine v_getR C iX8_stepsBoth_X8 k_30 rfl rfl (j := 7) rfl (by decide) rfl (C.w 1 rfl) dX8_stepsBoth_83 ?_
          refine v_iload_n C dX8_stepsBoth_86 rfl (lv_at hl 1 rfl) ?_
          refine v_iald C k_37 rfl h1 dX8_stepsBoth_87 ?_
          refine v_iconst (v := 1) C dX8_stepsBoth_88 (by decide) ?_
          refine v_icmp_ne (tgt := 96) C dX8_stepsBoth_89 (by decide) (fun c_12 => ?_) (fun c_12 => ?_)
          · refine v_iconst (v := (-1)) C dX8_stepsBoth_96 (by decide) ?_
            refine v_iadd C dX8_stepsBoth_97 ?_
            refine v_iast C k_35 rfl h1 dX8_stepsBoth_98 ?_
            exact hret _ _ _ (Eq.symm ((if_pos c_1).trans ((if_neg c_7).trans ((if_pos c_8).trans ((if_pos c_10).trans ((if_neg c_12).trans rfl)))))) dX8_stepsBoth_99
          · refine v_iconst (v := 1) C dX8_stepsBoth_92 (by decide) ?_
            refine v_goto (tgt := 97) C dX8_stepsBoth_93 (by decide) ?_
            refine v_iadd C dX8_stepsBoth_97 ?_
            refine v_iast C k_35 rfl h1 dX8_stepsBoth_98 ?_
            exact hret _ _ _ (Eq.symm ((if_pos c_1).trans ((if_neg c_7).trans ((if_pos c_8).trans ((if_pos c_10).trans ((if_pos c_12).trans rfl)))))) dX8_stepsBoth_99
    · refine v_aload_n C dX8_stepsBoth_25 rfl (lv_at hl 0 rfl) ?_
      refine v_iload_n C dX8_stepsBoth_26 rfl (lv_at hl 1 rfl) ?_
      refine v_callv C (c_X8_goesOver l g _ _ h1) (cwV 1 C.2.2.2.2.1 gX8_stepsBoth_X8_goesOver rfl rfl rfl hv_X8_goesOver ⟨Nat.le_of_ble_eq_true rfl, Nat.le_of_ble_eq_true rfl⟩) k_30 rfl rfl rfl rfl hl.1 rfl (Nat.le_of_ble_eq_true rfl) dX8_stepsBoth_27 ⟨Nat.le_refl _, Nat.le_refl _⟩ ?_
      refine v_aload_n C dX8_stepsBoth_30 rfl (lv_at hl 0 rfl) ?_
      refine v_getR C iX8_stepsBoth_X8 k_30 rfl rfl (j := 7) rfl (by decide) rfl (C.w 1 rfl) dX8_stepsBoth_31 ?_
      refine v_iload_n C dX8_stepsBoth_34 rfl (lv_at hl 1 rfl) ?_
      refine v_iconst (v := 0) C dX8_stepsBoth_35 (by decide) ?_
      refine v_iast C k_37 rfl h1 dX8_stepsBoth_36 ?_
      refine v_goto (tgt := 75) C dX8_stepsBoth_37 (by decide) ?_
      refine v_aload_n C dX8_stepsBoth_75 rfl (lv_at hl 0 rfl) ?_
      refine v_getR C iX8_stepsBoth_X8 k_30 rfl rfl (j := 5) rfl (by decide) rfl (C.w 2 rfl) dX8_stepsBoth_76 ?_
      refine v_iload_n C dX8_stepsBoth_79 rfl (lv_at hl 1 rfl) ?_
      refine v_dup2 C dX8_stepsBoth_80 rfl rfl ?_
      refine v_iald C k_35 rfl h1 dX8_stepsBoth_81 ?_
      refine v_aload_n C dX8_stepsBoth_82 rfl (lv_at hl 0 rfl) ?_
      refine v_getR C iX8_stepsBoth_X8 k_30 rfl rfl (j := 7) rfl (by decide) rfl (C.w 1 rfl) dX8_stepsBoth_83 ?_
      refine v_iload_n C dX8_stepsBoth_86 rfl (lv_at hl 1 rfl) ?_
      refine v_iald C k_37 rfl h1 dX8_stepsBoth_87 ?_
      refine v_iconst (v := 1) C dX8_stepsBoth_88 (by decide) ?_
      refine v_icmp_ne (tgt := 96) C dX8_stepsBoth_89 (by decide) (fun c_13 => ?_) (fun c_13 => ?_)
      · refine v_iconst (v := (-1)) C dX8_stepsBoth_96 (by decide) ?_
        refine v_iadd C dX8_stepsBoth_97 ?_
        refine v_iast C k_35 rfl h1 dX8_stepsBoth_98 ?_
        exact hret _ _ _ (Eq.symm ((if_pos c_1).trans ((if_pos c_7).trans ((if_neg c_13).trans rfl)))) dX8_stepsBoth_99
      · refine v_iconst (v := 1) C dX8_stepsBoth_92 (by decide) ?_
        refine v_goto (tgt := 97) C dX8_stepsBoth_93 (by decide) ?_
        refine v_iadd C dX8_stepsBoth_97 ?_
        refine v_iast C k_35 rfl h1 dX8_stepsBoth_98 ?_
        exact hret _ _ _ (Eq.symm ((if_pos c_1).trans ((if_pos c_7).trans ((if_pos c_13).trans rfl)))) dX8_stepsBoth_99
theorem X8_stepsBoth_s_fr (a1 : Int32) (t : ct_St) {r : Nat} (h32 : r ≠ 32) (h35 : r ≠ 35) (h37 : r ≠ 37) (h38 : r ≠ 38) (h39 : r ≠ 39) (h41 : r ≠ 41) : X8_stepsBoth_s a1 t r = t r := by
  dsimp only [X8_stepsBoth_s]
  (repeat' split) <;> simp only [us_ne, ur_ne, h32, h35, h37, h38, h39, h41, ne_eq, not_false_eq_true, X8_goesOver_s_fr, X8_takesTop_s_fr]
theorem iX8_steps_X8 : ∀ w ∈ wsX80, w ∈ wsX8_steps := fun _ h => (List.mem_cons_of_mem _ (List.mem_append_right _ h))
theorem hv_X8_steps : yX8_steps.cls = RX8 ∧ yX8_steps.cls ≠ "java/lang/invoke/MethodHandle" ∧ yX8_steps.cls ≠ "java/lang/invoke/VarHandle" ∧ (parseMethodDescriptor yX8_steps.desc).map (fun d => d.parameters.length) = some 1 := by decide +kernel
def X8_steps_s (a1 : Int32) (t : ct_St) : ct_St :=
  let t1 := us t 40 (ix a1) 1
  if t1 31 (ix a1) = 0 then
    let t4 := X8_stepsUp_s a1 t1
    t4
  else
    if t1 31 (ix a1) = 1 then
      let t3 := X8_stepsDown_s a1 t1
      t3
    else
      let t2 := X8_stepsBoth_s a1 t1
      t2
set_option maxHeartbeats 4000000 in
set_option maxRecDepth 100000 in
theorem c_X8_steps (l : Launch) (g : ct_G) (t : ct_St) (a1 : Int32) (h1 : vp_in a1 4) : MV l g shG yX8_steps wsX8_steps (rmd 2) [.ref (g.2.1 30), .int a1] t (X8_steps_s a1 t) := by
  refine MV.of (own := RX8) (cc := cX8_steps) (maxL := 2) rfl (by decide) rfl (Nat.le_of_ble_eq_true rfl) (fun p e s m args below meth cd A Q C hret ls hl => ?_)
  have hl : lv_has ls 2 [(0, .ref (g.2.1 30)), (1, .int a1)] := hl
  refine v_aload_n C dX8_steps_0 rfl (lv_at hl 0 rfl) ?_
  refine v_getR C iX8_steps_X8 k_30 rfl rfl (j := 10) rfl (by decide) rfl (C.w 1 rfl) dX8_steps_1 ?_
  refine v_iload_n C dX8_steps_4 rfl (lv_at hl 1 rfl) ?_
  refine v_iconst (v := 1) C dX8_steps_5 (by decide) ?_
  refine v_zast (z := 1) C k_40 rfl h1 (by decide) dX8_steps_6 ?_
  refine v_aload_n C dX8_steps_7 rfl (lv_at hl 0 rfl) ?_
  refine v_getR C iX8_steps_X8 k_30 rfl rfl (j := 1) rfl (by decide) rfl (C.w 2 rfl) dX8_steps_8 ?_
  refine v_iload_n C dX8_steps_11 rfl (lv_at hl 1 rfl) ?_
  refine v_iald C k_31 rfl h1 dX8_steps_12 ?_
  refine v_if_ne (tgt := 24) C dX8_steps_13 (by decide) (fun c_1 => ?_) (fun c_1 => ?_)
  · refine v_aload_n C dX8_steps_24 rfl (lv_at hl 0 rfl) ?_
    refine v_getR C iX8_steps_X8 k_30 rfl rfl (j := 1) rfl (by decide) rfl (C.w 2 rfl) dX8_steps_25 ?_
    refine v_iload_n C dX8_steps_28 rfl (lv_at hl 1 rfl) ?_
    refine v_iald C k_31 rfl h1 dX8_steps_29 ?_
    refine v_iconst (v := 1) C dX8_steps_30 (by decide) ?_
    refine v_icmp_ne (tgt := 42) C dX8_steps_31 (by decide) (fun c_2 => ?_) (fun c_2 => ?_)
    · refine v_aload_n C dX8_steps_42 rfl (lv_at hl 0 rfl) ?_
      refine v_iload_n C dX8_steps_43 rfl (lv_at hl 1 rfl) ?_
      refine v_callv C (c_X8_stepsBoth l g _ _ h1) (cwV 1 C.2.2.2.2.1 gX8_steps_X8_stepsBoth rfl rfl rfl hv_X8_stepsBoth ⟨Nat.le_of_ble_eq_true rfl, Nat.le_of_ble_eq_true rfl⟩) k_30 rfl rfl rfl rfl hl.1 rfl (Nat.le_of_ble_eq_true rfl) dX8_steps_44 ⟨Nat.le_refl _, Nat.le_refl _⟩ ?_
      exact hret _ _ _ (Eq.symm ((if_neg c_1).trans ((if_neg c_2).trans rfl))) dX8_steps_47
    · refine v_aload_n C dX8_steps_34 rfl (lv_at hl 0 rfl) ?_
      refine v_iload_n C dX8_steps_35 rfl (lv_at hl 1 rfl) ?_
      refine v_callv C (c_X8_stepsDown l g _ _ h1) (cwV 1 C.2.2.2.2.1 gX8_steps_X8_stepsDown rfl rfl rfl hv_X8_stepsDown ⟨Nat.le_of_ble_eq_true rfl, Nat.le_of_ble_eq_true rfl⟩) k_30 rfl rfl rfl rfl hl.1 rfl (Nat.le_of_ble_eq_true rfl) dX8_steps_36 ⟨Nat.le_refl _, Nat.le_refl _⟩ ?_
      refine v_goto (tgt := 47) C dX8_steps_39 (by decide) ?_
      exact hret _ _ _ (Eq.symm ((if_neg c_1).trans ((if_pos c_2).trans rfl))) dX8_steps_47
  · refine v_aload_n C dX8_steps_16 rfl (lv_at hl 0 rfl) ?_
    refine v_iload_n C dX8_steps_17 rfl (lv_at hl 1 rfl) ?_
    refine v_callv C (c_X8_stepsUp l g _ _ h1) (cwV 1 C.2.2.2.2.1 gX8_steps_X8_stepsUp rfl rfl rfl hv_X8_stepsUp ⟨Nat.le_of_ble_eq_true rfl, Nat.le_of_ble_eq_true rfl⟩) k_30 rfl rfl rfl rfl hl.1 rfl (Nat.le_of_ble_eq_true rfl) dX8_steps_18 ⟨Nat.le_refl _, Nat.le_refl _⟩ ?_
    refine v_goto (tgt := 47) C dX8_steps_21 (by decide) ?_
    exact hret _ _ _ (Eq.symm ((if_pos c_1).trans rfl)) dX8_steps_47
theorem go41 (a1 : Int32) (t : ct_St) (h : bl (t 41)) : bl (X8_goesOver_s a1 t 41) := bl_up h (Or.inr rfl)
theorem tk41 (a1 : Int32) (t : ct_St) (h : bl (t 41)) : bl (X8_takesTop_s a1 t 41) := by
  rw [X8_takesTop_s_fr a1 t (by decide) (by decide)]; exact h
theorem su41 (a1 : Int32) (t : ct_St) (h : bl (t 41)) : bl (X8_stepsUp_s a1 t 41) := by
  dsimp only [X8_stepsUp_s]
  (repeat' split) <;> simp (decide := true) only [us_ne, X8_takesTop_s_fr, ne_eq] <;> first | exact h | exact go41 a1 t h
theorem sd41 (a1 : Int32) (t : ct_St) (h : bl (t 41)) : bl (X8_stepsDown_s a1 t 41) := by
  dsimp only [X8_stepsDown_s]
  (repeat' split) <;> simp (decide := true) only [us_ne, X8_takesTop_s_fr, ne_eq] <;> first | exact h | exact go41 a1 t h
theorem sb41 (a1 : Int32) (t : ct_St) (h : bl (t 41)) : bl (X8_stepsBoth_s a1 t 41) := by
  dsimp only [X8_stepsBoth_s]
  (repeat' split) <;> simp (decide := true) only [us_ne, X8_takesTop_s_fr, ne_eq] <;> first | exact h | exact go41 a1 t h
theorem ss41 (a1 : Int32) (t : ct_St) (h : bl (t 41)) : bl (X8_steps_s a1 t 41) := by
  dsimp only [X8_steps_s]
  (repeat' split)
  · exact su41 a1 _ h
  · exact sd41 a1 _ h
  · exact sb41 a1 _ h
theorem X8_steps_s_fr (a1 : Int32) (t : ct_St) {r : Nat} (h32 : r ≠ 32) (h35 : r ≠ 35) (h37 : r ≠ 37) (h38 : r ≠ 38) (h39 : r ≠ 39) (h40 : r ≠ 40) (h41 : r ≠ 41) : X8_steps_s a1 t r = t r := by
  dsimp only [X8_steps_s]
  (repeat' split) <;> simp only [us_ne, ur_ne, h32, h35, h37, h38, h39, h40, h41, ne_eq, not_false_eq_true, X8_stepsBoth_s_fr, X8_stepsDown_s_fr, X8_stepsUp_s_fr]
