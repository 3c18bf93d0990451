theorem iX8_counter_X8 : ∀ w ∈ wsX80, w ∈ wsX8_counter := fun _ h => (List.mem_cons_of_mem _ (List.mem_append_right _ h))
theorem hv_X8_counter : yX8_counter.cls = RX8 ∧ yX8_counter.cls ≠ "java/lang/invoke/MethodHandle" ∧ yX8_counter.cls ≠ "java/lang/invoke/VarHandle" ∧ (parseMethodDescriptor yX8_counter.desc).map (fun d => d.parameters.length) = some 4 := by decide +kernel
def X8_counter_r (a1 : Int32) (a2 : Int32) (a3 : Int32) (a4 : Int32) : Int32 :=
  if X8_isOne_r a1 = 0 then
    (-1)
  else
    if X8_within_r a2 0 2 = 0 then
      (-2)
    else
      if X8_within_r a3 1 9999 = 0 then
        (-2)
      else
        if X8_within_r a4 1 64 = 0 then
          (-2)
        else
          1
def X8_counter_s (a1 : Int32) (a2 : Int32) (a3 : Int32) (a4 : Int32) (t : ct_St) : ct_St :=
  if X8_isOne_r a1 = 0 then
    t
  else
    if X8_within_r a2 0 2 = 0 then
      t
    else
      if X8_within_r a3 1 9999 = 0 then
        t
      else
        if X8_within_r a4 1 64 = 0 then
          t
        else
          let t1 := us t 31 (ix a1) a2
          let t2 := us t1 32 (ix a1) a3
          let t3 := us t2 33 (ix a1) a4
          let t4 := us t3 35 (ix a1) 0
          let t5 := us t4 36 (ix a1) 0
          let t6 := us t5 38 (ix a1) 0
          let t7 := us t6 37 (ix a1) 1
          let t8 := us t7 39 (ix a1) (-9)
          t8
set_option maxHeartbeats 4000000 in
set_option maxRecDepth 100000 in
theorem c_X8_counter (l : Launch) (g : ct_G) (t : ct_St) (a1 : Int32) (a2 : Int32) (a3 : Int32) (a4 : Int32) : MI l g shG yX8_counter wsX8_counter (rmd 2) [.ref (g.2.1 30), .int a1, .int a2, .int a3, .int a4] t (X8_counter_r a1 a2 a3 a4) (X8_counter_s a1 a2 a3 a4 t) := by
  refine MI.of (own := RX8) (cc := cX8_counter) (maxL := 5) rfl (by decide) rfl (Nat.le_of_ble_eq_true rfl) (fun p e s m args below meth cd A Q C hret ls hl => ?_)
  have hl : lv_has ls 5 [(0, .ref (g.2.1 30)), (1, .int a1), (2, .int a2), (3, .int a3), (4, .int a4)] := hl
  refine v_iload_n C dX8_counter_0 rfl (lv_at hl 1 rfl) ?_
  refine v_scalli C (c_X8_isOne l g _ _) (va_cwS 1 C.2.2.2.2.1 gX8_counter_X8_isOne rfl rfl rfl hs_X8_isOne ⟨Nat.le_of_ble_eq_true rfl, Nat.le_of_ble_eq_true rfl⟩) rfl hl.1 rfl (Nat.le_of_ble_eq_true rfl) dX8_counter_1 ⟨Nat.le_refl _, Nat.le_refl _⟩ ?_
  refine v_if_ne (tgt := 9) C dX8_counter_4 (by decide) (fun c_1 => ?_) (fun c_1 => ?_)
  · refine v_iload_n C dX8_counter_9 rfl (lv_at hl 2 rfl) ?_
    refine v_iconst (v := 0) C dX8_counter_10 (by decide) ?_
    refine v_iconst (v := 2) C dX8_counter_11 (by decide) ?_
    refine v_scalli C (c_X8_within l g _ _ _ _) (va_cwS 3 C.2.2.2.2.1 gX8_counter_X8_within rfl rfl rfl hs_X8_within ⟨Nat.le_of_ble_eq_true rfl, Nat.le_of_ble_eq_true rfl⟩) rfl hl.1 rfl (Nat.le_of_ble_eq_true rfl) dX8_counter_12 ⟨Nat.le_refl _, Nat.le_refl _⟩ ?_
    refine v_if_eq (tgt := 40) C dX8_counter_15 (by decide) (fun c_2 => ?_) (fun c_2 => ?_)
    · refine v_bipush (v := (-2)) C dX8_counter_40 (by decide) ?_
      exact hret _ _ _ _ (Eq.symm ((if_neg c_1).trans ((if_pos c_2).trans rfl))) (Eq.symm ((if_neg c_1).trans ((if_pos c_2).trans rfl))) dX8_counter_42
    · refine v_iload_n C dX8_counter_18 rfl (lv_at hl 3 rfl) ?_
      refine v_iconst (v := 1) C dX8_counter_19 (by decide) ?_
      refine v_sipush (v := 9999) C dX8_counter_20 (by decide) ?_
      refine v_scalli C (c_X8_within l g _ _ _ _) (va_cwS 3 C.2.2.2.2.1 gX8_counter_X8_within rfl rfl rfl hs_X8_within ⟨Nat.le_of_ble_eq_true rfl, Nat.le_of_ble_eq_true rfl⟩) rfl hl.1 rfl (Nat.le_of_ble_eq_true rfl) dX8_counter_23 ⟨Nat.le_refl _, Nat.le_refl _⟩ ?_
      refine v_if_eq (tgt := 40) C dX8_counter_26 (by decide) (fun c_3 => ?_) (fun c_3 => ?_)
      · refine v_bipush (v := (-2)) C dX8_counter_40 (by decide) ?_
        exact hret _ _ _ _ (Eq.symm ((if_neg c_1).trans ((if_neg c_2).trans ((if_pos c_3).trans rfl)))) (Eq.symm ((if_neg c_1).trans ((if_neg c_2).trans ((if_pos c_3).trans rfl)))) dX8_counter_42
      · refine v_iload C dX8_counter_29 (lv_at hl 4 rfl) ?_
        refine v_iconst (v := 1) C dX8_counter_31 (by decide) ?_
        refine v_bipush (v := 64) C dX8_counter_32 (by decide) ?_
        refine v_scalli C (c_X8_within l g _ _ _ _) (va_cwS 3 C.2.2.2.2.1 gX8_counter_X8_within rfl rfl rfl hs_X8_within ⟨Nat.le_of_ble_eq_true rfl, Nat.le_of_ble_eq_true rfl⟩) rfl hl.1 rfl (Nat.le_of_ble_eq_true rfl) dX8_counter_34 ⟨Nat.le_refl _, Nat.le_refl _⟩ ?_
        refine v_if_ne (tgt := 43) C dX8_counter_37 (by decide) (fun c_4 => ?_) (fun c_4 => ?_)
        · refine v_aload_n C dX8_counter_43 rfl (lv_at hl 0 rfl) ?_
          refine v_getR C iX8_counter_X8 k_30 rfl rfl (j := 1) rfl (by decide) rfl (C.w 1 rfl) dX8_counter_44 ?_
          refine v_iload_n C dX8_counter_47 rfl (lv_at hl 1 rfl) ?_
          refine v_iload_n C dX8_counter_48 rfl (lv_at hl 2 rfl) ?_
          refine v_iast C k_31 rfl (X8_isOne_in c_1) dX8_counter_49 ?_
          refine v_aload_n C dX8_counter_50 rfl (lv_at hl 0 rfl) ?_
          refine v_getR C iX8_counter_X8 k_30 rfl rfl (j := 2) rfl (by decide) rfl (C.w 2 rfl) dX8_counter_51 ?_
          refine v_iload_n C dX8_counter_54 rfl (lv_at hl 1 rfl) ?_
          refine v_iload_n C dX8_counter_55 rfl (lv_at hl 3 rfl) ?_
          refine v_iast C k_32 rfl (X8_isOne_in c_1) dX8_counter_56 ?_
          refine v_aload_n C dX8_counter_57 rfl (lv_at hl 0 rfl) ?_
          refine v_getR C iX8_counter_X8 k_30 rfl rfl (j := 3) rfl (by decide) rfl (C.w 3 rfl) dX8_counter_58 ?_
          refine v_iload_n C dX8_counter_61 rfl (lv_at hl 1 rfl) ?_
          refine v_iload C dX8_counter_62 (lv_at hl 4 rfl) ?_
          refine v_iast C k_33 rfl (X8_isOne_in c_1) dX8_counter_64 ?_
          refine v_aload_n C dX8_counter_65 rfl (lv_at hl 0 rfl) ?_
          refine v_getR C iX8_counter_X8 k_30 rfl rfl (j := 5) rfl (by decide) rfl (C.w 4 rfl) dX8_counter_66 ?_
          refine v_iload_n C dX8_counter_69 rfl (lv_at hl 1 rfl) ?_
          refine v_iconst (v := 0) C dX8_counter_70 (by decide) ?_
          refine v_iast C k_35 rfl (X8_isOne_in c_1) dX8_counter_71 ?_
          refine v_aload_n C dX8_counter_72 rfl (lv_at hl 0 rfl) ?_
          refine v_getR C iX8_counter_X8 k_30 rfl rfl (j := 6) rfl (by decide) rfl (C.w 5 rfl) dX8_counter_73 ?_
          refine v_iload_n C dX8_counter_76 rfl (lv_at hl 1 rfl) ?_
          refine v_iconst (v := 0) C dX8_counter_77 (by decide) ?_
          refine v_iast C k_36 rfl (X8_isOne_in c_1) dX8_counter_78 ?_
          refine v_aload_n C dX8_counter_79 rfl (lv_at hl 0 rfl) ?_
          refine v_getR C iX8_counter_X8 k_30 rfl rfl (j := 8) rfl (by decide) rfl (C.w 6 rfl) dX8_counter_80 ?_
          refine v_iload_n C dX8_counter_83 rfl (lv_at hl 1 rfl) ?_
          refine v_iconst (v := 0) C dX8_counter_84 (by decide) ?_
          refine v_iast C k_38 rfl (X8_isOne_in c_1) dX8_counter_85 ?_
          refine v_aload_n C dX8_counter_86 rfl (lv_at hl 0 rfl) ?_
          refine v_getR C iX8_counter_X8 k_30 rfl rfl (j := 7) rfl (by decide) rfl (C.w 7 rfl) dX8_counter_87 ?_
          refine v_iload_n C dX8_counter_90 rfl (lv_at hl 1 rfl) ?_
          refine v_iconst (v := 1) C dX8_counter_91 (by decide) ?_
          refine v_iast C k_37 rfl (X8_isOne_in c_1) dX8_counter_92 ?_
          refine v_aload_n C dX8_counter_93 rfl (lv_at hl 0 rfl) ?_
          refine v_getR C iX8_counter_X8 k_30 rfl rfl (j := 9) rfl (by decide) rfl (C.w 8 rfl) dX8_counter_94 ?_
          refine v_iload_n C dX8_counter_97 rfl (lv_at hl 1 rfl) ?_
          refine v_bipush (v := (-9)) C dX8_counter_98 (by decide) ?_
          refine v_iast C k_39 rfl (X8_isOne_in c_1) dX8_counter_100 ?_
          refine v_iconst (v := 1) C dX8_counter_101 (by decide) ?_
          exact hret _ _ _ _ (Eq.symm ((if_neg c_1).trans ((if_neg c_2).trans ((if_neg c_3).trans ((if_neg c_4).trans rfl))))) (Eq.symm ((if_neg c_1).trans ((if_neg c_2).trans ((if_neg c_3).trans ((if_neg c_4).trans rfl))))) dX8_counter_102
        · refine v_bipush (v := (-2)) C dX8_counter_40 (by decide) ?_
          exact hret _ _ _ _ (Eq.symm ((if_neg c_1).trans ((if_neg c_2).trans ((if_neg c_3).trans ((if_pos c_4).trans rfl))))) (Eq.symm ((if_neg c_1).trans ((if_neg c_2).trans ((if_neg c_3).trans ((if_pos c_4).trans rfl))))) dX8_counter_42
  · refine v_iconst (v := (-1)) C dX8_counter_7 (by decide) ?_
    exact hret _ _ _ _ (Eq.symm ((if_pos c_1).trans rfl)) (Eq.symm ((if_pos c_1).trans rfl)) dX8_counter_8
theorem X8_counter_s_fr (a1 : Int32) (a2 : Int32) (a3 : Int32) (a4 : Int32) (t : ct_St) {r : Nat} (h31 : r ≠ 31) (h32 : r ≠ 32) (h33 : r ≠ 33) (h35 : r ≠ 35) (h36 : r ≠ 36) (h37 : r ≠ 37) (h38 : r ≠ 38) (h39 : r ≠ 39) : X8_counter_s a1 a2 a3 a4 t r = t r := by
  dsimp only [X8_counter_s]
  (repeat' split) <;> simp only [us_ne, ur_ne, h31, h32, h33, h35, h36, h37, h38, h39, ne_eq, not_false_eq_true]
theorem iX8_source_X8 : ∀ w ∈ wsX80, w ∈ wsX8_source := fun _ h => (List.mem_cons_of_mem _ (List.mem_append_right _ h))
theorem hv_X8_source : yX8_source.cls = RX8 ∧ yX8_source.cls ≠ "java/lang/invoke/MethodHandle" ∧ yX8_source.cls ≠ "java/lang/invoke/VarHandle" ∧ (parseMethodDescriptor yX8_source.desc).map (fun d => d.parameters.length) = some 2 := by decide +kernel
def X8_source_r (a1 : Int32) (a2 : Int32) (t : ct_St) : Int32 :=
  if X8_isOne_r a1 = 0 then
    (-1)
  else
    if X8_within_r a2 0 3 = 0 then
      (-2)
    else
      if a2 = 2 then
        if a1 = 0 then
          (-3)
        else
          let x3 := t 34 (ix a1)
          x3
      else
        let x1 := t 34 (ix a1)
        x1
def X8_source_s (a1 : Int32) (a2 : Int32) (t : ct_St) : ct_St :=
  if X8_isOne_r a1 = 0 then
    t
  else
    if X8_within_r a2 0 3 = 0 then
      t
    else
      if a2 = 2 then
        if a1 = 0 then
          t
        else
          let t4 := us t 34 (ix a1) a2
          t4
      else
        let t2 := us t 34 (ix a1) a2
        t2
set_option maxHeartbeats 4000000 in
set_option maxRecDepth 100000 in
theorem c_X8_source (l : Launch) (g : ct_G) (t : ct_St) (a1 : Int32) (a2 : Int32) : MI l g shG yX8_source wsX8_source (rmd 2) [.ref (g.2.1 30), .int a1, .int a2] t (X8_source_r a1 a2 t) (X8_source_s a1 a2 t) := by
  refine MI.of (own := RX8) (cc := cX8_source) (maxL := 4) rfl (by decide) rfl (Nat.le_of_ble_eq_true rfl) (fun p e s m args below meth cd A Q C hret ls hl => ?_)
  have hl : lv_has ls 4 [(0, .ref (g.2.1 30)), (1, .int a1), (2, .int a2)] := hl
  refine v_iload_n C dX8_source_0 rfl (lv_at hl 1 rfl) ?_
  refine v_scalli C (c_X8_isOne l g _ _) (va_cwS 1 C.2.2.2.2.1 gX8_source_X8_isOne rfl rfl rfl hs_X8_isOne ⟨Nat.le_of_ble_eq_true rfl, Nat.le_of_ble_eq_true rfl⟩) rfl hl.1 rfl (Nat.le_of_ble_eq_true rfl) dX8_source_1 ⟨Nat.le_refl _, Nat.le_refl _⟩ ?_
  refine v_if_ne (tgt := 9) C dX8_source_4 (by decide) (fun c_1 => ?_) (fun c_1 => ?_)
  · refine v_iload_n C dX8_source_9 rfl (lv_at hl 2 rfl) ?_
    refine v_iconst (v := 0) C dX8_source_10 (by decide) ?_
    refine v_iconst (v := 3) C dX8_source_11 (by decide) ?_
    refine v_scalli C (c_X8_within l g _ _ _ _) (va_cwS 3 C.2.2.2.2.1 gX8_source_X8_within rfl rfl rfl hs_X8_within ⟨Nat.le_of_ble_eq_true rfl, Nat.le_of_ble_eq_true rfl⟩) rfl hl.1 rfl (Nat.le_of_ble_eq_true rfl) dX8_source_12 ⟨Nat.le_refl _, Nat.le_refl _⟩ ?_
    refine v_if_ne (tgt := 21) C dX8_source_15 (by decide) (fun c_2 => ?_) (fun c_2 => ?_)
    · refine v_iload_n C dX8_source_21 rfl (lv_at hl 2 rfl) ?_
      refine v_iconst (v := 2) C dX8_source_22 (by decide) ?_
      refine v_icmp_ne (tgt := 33) C dX8_source_23 (by decide) (fun c_3 => ?_) (fun c_3 => ?_)
      · refine v_aload_n C dX8_source_33 rfl (lv_at hl 0 rfl) ?_
        refine v_getR C iX8_source_X8 k_30 rfl rfl (j := 4) rfl (by decide) rfl (C.w 1 rfl) dX8_source_34 ?_
        refine v_iload_n C dX8_source_37 rfl (lv_at hl 1 rfl) ?_
        refine v_iald C k_34 rfl (X8_isOne_in c_1) dX8_source_38 ?_
        refine v_istore_n (lv' := [(3, _), (0, _), (1, _), (2, _)]) C dX8_source_39 rfl hl (by decide) rfl (fun ls hl => ?_)
        refine v_aload_n C dX8_source_40 rfl (lv_at hl 1 rfl) ?_
        refine v_getR C iX8_source_X8 k_30 rfl rfl (j := 4) rfl (by decide) rfl (C.w 1 rfl) dX8_source_41 ?_
        refine v_iload_n C dX8_source_44 rfl (lv_at hl 2 rfl) ?_
        refine v_iload_n C dX8_source_45 rfl (lv_at hl 3 rfl) ?_
        refine v_iast C k_34 rfl (X8_isOne_in c_1) dX8_source_46 ?_
        refine v_iload_n C dX8_source_47 rfl (lv_at hl 0 rfl) ?_
        exact hret _ _ _ _ (Eq.symm ((if_neg c_1).trans ((if_neg c_2).trans ((if_neg c_3).trans rfl)))) (Eq.symm ((if_neg c_1).trans ((if_neg c_2).trans ((if_neg c_3).trans rfl)))) dX8_source_48
      · refine v_iload_n C dX8_source_26 rfl (lv_at hl 1 rfl) ?_
        refine v_if_ne (tgt := 33) C dX8_source_27 (by decide) (fun c_4 => ?_) (fun c_4 => ?_)
        · refine v_aload_n C dX8_source_33 rfl (lv_at hl 0 rfl) ?_
          refine v_getR C iX8_source_X8 k_30 rfl rfl (j := 4) rfl (by decide) rfl (C.w 1 rfl) dX8_source_34 ?_
          refine v_iload_n C dX8_source_37 rfl (lv_at hl 1 rfl) ?_
          refine v_iald C k_34 rfl (X8_isOne_in c_1) dX8_source_38 ?_
          refine v_istore_n (lv' := [(3, _), (0, _), (1, _), (2, _)]) C dX8_source_39 rfl hl (by decide) rfl (fun ls hl => ?_)
          refine v_aload_n C dX8_source_40 rfl (lv_at hl 1 rfl) ?_
          refine v_getR C iX8_source_X8 k_30 rfl rfl (j := 4) rfl (by decide) rfl (C.w 1 rfl) dX8_source_41 ?_
          refine v_iload_n C dX8_source_44 rfl (lv_at hl 2 rfl) ?_
          refine v_iload_n C dX8_source_45 rfl (lv_at hl 3 rfl) ?_
          refine v_iast C k_34 rfl (X8_isOne_in c_1) dX8_source_46 ?_
          refine v_iload_n C dX8_source_47 rfl (lv_at hl 0 rfl) ?_
          exact hret _ _ _ _ (Eq.symm ((if_neg c_1).trans ((if_neg c_2).trans ((if_pos c_3).trans ((if_neg c_4).trans rfl))))) (Eq.symm ((if_neg c_1).trans ((if_neg c_2).trans ((if_pos c_3).trans ((if_neg c_4).trans rfl))))) dX8_source_48
        · refine v_bipush (v := (-3)) C dX8_source_30 (by decide) ?_
          exact hret _ _ _ _ (Eq.symm ((if_neg c_1).trans ((if_neg c_2).trans ((if_pos c_3).trans ((if_pos c_4).trans rfl))))) (Eq.symm ((if_neg c_1).trans ((if_neg c_2).trans ((if_pos c_3).trans ((if_pos c_4).trans rfl))))) dX8_source_32
    · refine v_bipush (v := (-2)) C dX8_source_18 (by decide) ?_
      exact hret _ _ _ _ (Eq.symm ((if_neg c_1).trans ((if_pos c_2).trans rfl))) (Eq.symm ((if_neg c_1).trans ((if_pos c_2).trans rfl))) dX8_source_20
  · refine v_iconst (v := (-1)) C dX8_source_7 (by decide) ?_
    exact hret _ _ _ _ (Eq.symm ((if_pos c_1).trans rfl)) (Eq.symm ((if_pos c_1).trans rfl)) dX8_source_8
theorem X8_source_s_fr (a1 : Int32) (a2 : Int32) (t : ct_St) {r : Nat} (h34 : r ≠ 34) : X8_source_s a1 a2 t r = t r := by
  dsimp only [X8_source_s]
  (repeat' split) <;> simp only [us_ne, ur_ne, h34, ne_eq, not_false_eq_true]
theorem iX8_count_X8 : ∀ w ∈ wsX80, w ∈ wsX8_count := fun _ h => (List.mem_cons_of_mem _ (List.mem_append_right _ h))
theorem hv_X8_count : yX8_count.cls = RX8 ∧ yX8_count.cls ≠ "java/lang/invoke/MethodHandle" ∧ yX8_count.cls ≠ "java/lang/invoke/VarHandle" ∧ (parseMethodDescriptor yX8_count.desc).map (fun d => d.parameters.length) = some 2 := by decide +kernel
def X8_count_r (a1 : Int32) (a2 : Int32) (t : ct_St) : Int32 :=
  if X8_isOne_r a1 = 0 then
    (-1)
  else
    if X8_within_r a2 0 (t 32 (ix a1)) = 0 then
      (-2)
    else
      let x1 := t 35 (ix a1)
      x1
def X8_count_s (a1 : Int32) (a2 : Int32) (t : ct_St) : ct_St :=
  if X8_isOne_r a1 = 0 then
    t
  else
    if X8_within_r a2 0 (t 32 (ix a1)) = 0 then
      t
    else
      let t2 := us t 35 (ix a1) a2
      t2
set_option maxHeartbeats 4000000 in
set_option maxRecDepth 100000 in
theorem c_X8_count (l : Launch) (g : ct_G) (t : ct_St) (a1 : Int32) (a2 : Int32) : MI l g shG yX8_count wsX8_count (rmd 2) [.ref (g.2.1 30), .int a1, .int a2] t (X8_count_r a1 a2 t) (X8_count_s a1 a2 t) := by
  refine MI.of (own := RX8) (cc := cX8_count) (maxL := 4) rfl (by decide) rfl (Nat.le_of_ble_eq_true rfl) (fun p e s m args below meth cd A Q C hret ls hl => ?_)
  have hl : lv_has ls 4 [(0, .ref (g.2.1 30)), (1, .int a1), (2, .int a2)] := hl
  refine v_iload_n C dX8_count_0 rfl (lv_at hl 1 rfl) ?_
  refine v_scalli C (c_X8_isOne l g _ _) (va_cwS 1 C.2.2.2.2.1 gX8_count_X8_isOne rfl rfl rfl hs_X8_isOne ⟨Nat.le_of_ble_eq_true rfl, Nat.le_of_ble_eq_true rfl⟩) rfl hl.1 rfl (Nat.le_of_ble_eq_true rfl) dX8_count_1 ⟨Nat.le_refl _, Nat.le_refl _⟩ ?_
  refine v_if_ne (tgt := 9) C dX8_count_4 (by decide) (fun c_1 => ?_) (fun c_1 => ?_)
  · refine v_iload_n C dX8_count_9 rfl (lv_at hl 2 rfl) ?_
    refine v_iconst (v := 0) C dX8_count_10 (by decide) ?_
    refine v_aload_n C dX8_count_11 rfl (lv_at hl 0 rfl) ?_
    refine v_getR C iX8_count_X8 k_30 rfl rfl (j := 2) rfl (by decide) rfl (C.w 1 rfl) dX8_count_12 ?_
    refine v_iload_n C dX8_count_15 rfl (lv_at hl 1 rfl) ?_
    refine v_iald C k_32 rfl (X8_isOne_in c_1) dX8_count_16 ?_
    refine v_scalli C (c_X8_within l g _ _ _ _) (va_cwS 3 C.2.2.2.2.1 gX8_count_X8_within rfl rfl rfl hs_X8_within ⟨Nat.le_of_ble_eq_true rfl, Nat.le_of_ble_eq_true rfl⟩) rfl hl.1 rfl (Nat.le_of_ble_eq_true rfl) dX8_count_17 ⟨Nat.le_refl _, Nat.le_refl _⟩ ?_
    refine v_if_ne (tgt := 26) C dX8_count_20 (by decide) (fun c_2 => ?_) (fun c_2 => ?_)
    · refine v_aload_n C dX8_count_26 rfl (lv_at hl 0 rfl) ?_
      refine v_getR C iX8_count_X8 k_30 rfl rfl (j := 5) rfl (by decide) rfl (C.w 2 rfl) dX8_count_27 ?_
      refine v_iload_n C dX8_count_30 rfl (lv_at hl 1 rfl) ?_
      refine v_iald C k_35 rfl (X8_isOne_in c_1) dX8_count_31 ?_
      refine v_istore_n (lv' := [(3, _), (0, _), (1, _), (2, _)]) C dX8_count_32 rfl hl (by decide) rfl (fun ls hl => ?_)
      refine v_aload_n C dX8_count_33 rfl (lv_at hl 1 rfl) ?_
      refine v_getR C iX8_count_X8 k_30 rfl rfl (j := 5) rfl (by decide) rfl (C.w 2 rfl) dX8_count_34 ?_
      refine v_iload_n C dX8_count_37 rfl (lv_at hl 2 rfl) ?_
      refine v_iload_n C dX8_count_38 rfl (lv_at hl 3 rfl) ?_
      refine v_iast C k_35 rfl (X8_isOne_in c_1) dX8_count_39 ?_
      refine v_iload_n C dX8_count_40 rfl (lv_at hl 0 rfl) ?_
      exact hret _ _ _ _ (Eq.symm ((if_neg c_1).trans ((if_neg c_2).trans rfl))) (Eq.symm ((if_neg c_1).trans ((if_neg c_2).trans rfl))) dX8_count_41
    · refine v_bipush (v := (-2)) C dX8_count_23 (by decide) ?_
      exact hret _ _ _ _ (Eq.symm ((if_neg c_1).trans ((if_pos c_2).trans rfl))) (Eq.symm ((if_neg c_1).trans ((if_pos c_2).trans rfl))) dX8_count_25
  · refine v_iconst (v := (-1)) C dX8_count_7 (by decide) ?_
    exact hret _ _ _ _ (Eq.symm ((if_pos c_1).trans rfl)) (Eq.symm ((if_pos c_1).trans rfl)) dX8_count_8
theorem X8_count_s_fr (a1 : Int32) (a2 : Int32) (t : ct_St) {r : Nat} (h35 : r ≠ 35) : X8_count_s a1 a2 t r = t r := by
  dsimp only [X8_count_s]
  (repeat' split) <;> simp only [us_ne, ur_ne, h35, ne_eq, not_false_eq_true]
theorem iX8_top_X8 : ∀ w ∈ wsX80, w ∈ wsX8_top := fun _ h => (List.mem_cons_of_mem _ (List.mem_append_right _ h))
theorem hv_X8_top : yX8_top.cls = RX8 ∧ yX8_top.cls ≠ "java/lang/invoke/MethodHandle" ∧ yX8_top.cls ≠ "java/lang/invoke/VarHandle" ∧ (parseMethodDescriptor yX8_top.desc).map (fun d => d.parameters.length) = some 2 := by decide +kernel
def X8_top_r (a1 : Int32) (a2 : Int32) (t : ct_St) : Int32 :=
  if X8_isOne_r a1 = 0 then
    (-1)
  else
    if X8_within_r a2 1 9999 = 0 then
      (-2)
    else
      let t1 := us t 39 (ix a1) a2
      t1 32 (ix a1)
def X8_top_s (a1 : Int32) (a2 : Int32) (t : ct_St) : ct_St :=
  if X8_isOne_r a1 = 0 then
    t
  else
    if X8_within_r a2 1 9999 = 0 then
      t
    else
      let t1 := us t 39 (ix a1) a2
      t1
set_option maxHeartbeats 4000000 in
set_option maxRecDepth 100000 in
theorem c_X8_top (l : Launch) (g : ct_G) (t : ct_St) (a1 : Int32) (a2 : Int32) : MI l g shG yX8_top wsX8_top (rmd 2) [.ref (g.2.1 30), .int a1, .int a2] t (X8_top_r a1 a2 t) (X8_top_s a1 a2 t) := by
  refine MI.of (own := RX8) (cc := cX8_top) (maxL := 3) rfl (by decide) rfl (Nat.le_of_ble_eq_true rfl) (fun p e s m args below meth cd A Q C hret ls hl => ?_)
  have hl : lv_has ls 3 [(0, .ref (g.2.1 30)), (1, .int a1), (2, .int a2)] := hl
  refine v_iload_n C dX8_top_0 rfl (lv_at hl 1 rfl) ?_
  refine v_scalli C (c_X8_isOne l g _ _) (va_cwS 1 C.2.2.2.2.1 gX8_top_X8_isOne rfl rfl rfl hs_X8_isOne ⟨Nat.le_of_ble_eq_true rfl, Nat.le_of_ble_eq_true rfl⟩) rfl hl.1 rfl (Nat.le_of_ble_eq_true rfl) dX8_top_1 ⟨Nat.le_refl _, Nat.le_refl _⟩ ?_
  refine v_if_ne (tgt := 9) C dX8_top_4 (by decide) (fun c_1 => ?_) (fun c_1 => ?_)
  · refine v_iload_n C dX8_top_9 rfl (lv_at hl 2 rfl) ?_
    refine v_iconst (v := 1) C dX8_top_10 (by decide) ?_
    refine v_sipush (v := 9999) C dX8_top_11 (by decide) ?_
    refine v_scalli C (c_X8_within l g _ _ _ _) (va_cwS 3 C.2.2.2.2.1 gX8_top_X8_within rfl rfl rfl hs_X8_within ⟨Nat.le_of_ble_eq_true rfl, Nat.le_of_ble_eq_true rfl⟩) rfl hl.1 rfl (Nat.le_of_ble_eq_true rfl) dX8_top_14 ⟨Nat.le_refl _, Nat.le_refl _⟩ ?_
    refine v_if_ne (tgt := 23) C dX8_top_17 (by decide) (fun c_2 => ?_) (fun c_2 => ?_)
    · refine v_aload_n C dX8_top_23 rfl (lv_at hl 0 rfl) ?_
      refine v_getR C iX8_top_X8 k_30 rfl rfl (j := 9) rfl (by decide) rfl (C.w 1 rfl) dX8_top_24 ?_
      refine v_iload_n C dX8_top_27 rfl (lv_at hl 1 rfl) ?_
      refine v_iload_n C dX8_top_28 rfl (lv_at hl 2 rfl) ?_
      refine v_iast C k_39 rfl (X8_isOne_in c_1) dX8_top_29 ?_
      refine v_aload_n C dX8_top_30 rfl (lv_at hl 0 rfl) ?_
      refine v_getR C iX8_top_X8 k_30 rfl rfl (j := 2) rfl (by decide) rfl (C.w 2 rfl) dX8_top_31 ?_
      refine v_iload_n C dX8_top_34 rfl (lv_at hl 1 rfl) ?_
      refine v_iald C k_32 rfl (X8_isOne_in c_1) dX8_top_35 ?_
      exact hret _ _ _ _ (Eq.symm ((if_neg c_1).trans ((if_neg c_2).trans rfl))) (Eq.symm ((if_neg c_1).trans ((if_neg c_2).trans rfl))) dX8_top_36
    · refine v_bipush (v := (-2)) C dX8_top_20 (by decide) ?_
      exact hret _ _ _ _ (Eq.symm ((if_neg c_1).trans ((if_pos c_2).trans rfl))) (Eq.symm ((if_neg c_1).trans ((if_pos c_2).trans rfl))) dX8_top_22
  · refine v_iconst (v := (-1)) C dX8_top_7 (by decide) ?_
    exact hret _ _ _ _ (Eq.symm ((if_pos c_1).trans rfl)) (Eq.symm ((if_pos c_1).trans rfl)) dX8_top_8
theorem X8_top_s_fr (a1 : Int32) (a2 : Int32) (t : ct_St) {r : Nat} (h39 : r ≠ 39) : X8_top_s a1 a2 t r = t r := by
  dsimp only [X8_top_s]
  (repeat' split) <;> simp only [us_ne, ur_ne, h39, ne_eq, not_false_eq_true]
theorem iX8_ofCounter_X8 : ∀ w ∈ wsX80, w ∈ wsX8_ofCounter := fun _ h => (List.mem_cons_of_mem _ (List.mem_append_right _ h))
theorem hv_X8_ofCounter : yX8_ofCounter.cls = RX8 ∧ yX8_ofCounter.cls ≠ "java/lang/invoke/MethodHandle" ∧ yX8_ofCounter.cls ≠ "java/lang/invoke/VarHandle" ∧ (parseMethodDescriptor yX8_ofCounter.desc).map (fun d => d.parameters.length) = some 2 := by decide +kernel
def X8_ofCounter_r (a1 : Int32) (a2 : Int32) (t : ct_St) : Int32 :=
  if X8_isOne_r a1 = 0 then
    (-1)
  else
    if a2 = 0 then
      t 35 (ix a1)
    else
      if a2 = 1 then
        t 32 (ix a1)
      else
        if a2 = 2 then
          t 31 (ix a1)
        else
          if a2 = 3 then
            t 33 (ix a1)
          else
            if a2 = 4 then
              t 34 (ix a1)
            else
              if a2 = 5 then
                t 36 (ix a1)
              else
                if a2 = 6 then
                  t 37 (ix a1)
                else
                  if a2 = 7 then
                    t 38 (ix a1)
                  else
                    if a2 = 8 then
                      t 39 (ix a1)
                    else
                      (-2)
set_option maxHeartbeats 4000000 in
set_option maxRecDepth 100000 in
theorem c_X8_ofCounter (l : Launch) (g : ct_G) (t : ct_St) (a1 : Int32) (a2 : Int32) : MI l g shG yX8_ofCounter wsX8_ofCounter (rmd 2) [.ref (g.2.1 30), .int a1, .int a2] t (X8_ofCounter_r a1 a2 t) t := by
  refine MI.of (own := RX8) (cc := cX8_ofCounter) (maxL := 3) rfl (by decide) rfl (Nat.le_of_ble_eq_true rfl) (fun p e s m args below meth cd A Q C hret ls hl => ?_)
  have hl : lv_has ls 3 [(0, .ref (g.2.1 30)), (1, .int a1), (2, .int a2)] := hl
  refine v_iload_n C dX8_ofCounter_0 rfl (lv_at hl 1 rfl) ?_
  refine v_scalli C (c_X8_isOne l g _ _) (va_cwS 1 C.2.2.2.2.1 gX8_ofCounter_X8_isOne rfl rfl rfl hs_X8_isOne ⟨Nat.le_of_ble_eq_true rfl, Nat.le_of_ble_eq_true rfl⟩) rfl hl.1 rfl (Nat.le_of_ble_eq_true rfl) dX8_ofCounter_1 ⟨Nat.le_refl _, Nat.le_refl _⟩ ?_
  refine v_if_ne (tgt := 9) C dX8_ofCounter_4 (by decide) (fun c_1 => ?_) (fun c_1 => ?_)
  · refine v_iload_n C dX8_ofCounter_9 rfl (lv_at hl 2 rfl) ?_
    refine v_by (v := 0) (fun c_2 => ?_) (fun c_2 => ?_)
    · refine v_tabIn (off := 50) (tgt := 60) C dX8_ofCounter_10 c_2 (by decide) (by decide) (by decide) (by decide) ?_
      refine v_aload_n C dX8_ofCounter_60 rfl (lv_at hl 0 rfl) ?_
      refine v_getR C iX8_ofCounter_X8 k_30 rfl rfl (j := 5) rfl (by decide) rfl (C.w 1 rfl) dX8_ofCounter_61 ?_
      refine v_iload_n C dX8_ofCounter_64 rfl (lv_at hl 1 rfl) ?_
      refine v_iald C k_35 rfl (X8_isOne_in c_1) dX8_ofCounter_65 ?_
      exact hret _ _ _ _ (Eq.symm ((if_neg c_1).trans ((if_pos c_2).trans rfl))) rfl dX8_ofCounter_66
    · refine v_by (v := 1) (fun c_3 => ?_) (fun c_3 => ?_)
      · refine v_tabIn (off := 57) (tgt := 67) C dX8_ofCounter_10 c_3 (by decide) (by decide) (by decide) (by decide) ?_
        refine v_aload_n C dX8_ofCounter_67 rfl (lv_at hl 0 rfl) ?_
        refine v_getR C iX8_ofCounter_X8 k_30 rfl rfl (j := 2) rfl (by decide) rfl (C.w 2 rfl) dX8_ofCounter_68 ?_
        refine v_iload_n C dX8_ofCounter_71 rfl (lv_at hl 1 rfl) ?_
        refine v_iald C k_32 rfl (X8_isOne_in c_1) dX8_ofCounter_72 ?_
        exact hret _ _ _ _ (Eq.symm ((if_neg c_1).trans ((if_neg c_2).trans ((if_pos c_3).trans rfl)))) rfl dX8_ofCounter_73
      · refine v_by (v := 2) (fun c_4 => ?_) (fun c_4 => ?_)
        · refine v_tabIn (off := 64) (tgt := 74) C dX8_ofCounter_10 c_4 (by decide) (by decide) (by decide) (by decide) ?_
          refine v_aload_n C dX8_ofCounter_74 rfl (lv_at hl 0 rfl) ?_
          refine v_getR C iX8_ofCounter_X8 k_30 rfl rfl (j := 1) rfl (by decide) rfl (C.w 3 rfl) dX8_ofCounter_75 ?_
          refine v_iload_n C dX8_ofCounter_78 rfl (lv_at hl 1 rfl) ?_
          refine v_iald C k_31 rfl (X8_isOne_in c_1) dX8_ofCounter_79 ?_
          exact hret _ _ _ _ (Eq.symm ((if_neg c_1).trans ((if_neg c_2).trans ((if_neg c_3).trans ((if_pos c_4).trans rfl))))) rfl dX8_ofCounter_80
        · refine v_by (v := 3) (fun c_5 => ?_) (fun c_5 => ?_)
          · refine v_tabIn (off := 71) (tgt := 81) C dX8_ofCounter_10 c_5 (by decide) (by decide) (by decide) (by decide) ?_
            refine v_aload_n C dX8_ofCounter_81 rfl (lv_at hl 0 rfl) ?_
            refine v_getR C iX8_ofCounter_X8 k_30 rfl rfl (j := 3) rfl (by decide) rfl (C.w 4 rfl) dX8_ofCounter_82 ?_
            refine v_iload_n C dX8_ofCounter_85 rfl (lv_at hl 1 rfl) ?_
            refine v_iald C k_33 rfl (X8_isOne_in c_1) dX8_ofCounter_86 ?_
            exact hret _ _ _ _ (Eq.symm ((if_neg c_1).trans ((if_neg c_2).trans ((if_neg c_3).trans ((if_neg c_4).trans ((if_pos c_5).trans rfl)))))) rfl dX8_ofCounter_87
          · refine v_by (v := 4) (fun c_6 => ?_) (fun c_6 => ?_)
            · refine v_tabIn (off := 78) (tgt := 88) C dX8_ofCounter_10 c_6 (by decide) (by decide) (by decide) (by decide) ?_
              refine v_aload_n C dX8_ofCounter_88 rfl (lv_at hl 0 rfl) ?_
              refine v_getR C iX8_ofCounter_X8 k_30 rfl rfl (j := 4) rfl (by decide) rfl (C.w 5 rfl) dX8_ofCounter_89 ?_
              refine v_iload_n C dX8_ofCounter_92 rfl (lv_at hl 1 rfl) ?_
              refine v_iald C k_34 rfl (X8_isOne_in c_1) dX8_ofCounter_93 ?_
              exact hret _ _ _ _ (Eq.symm ((if_neg c_1).trans ((if_neg c_2).trans ((if_neg c_3).trans ((if_neg c_4).trans ((if_neg c_5).trans ((if_pos c_6).trans rfl))))))) rfl dX8_ofCounter_94
            · refine v_by (v := 5) (fun c_7 => ?_) (fun c_7 => ?_)
              · refine v_tabIn (off := 85) (tgt := 95) C dX8_ofCounter_10 c_7 (by decide) (by decide) (by decide) (by decide) ?_
                refine v_aload_n C dX8_ofCounter_95 rfl (lv_at hl 0 rfl) ?_
                refine v_getR C iX8_ofCounter_X8 k_30 rfl rfl (j := 6) rfl (by decide) rfl (C.w 6 rfl) dX8_ofCounter_96 ?_
                refine v_iload_n C dX8_ofCounter_99 rfl (lv_at hl 1 rfl) ?_
                refine v_iald C k_36 rfl (X8_isOne_in c_1) dX8_ofCounter_100 ?_
                exact hret _ _ _ _ (Eq.symm ((if_neg c_1).trans ((if_neg c_2).trans ((if_neg c_3).trans ((if_neg c_4).trans ((if_neg c_5).trans ((if_neg c_6).trans ((if_pos c_7).trans rfl)))))))) rfl dX8_ofCounter_101
              · refine v_by (v := 6) (fun c_8 => ?_) (fun c_8 => ?_)
                · refine v_tabIn (off := 92) (tgt := 102) C dX8_ofCounter_10 c_8 (by decide) (by decide) (by decide) (by decide) ?_
                  refine v_aload_n C dX8_ofCounter_102 rfl (lv_at hl 0 rfl) ?_
                  refine v_getR C iX8_ofCounter_X8 k_30 rfl rfl (j := 7) rfl (by decide) rfl (C.w 7 rfl) dX8_ofCounter_103 ?_
                  refine v_iload_n C dX8_ofCounter_106 rfl (lv_at hl 1 rfl) ?_
                  refine v_iald C k_37 rfl (X8_isOne_in c_1) dX8_ofCounter_107 ?_
                  exact hret _ _ _ _ (Eq.symm ((if_neg c_1).trans ((if_neg c_2).trans ((if_neg c_3).trans ((if_neg c_4).trans ((if_neg c_5).trans ((if_neg c_6).trans ((if_neg c_7).trans ((if_pos c_8).trans rfl))))))))) rfl dX8_ofCounter_108
                · refine v_by (v := 7) (fun c_9 => ?_) (fun c_9 => ?_)
                  · refine v_tabIn (off := 99) (tgt := 109) C dX8_ofCounter_10 c_9 (by decide) (by decide) (by decide) (by decide) ?_
                    refine v_aload_n C dX8_ofCounter_109 rfl (lv_at hl 0 rfl) ?_
                    refine v_getR C iX8_ofCounter_X8 k_30 rfl rfl (j := 8) rfl (by decide) rfl (C.w 8 rfl) dX8_ofCounter_110 ?_
                    refine v_iload_n C dX8_ofCounter_113 rfl (lv_at hl 1 rfl) ?_
                    refine v_iald C k_38 rfl (X8_isOne_in c_1) dX8_ofCounter_114 ?_
                    exact hret _ _ _ _ (Eq.symm ((if_neg c_1).trans ((if_neg c_2).trans ((if_neg c_3).trans ((if_neg c_4).trans ((if_neg c_5).trans ((if_neg c_6).trans ((if_neg c_7).trans ((if_neg c_8).trans ((if_pos c_9).trans rfl)))))))))) rfl dX8_ofCounter_115
                  · refine v_by (v := 8) (fun c_10 => ?_) (fun c_10 => ?_)
                    · refine v_tabIn (off := 106) (tgt := 116) C dX8_ofCounter_10 c_10 (by decide) (by decide) (by decide) (by decide) ?_
                      refine v_aload_n C dX8_ofCounter_116 rfl (lv_at hl 0 rfl) ?_
                      refine v_getR C iX8_ofCounter_X8 k_30 rfl rfl (j := 9) rfl (by decide) rfl (C.w 9 rfl) dX8_ofCounter_117 ?_
                      refine v_iload_n C dX8_ofCounter_120 rfl (lv_at hl 1 rfl) ?_
                      refine v_iald C k_39 rfl (X8_isOne_in c_1) dX8_ofCounter_121 ?_
                      exact hret _ _ _ _ (Eq.symm ((if_neg c_1).trans ((if_neg c_2).trans ((if_neg c_3).trans ((if_neg c_4).trans ((if_neg c_5).trans ((if_neg c_6).trans ((if_neg c_7).trans ((if_neg c_8).trans ((if_neg c_9).trans ((if_pos c_10).trans rfl))))))))))) rfl dX8_ofCounter_122
                    · refine v_tabOut (tgt := 123) C dX8_ofCounter_10 (by have h0 := lv_neT (a := 0) c_2 (by decide); have h1 := lv_neT (a := 1) c_3 (by decide); have h2 := lv_neT (a := 2) c_4 (by decide); have h3 := lv_neT (a := 3) c_5 (by decide); have h4 := lv_neT (a := 4) c_6 (by decide); have h5 := lv_neT (a := 5) c_7 (by decide); have h6 := lv_neT (a := 6) c_8 (by decide); have h7 := lv_neT (a := 7) c_9 (by decide); have h8 := lv_neT (a := 8) c_10 (by decide); omega) (by decide) ?_
                      refine v_bipush (v := (-2)) C dX8_ofCounter_123 (by decide) ?_
                      exact hret _ _ _ _ (Eq.symm ((if_neg c_1).trans ((if_neg c_2).trans ((if_neg c_3).trans ((if_neg c_4).trans ((if_neg c_5).trans ((if_neg c_6).trans ((if_neg c_7).trans ((if_neg c_8).trans ((if_neg c_9).trans ((if_neg c_10).trans rfl))))))))))) rfl dX8_ofCounter_125
  · refine v_iconst (v := (-1)) C dX8_ofCounter_7 (by decide) ?_
    exact hret _ _ _ _ (Eq.symm ((if_pos c_1).trans rfl)) rfl dX8_ofCounter_8
theorem iX8_input_X8 : ∀ w ∈ wsX80, w ∈ wsX8_input := fun _ h => (List.mem_cons_of_mem _ (List.mem_append_right _ h))
theorem hv_X8_input : yX8_input.cls = RX8 ∧ yX8_input.cls ≠ "java/lang/invoke/MethodHandle" ∧ yX8_input.cls ≠ "java/lang/invoke/VarHandle" ∧ (parseMethodDescriptor yX8_input.desc).map (fun d => d.parameters.length) = some 2 := by decide +kernel
def X8_input_r (a1 : Int32) (a2 : Int32) (t : ct_St) : Int32 :=
  if X8_isOne_r a1 = 0 then
    (-1)
  else
    if X8_within_r a2 0 1 = 0 then
      (-2)
    else
      let x1 := t 42 (ix a1)
      x1
def X8_input_s (a1 : Int32) (a2 : Int32) (t : ct_St) : ct_St :=
  if X8_isOne_r a1 = 0 then
    t
  else
    if X8_within_r a2 0 1 = 0 then
      t
    else
      let t2 := us t 42 (ix a1) a2
      t2
set_option maxHeartbeats 4000000 in
set_option maxRecDepth 100000 in
theorem c_X8_input (l : Launch) (g : ct_G) (t : ct_St) (a1 : Int32) (a2 : Int32) : MI l g shG yX8_input wsX8_input (rmd 2) [.ref (g.2.1 30), .int a1, .int a2] t (X8_input_r a1 a2 t) (X8_input_s a1 a2 t) := by
  refine MI.of (own := RX8) (cc := cX8_input) (maxL := 4) rfl (by decide) rfl (Nat.le_of_ble_eq_true rfl) (fun p e s m args below meth cd A Q C hret ls hl => ?_)
  have hl : lv_has ls 4 [(0, .ref (g.2.1 30)), (1, .int a1), (2, .int a2)] := hl
  refine v_iload_n C dX8_input_0 rfl (lv_at hl 1 rfl) ?_
  refine v_scalli C (c_X8_isOne l g _ _) (va_cwS 1 C.2.2.2.2.1 gX8_input_X8_isOne rfl rfl rfl hs_X8_isOne ⟨Nat.le_of_ble_eq_true rfl, Nat.le_of_ble_eq_true rfl⟩) rfl hl.1 rfl (Nat.le_of_ble_eq_true rfl) dX8_input_1 ⟨Nat.le_refl _, Nat.le_refl _⟩ ?_
  refine v_if_ne (tgt := 9) C dX8_input_4 (by decide) (fun c_1 => ?_) (fun c_1 => ?_)
  · refine v_iload_n C dX8_input_9 rfl (lv_at hl 2 rfl) ?_
    refine v_iconst (v := 0) C dX8_input_10 (by decide) ?_
    refine v_iconst (v := 1) C dX8_input_11 (by decide) ?_
    refine v_scalli C (c_X8_within l g _ _ _ _) (va_cwS 3 C.2.2.2.2.1 gX8_input_X8_within rfl rfl rfl hs_X8_within ⟨Nat.le_of_ble_eq_true rfl, Nat.le_of_ble_eq_true rfl⟩) rfl hl.1 rfl (Nat.le_of_ble_eq_true rfl) dX8_input_12 ⟨Nat.le_refl _, Nat.le_refl _⟩ ?_
    refine v_if_ne (tgt := 21) C dX8_input_15 (by decide) (fun c_2 => ?_) (fun c_2 => ?_)
    · refine v_aload_n C dX8_input_21 rfl (lv_at hl 0 rfl) ?_
      refine v_getR C iX8_input_X8 k_30 rfl rfl (j := 12) rfl (by decide) rfl (C.w 1 rfl) dX8_input_22 ?_
      refine v_iload_n C dX8_input_25 rfl (lv_at hl 1 rfl) ?_
      refine v_iald C k_42 rfl (X8_isOne_in c_1) dX8_input_26 ?_
      refine v_istore_n (lv' := [(3, _), (0, _), (1, _), (2, _)]) C dX8_input_27 rfl hl (by decide) rfl (fun ls hl => ?_)
      refine v_aload_n C dX8_input_28 rfl (lv_at hl 1 rfl) ?_
      refine v_getR C iX8_input_X8 k_30 rfl rfl (j := 12) rfl (by decide) rfl (C.w 1 rfl) dX8_input_29 ?_
      refine v_iload_n C dX8_input_32 rfl (lv_at hl 2 rfl) ?_
      refine v_iload_n C dX8_input_33 rfl (lv_at hl 3 rfl) ?_
      refine v_iast C k_42 rfl (X8_isOne_in c_1) dX8_input_34 ?_
      refine v_iload_n C dX8_input_35 rfl (lv_at hl 0 rfl) ?_
      exact hret _ _ _ _ (Eq.symm ((if_neg c_1).trans ((if_neg c_2).trans rfl))) (Eq.symm ((if_neg c_1).trans ((if_neg c_2).trans rfl))) dX8_input_36
    · refine v_bipush (v := (-2)) C dX8_input_18 (by decide) ?_
      exact hret _ _ _ _ (Eq.symm ((if_neg c_1).trans ((if_pos c_2).trans rfl))) (Eq.symm ((if_neg c_1).trans ((if_pos c_2).trans rfl))) dX8_input_20
  · refine v_iconst (v := (-1)) C dX8_input_7 (by decide) ?_
    exact hret _ _ _ _ (Eq.symm ((if_pos c_1).trans rfl)) (Eq.symm ((if_pos c_1).trans rfl)) dX8_input_8
theorem X8_input_s_fr (a1 : Int32) (a2 : Int32) (t : ct_St) {r : Nat} (h42 : r ≠ 42) : X8_input_s a1 a2 t r = t r := by
  dsimp only [X8_input_s]
  (repeat' split) <;> simp only [us_ne, ur_ne, h42, ne_eq, not_false_eq_true]
theorem iX8_filter_X8 : ∀ w ∈ wsX80, w ∈ wsX8_filter := fun _ h => (List.mem_cons_of_mem _ (List.mem_append_right _ h))
theorem hv_X8_filter : yX8_filter.cls = RX8 ∧ yX8_filter.cls ≠ "java/lang/invoke/MethodHandle" ∧ yX8_filter.cls ≠ "java/lang/invoke/VarHandle" ∧ (parseMethodDescriptor yX8_filter.desc).map (fun d => d.parameters.length) = some 2 := by decide +kernel
def X8_filter_r (a1 : Int32) (a2 : Int32) (t : ct_St) : Int32 :=
  if X8_isOne_r a1 = 0 then
    (-1)
  else
    if X8_within_r a2 1 8 = 0 then
      (-2)
    else
      let x1 := t 44 (ix a1)
      x1
def X8_filter_s (a1 : Int32) (a2 : Int32) (t : ct_St) : ct_St :=
  if X8_isOne_r a1 = 0 then
    t
  else
    if X8_within_r a2 1 8 = 0 then
      t
    else
      let t2 := us t 44 (ix a1) a2
      t2
set_option maxHeartbeats 4000000 in
set_option maxRecDepth 100000 in
theorem c_X8_filter (l : Launch) (g : ct_G) (t : ct_St) (a1 : Int32) (a2 : Int32) : MI l g shG yX8_filter wsX8_filter (rmd 2) [.ref (g.2.1 30), .int a1, .int a2] t (X8_filter_r a1 a2 t) (X8_filter_s a1 a2 t) := by
  refine MI.of (own := RX8) (cc := cX8_filter) (maxL := 4) rfl (by decide) rfl (Nat.le_of_ble_eq_true rfl) (fun p e s m args below meth cd A Q C hret ls hl => ?_)
  have hl : lv_has ls 4 [(0, .ref (g.2.1 30)), (1, .int a1), (2, .int a2)] := hl
  refine v_iload_n C dX8_filter_0 rfl (lv_at hl 1 rfl) ?_
  refine v_scalli C (c_X8_isOne l g _ _) (va_cwS 1 C.2.2.2.2.1 gX8_filter_X8_isOne rfl rfl rfl hs_X8_isOne ⟨Nat.le_of_ble_eq_true rfl, Nat.le_of_ble_eq_true rfl⟩) rfl hl.1 rfl (Nat.le_of_ble_eq_true rfl) dX8_filter_1 ⟨Nat.le_refl _, Nat.le_refl _⟩ ?_
  refine v_if_ne (tgt := 9) C dX8_filter_4 (by decide) (fun c_1 => ?_) (fun c_1 => ?_)
  · refine v_iload_n C dX8_filter_9 rfl (lv_at hl 2 rfl) ?_
    refine v_iconst (v := 1) C dX8_filter_10 (by decide) ?_
    refine v_bipush (v := 8) C dX8_filter_11 (by decide) ?_
    refine v_scalli C (c_X8_within l g _ _ _ _) (va_cwS 3 C.2.2.2.2.1 gX8_filter_X8_within rfl rfl rfl hs_X8_within ⟨Nat.le_of_ble_eq_true rfl, Nat.le_of_ble_eq_true rfl⟩) rfl hl.1 rfl (Nat.le_of_ble_eq_true rfl) dX8_filter_13 ⟨Nat.le_refl _, Nat.le_refl _⟩ ?_
    refine v_if_ne (tgt := 22) C dX8_filter_16 (by decide) (fun c_2 => ?_) (fun c_2 => ?_)
    · refine v_aload_n C dX8_filter_22 rfl (lv_at hl 0 rfl) ?_
      refine v_getR C iX8_filter_X8 k_30 rfl rfl (j := 14) rfl (by decide) rfl (C.w 1 rfl) dX8_filter_23 ?_
      refine v_iload_n C dX8_filter_26 rfl (lv_at hl 1 rfl) ?_
      refine v_iald C k_44 rfl (X8_isOne_in c_1) dX8_filter_27 ?_
      refine v_istore_n (lv' := [(3, _), (0, _), (1, _), (2, _)]) C dX8_filter_28 rfl hl (by decide) rfl (fun ls hl => ?_)
      refine v_aload_n C dX8_filter_29 rfl (lv_at hl 1 rfl) ?_
      refine v_getR C iX8_filter_X8 k_30 rfl rfl (j := 14) rfl (by decide) rfl (C.w 1 rfl) dX8_filter_30 ?_
      refine v_iload_n C dX8_filter_33 rfl (lv_at hl 2 rfl) ?_
      refine v_iload_n C dX8_filter_34 rfl (lv_at hl 3 rfl) ?_
      refine v_iast C k_44 rfl (X8_isOne_in c_1) dX8_filter_35 ?_
      refine v_iload_n C dX8_filter_36 rfl (lv_at hl 0 rfl) ?_
      exact hret _ _ _ _ (Eq.symm ((if_neg c_1).trans ((if_neg c_2).trans rfl))) (Eq.symm ((if_neg c_1).trans ((if_neg c_2).trans rfl))) dX8_filter_37
    · refine v_bipush (v := (-2)) C dX8_filter_19 (by decide) ?_
      exact hret _ _ _ _ (Eq.symm ((if_neg c_1).trans ((if_pos c_2).trans rfl))) (Eq.symm ((if_neg c_1).trans ((if_pos c_2).trans rfl))) dX8_filter_21
  · refine v_iconst (v := (-1)) C dX8_filter_7 (by decide) ?_
    exact hret _ _ _ _ (Eq.symm ((if_pos c_1).trans rfl)) (Eq.symm ((if_pos c_1).trans rfl)) dX8_filter_8
theorem X8_filter_s_fr (a1 : Int32) (a2 : Int32) (t : ct_St) {r : Nat} (h44 : r ≠ 44) : X8_filter_s a1 a2 t r = t r := by
  dsimp only [X8_filter_s]
  (repeat' split) <;> simp only [us_ne, ur_ne, h44, ne_eq, not_false_eq_true]
theorem iX8_ofInput_X8 : ∀ w ∈ wsX80, w ∈ wsX8_ofInput := fun _ h => (List.mem_cons_of_mem _ (List.mem_append_right _ h))
theorem hv_X8_ofInput : yX8_ofInput.cls = RX8 ∧ yX8_ofInput.cls ≠ "java/lang/invoke/MethodHandle" ∧ yX8_ofInput.cls ≠ "java/lang/invoke/VarHandle" ∧ (parseMethodDescriptor yX8_ofInput.desc).map (fun d => d.parameters.length) = some 2 := by decide +kernel
def X8_ofInput_r (a1 : Int32) (a2 : Int32) (t : ct_St) : Int32 :=
  if X8_isOne_r a1 = 0 then
    (-1)
  else
    if a2 = 0 then
      t 42 (ix a1)
    else
      if a2 = 1 then
        t 43 (ix a1)
      else
        if a2 = 2 then
          t 45 (ix a1)
        else
          if a2 = 3 then
            t 44 (ix a1)
          else
            (-2)
set_option maxHeartbeats 4000000 in
set_option maxRecDepth 100000 in
theorem c_X8_ofInput (l : Launch) (g : ct_G) (t : ct_St) (a1 : Int32) (a2 : Int32) : MI l g shG yX8_ofInput wsX8_ofInput (rmd 2) [.ref (g.2.1 30), .int a1, .int a2] t (X8_ofInput_r a1 a2 t) t := by
  refine MI.of (own := RX8) (cc := cX8_ofInput) (maxL := 3) rfl (by decide) rfl (Nat.le_of_ble_eq_true rfl) (fun p e s m args below meth cd A Q C hret ls hl => ?_)
  have hl : lv_has ls 3 [(0, .ref (g.2.1 30)), (1, .int a1), (2, .int a2)] := hl
  refine v_iload_n C dX8_ofInput_0 rfl (lv_at hl 1 rfl) ?_
  refine v_scalli C (c_X8_isOne l g _ _) (va_cwS 1 C.2.2.2.2.1 gX8_ofInput_X8_isOne rfl rfl rfl hs_X8_isOne ⟨Nat.le_of_ble_eq_true rfl, Nat.le_of_ble_eq_true rfl⟩) rfl hl.1 rfl (Nat.le_of_ble_eq_true rfl) dX8_ofInput_1 ⟨Nat.le_refl _, Nat.le_refl _⟩ ?_
  refine v_if_ne (tgt := 9) C dX8_ofInput_4 (by decide) (fun c_1 => ?_) (fun c_1 => ?_)
  · refine v_iload_n C dX8_ofInput_9 rfl (lv_at hl 2 rfl) ?_
    refine v_by (v := 0) (fun c_2 => ?_) (fun c_2 => ?_)
    · refine v_tabIn (off := 30) (tgt := 40) C dX8_ofInput_10 c_2 (by decide) (by decide) (by decide) (by decide) ?_
      refine v_aload_n C dX8_ofInput_40 rfl (lv_at hl 0 rfl) ?_
      refine v_getR C iX8_ofInput_X8 k_30 rfl rfl (j := 12) rfl (by decide) rfl (C.w 1 rfl) dX8_ofInput_41 ?_
      refine v_iload_n C dX8_ofInput_44 rfl (lv_at hl 1 rfl) ?_
      refine v_iald C k_42 rfl (X8_isOne_in c_1) dX8_ofInput_45 ?_
      exact hret _ _ _ _ (Eq.symm ((if_neg c_1).trans ((if_pos c_2).trans rfl))) rfl dX8_ofInput_46
    · refine v_by (v := 1) (fun c_3 => ?_) (fun c_3 => ?_)
      · refine v_tabIn (off := 37) (tgt := 47) C dX8_ofInput_10 c_3 (by decide) (by decide) (by decide) (by decide) ?_
        refine v_aload_n C dX8_ofInput_47 rfl (lv_at hl 0 rfl) ?_
        refine v_getR C iX8_ofInput_X8 k_30 rfl rfl (j := 13) rfl (by decide) rfl (C.w 2 rfl) dX8_ofInput_48 ?_
        refine v_iload_n C dX8_ofInput_51 rfl (lv_at hl 1 rfl) ?_
        refine v_iald C k_43 rfl (X8_isOne_in c_1) dX8_ofInput_52 ?_
        exact hret _ _ _ _ (Eq.symm ((if_neg c_1).trans ((if_neg c_2).trans ((if_pos c_3).trans rfl)))) rfl dX8_ofInput_53
      · refine v_by (v := 2) (fun c_4 => ?_) (fun c_4 => ?_)
        · refine v_tabIn (off := 44) (tgt := 54) C dX8_ofInput_10 c_4 (by decide) (by decide) (by decide) (by decide) ?_
          refine v_aload_n C dX8_ofInput_54 rfl (lv_at hl 0 rfl) ?_
          refine v_getR C iX8_ofInput_X8 k_30 rfl rfl (j := 15) rfl (by decide) rfl (C.w 3 rfl) dX8_ofInput_55 ?_
          refine v_iload_n C dX8_ofInput_58 rfl (lv_at hl 1 rfl) ?_
          refine v_iald C k_45 rfl (X8_isOne_in c_1) dX8_ofInput_59 ?_
          exact hret _ _ _ _ (Eq.symm ((if_neg c_1).trans ((if_neg c_2).trans ((if_neg c_3).trans ((if_pos c_4).trans rfl))))) rfl dX8_ofInput_60
        · refine v_by (v := 3) (fun c_5 => ?_) (fun c_5 => ?_)
          · refine v_tabIn (off := 51) (tgt := 61) C dX8_ofInput_10 c_5 (by decide) (by decide) (by decide) (by decide) ?_
            refine v_aload_n C dX8_ofInput_61 rfl (lv_at hl 0 rfl) ?_
            refine v_getR C iX8_ofInput_X8 k_30 rfl rfl (j := 14) rfl (by decide) rfl (C.w 4 rfl) dX8_ofInput_62 ?_
            refine v_iload_n C dX8_ofInput_65 rfl (lv_at hl 1 rfl) ?_
            refine v_iald C k_44 rfl (X8_isOne_in c_1) dX8_ofInput_66 ?_
            exact hret _ _ _ _ (Eq.symm ((if_neg c_1).trans ((if_neg c_2).trans ((if_neg c_3).trans ((if_neg c_4).trans ((if_pos c_5).trans rfl)))))) rfl dX8_ofInput_67
          · refine v_tabOut (tgt := 68) C dX8_ofInput_10 (by have h0 := lv_neT (a := 0) c_2 (by decide); have h1 := lv_neT (a := 1) c_3 (by decide); have h2 := lv_neT (a := 2) c_4 (by decide); have h3 := lv_neT (a := 3) c_5 (by decide); omega) (by decide) ?_
            refine v_bipush (v := (-2)) C dX8_ofInput_68 (by decide) ?_
            exact hret _ _ _ _ (Eq.symm ((if_neg c_1).trans ((if_neg c_2).trans ((if_neg c_3).trans ((if_neg c_4).trans ((if_neg c_5).trans rfl)))))) rfl dX8_ofInput_70
  · refine v_iconst (v := (-1)) C dX8_ofInput_7 (by decide) ?_
    exact hret _ _ _ _ (Eq.symm ((if_pos c_1).trans rfl)) rfl dX8_ofInput_8
theorem iX8_catcher_X8 : ∀ w ∈ wsX80, w ∈ wsX8_catcher := fun _ h => (List.mem_cons_of_mem _ (List.mem_append_right _ h))
theorem hv_X8_catcher : yX8_catcher.cls = RX8 ∧ yX8_catcher.cls ≠ "java/lang/invoke/MethodHandle" ∧ yX8_catcher.cls ≠ "java/lang/invoke/VarHandle" ∧ (parseMethodDescriptor yX8_catcher.desc).map (fun d => d.parameters.length) = some 4 := by decide +kernel
def X8_catcher_r (a1 : Int32) (a2 : Int32) (a3 : Int32) (a4 : Int32) : Int32 :=
  if X8_isOne_r a1 = 0 then
    (-1)
  else
    if X8_isOne_r a2 = 0 then
      (-1)
    else
      if X8_within_r a3 0 3 = 0 then
        (-2)
      else
        if X8_within_r a4 1 4 = 0 then
          (-2)
        else
          1
def X8_catcher_s (a1 : Int32) (a2 : Int32) (a3 : Int32) (a4 : Int32) (t : ct_St) : ct_St :=
  if X8_isOne_r a1 = 0 then
    t
  else
    if X8_isOne_r a2 = 0 then
      t
    else
      if X8_within_r a3 0 3 = 0 then
        t
      else
        if X8_within_r a4 1 4 = 0 then
          t
        else
          let t1 := us t 47 (ix a1) a2
          let t2 := us t1 48 (ix a1) a3
          let t3 := us t2 49 (ix a1) a4
          let t4 := us t3 50 (ix a1) 0
          let t5 := us t4 51 (ix a1) 0
          let t6 := us t5 52 (ix a1) 0
          let t7 := us t6 53 (ix a1) 0
          t7
set_option maxHeartbeats 4000000 in
set_option maxRecDepth 100000 in
theorem c_X8_catcher (l : Launch) (g : ct_G) (t : ct_St) (a1 : Int32) (a2 : Int32) (a3 : Int32) (a4 : Int32) : MI l g shG yX8_catcher wsX8_catcher (rmd 2) [.ref (g.2.1 30), .int a1, .int a2, .int a3, .int a4] t (X8_catcher_r a1 a2 a3 a4) (X8_catcher_s a1 a2 a3 a4 t) := by
  refine MI.of (own := RX8) (cc := cX8_catcher) (maxL := 5) rfl (by decide) rfl (Nat.le_of_ble_eq_true rfl) (fun p e s m args below meth cd A Q C hret ls hl => ?_)
  have hl : lv_has ls 5 [(0, .ref (g.2.1 30)), (1, .int a1), (2, .int a2), (3, .int a3), (4, .int a4)] := hl
  refine v_iload_n C dX8_catcher_0 rfl (lv_at hl 1 rfl) ?_
  refine v_scalli C (c_X8_isOne l g _ _) (va_cwS 1 C.2.2.2.2.1 gX8_catcher_X8_isOne rfl rfl rfl hs_X8_isOne ⟨Nat.le_of_ble_eq_true rfl, Nat.le_of_ble_eq_true rfl⟩) rfl hl.1 rfl (Nat.le_of_ble_eq_true rfl) dX8_catcher_1 ⟨Nat.le_refl _, Nat.le_refl _⟩ ?_
  refine v_if_eq (tgt := 14) C dX8_catcher_4 (by decide) (fun c_1 => ?_) (fun c_1 => ?_)
  · refine v_iconst (v := (-1)) C dX8_catcher_14 (by decide) ?_
    exact hret _ _ _ _ (Eq.symm ((if_pos c_1).trans rfl)) (Eq.symm ((if_pos c_1).trans rfl)) dX8_catcher_15
  · refine v_iload_n C dX8_catcher_7 rfl (lv_at hl 2 rfl) ?_
    refine v_scalli C (c_X8_isOne l g _ _) (va_cwS 1 C.2.2.2.2.1 gX8_catcher_X8_isOne rfl rfl rfl hs_X8_isOne ⟨Nat.le_of_ble_eq_true rfl, Nat.le_of_ble_eq_true rfl⟩) rfl hl.1 rfl (Nat.le_of_ble_eq_true rfl) dX8_catcher_8 ⟨Nat.le_refl _, Nat.le_refl _⟩ ?_
    refine v_if_ne (tgt := 16) C dX8_catcher_11 (by decide) (fun c_2 => ?_) (fun c_2 => ?_)
    · refine v_iload_n C dX8_catcher_16 rfl (lv_at hl 3 rfl) ?_
      refine v_iconst (v := 0) C dX8_catcher_17 (by decide) ?_
      refine v_iconst (v := 3) C dX8_catcher_18 (by decide) ?_
      refine v_scalli C (c_X8_within l g _ _ _ _) (va_cwS 3 C.2.2.2.2.1 gX8_catcher_X8_within rfl rfl rfl hs_X8_within ⟨Nat.le_of_ble_eq_true rfl, Nat.le_of_ble_eq_true rfl⟩) rfl hl.1 rfl (Nat.le_of_ble_eq_true rfl) dX8_catcher_19 ⟨Nat.le_refl _, Nat.le_refl _⟩ ?_
      refine v_if_eq (tgt := 35) C dX8_catcher_22 (by decide) (fun c_3 => ?_) (fun c_3 => ?_)
      · refine v_bipush (v := (-2)) C dX8_catcher_35 (by decide) ?_
        exact hret _ _ _ _ (Eq.symm ((if_neg c_1).trans ((if_neg c_2).trans ((if_pos c_3).trans rfl)))) (Eq.symm ((if_neg c_1).trans ((if_neg c_2).trans ((if_pos c_3).trans rfl)))) dX8_catcher_37
      · refine v_iload C dX8_catcher_25 (lv_at hl 4 rfl) ?_
        refine v_iconst (v := 1) C dX8_catcher_27 (by decide) ?_
        refine v_iconst (v := 4) C dX8_catcher_28 (by decide) ?_
        refine v_scalli C (c_X8_within l g _ _ _ _) (va_cwS 3 C.2.2.2.2.1 gX8_catcher_X8_within rfl rfl rfl hs_X8_within ⟨Nat.le_of_ble_eq_true rfl, Nat.le_of_ble_eq_true rfl⟩) rfl hl.1 rfl (Nat.le_of_ble_eq_true rfl) dX8_catcher_29 ⟨Nat.le_refl _, Nat.le_refl _⟩ ?_
        refine v_if_ne (tgt := 38) C dX8_catcher_32 (by decide) (fun c_4 => ?_) (fun c_4 => ?_)
        · refine v_aload_n C dX8_catcher_38 rfl (lv_at hl 0 rfl) ?_
          refine v_getR C iX8_catcher_X8 k_30 rfl rfl (j := 17) rfl (by decide) rfl (C.w 1 rfl) dX8_catcher_39 ?_
          refine v_iload_n C dX8_catcher_42 rfl (lv_at hl 1 rfl) ?_
          refine v_iload_n C dX8_catcher_43 rfl (lv_at hl 2 rfl) ?_
          refine v_iast C k_47 rfl (X8_isOne_in c_1) dX8_catcher_44 ?_
          refine v_aload_n C dX8_catcher_45 rfl (lv_at hl 0 rfl) ?_
          refine v_getR C iX8_catcher_X8 k_30 rfl rfl (j := 18) rfl (by decide) rfl (C.w 2 rfl) dX8_catcher_46 ?_
          refine v_iload_n C dX8_catcher_49 rfl (lv_at hl 1 rfl) ?_
          refine v_iload_n C dX8_catcher_50 rfl (lv_at hl 3 rfl) ?_
          refine v_iast C k_48 rfl (X8_isOne_in c_1) dX8_catcher_51 ?_
          refine v_aload_n C dX8_catcher_52 rfl (lv_at hl 0 rfl) ?_
          refine v_getR C iX8_catcher_X8 k_30 rfl rfl (j := 19) rfl (by decide) rfl (C.w 3 rfl) dX8_catcher_53 ?_
          refine v_iload_n C dX8_catcher_56 rfl (lv_at hl 1 rfl) ?_
          refine v_iload C dX8_catcher_57 (lv_at hl 4 rfl) ?_
          refine v_iast C k_49 rfl (X8_isOne_in c_1) dX8_catcher_59 ?_
          refine v_aload_n C dX8_catcher_60 rfl (lv_at hl 0 rfl) ?_
          refine v_getR C iX8_catcher_X8 k_30 rfl rfl (j := 20) rfl (by decide) rfl (C.w 4 rfl) dX8_catcher_61 ?_
          refine v_iload_n C dX8_catcher_64 rfl (lv_at hl 1 rfl) ?_
          refine v_iconst (v := 0) C dX8_catcher_65 (by decide) ?_
          refine v_iast C k_50 rfl (X8_isOne_in c_1) dX8_catcher_66 ?_
          refine v_aload_n C dX8_catcher_67 rfl (lv_at hl 0 rfl) ?_
          refine v_getR C iX8_catcher_X8 k_30 rfl rfl (j := 21) rfl (by decide) rfl (C.w 5 rfl) dX8_catcher_68 ?_
          refine v_iload_n C dX8_catcher_71 rfl (lv_at hl 1 rfl) ?_
          refine v_iconst (v := 0) C dX8_catcher_72 (by decide) ?_
          refine v_iast C k_51 rfl (X8_isOne_in c_1) dX8_catcher_73 ?_
          refine v_aload_n C dX8_catcher_74 rfl (lv_at hl 0 rfl) ?_
          refine v_getR C iX8_catcher_X8 k_30 rfl rfl (j := 22) rfl (by decide) rfl (C.w 6 rfl) dX8_catcher_75 ?_
          refine v_iload_n C dX8_catcher_78 rfl (lv_at hl 1 rfl) ?_
          refine v_iconst (v := 0) C dX8_catcher_79 (by decide) ?_
          refine v_iast C k_52 rfl (X8_isOne_in c_1) dX8_catcher_80 ?_
          refine v_aload_n C dX8_catcher_81 rfl (lv_at hl 0 rfl) ?_
          refine v_getR C iX8_catcher_X8 k_30 rfl rfl (j := 23) rfl (by decide) rfl (C.w 7 rfl) dX8_catcher_82 ?_
          refine v_iload_n C dX8_catcher_85 rfl (lv_at hl 1 rfl) ?_
          refine v_iconst (v := 0) C dX8_catcher_86 (by decide) ?_
          refine v_iast C k_53 rfl (X8_isOne_in c_1) dX8_catcher_87 ?_
          refine v_iconst (v := 1) C dX8_catcher_88 (by decide) ?_
          exact hret _ _ _ _ (Eq.symm ((if_neg c_1).trans ((if_neg c_2).trans ((if_neg c_3).trans ((if_neg c_4).trans rfl))))) (Eq.symm ((if_neg c_1).trans ((if_neg c_2).trans ((if_neg c_3).trans ((if_neg c_4).trans rfl))))) dX8_catcher_89
        · refine v_bipush (v := (-2)) C dX8_catcher_35 (by decide) ?_
          exact hret _ _ _ _ (Eq.symm ((if_neg c_1).trans ((if_neg c_2).trans ((if_neg c_3).trans ((if_pos c_4).trans rfl))))) (Eq.symm ((if_neg c_1).trans ((if_neg c_2).trans ((if_neg c_3).trans ((if_pos c_4).trans rfl))))) dX8_catcher_37
    · refine v_iconst (v := (-1)) C dX8_catcher_14 (by decide) ?_
      exact hret _ _ _ _ (Eq.symm ((if_neg c_1).trans ((if_pos c_2).trans rfl))) (Eq.symm ((if_neg c_1).trans ((if_pos c_2).trans rfl))) dX8_catcher_15
theorem X8_catcher_s_fr (a1 : Int32) (a2 : Int32) (a3 : Int32) (a4 : Int32) (t : ct_St) {r : Nat} (h47 : r ≠ 47) (h48 : r ≠ 48) (h49 : r ≠ 49) (h50 : r ≠ 50) (h51 : r ≠ 51) (h52 : r ≠ 52) (h53 : r ≠ 53) : X8_catcher_s a1 a2 a3 a4 t r = t r := by
  dsimp only [X8_catcher_s]
  (repeat' split) <;> simp only [us_ne, ur_ne, h47, h48, h49, h50, h51, h52, h53, ne_eq, not_false_eq_true]
theorem iX8_taken_X8 : ∀ w ∈ wsX80, w ∈ wsX8_taken := fun _ h => (List.mem_cons_of_mem _ (List.mem_append_right _ h))
theorem hv_X8_taken : yX8_taken.cls = RX8 ∧ yX8_taken.cls ≠ "java/lang/invoke/MethodHandle" ∧ yX8_taken.cls ≠ "java/lang/invoke/VarHandle" ∧ (parseMethodDescriptor yX8_taken.desc).map (fun d => d.parameters.length) = some 1 := by decide +kernel
def X8_taken_r (a1 : Int32) (t : ct_St) : Int32 :=
  if X8_isOne_r a1 = 0 then
    (-1)
  else
    if t 52 (ix a1) = 0 then
      (-9)
    else
      let t1 := us t 52 (ix a1) 0
      t1 51 (ix a1)
def X8_taken_s (a1 : Int32) (t : ct_St) : ct_St :=
  if X8_isOne_r a1 = 0 then
    t
  else
    if t 52 (ix a1) = 0 then
      t
    else
      let t1 := us t 52 (ix a1) 0
      t1
set_option maxHeartbeats 4000000 in
set_option maxRecDepth 100000 in
theorem c_X8_taken (l : Launch) (g : ct_G) (t : ct_St) (a1 : Int32) : MI l g shG yX8_taken wsX8_taken (rmd 2) [.ref (g.2.1 30), .int a1] t (X8_taken_r a1 t) (X8_taken_s a1 t) := by
  refine MI.of (own := RX8) (cc := cX8_taken) (maxL := 2) rfl (by decide) rfl (Nat.le_of_ble_eq_true rfl) (fun p e s m args below meth cd A Q C hret ls hl => ?_)
  have hl : lv_has ls 2 [(0, .ref (g.2.1 30)), (1, .int a1)] := hl
  refine v_iload_n C dX8_taken_0 rfl (lv_at hl 1 rfl) ?_
  refine v_scalli C (c_X8_isOne l g _ _) (va_cwS 1 C.2.2.2.2.1 gX8_taken_X8_isOne rfl rfl rfl hs_X8_isOne ⟨Nat.le_of_ble_eq_true rfl, Nat.le_of_ble_eq_true rfl⟩) rfl hl.1 rfl (Nat.le_of_ble_eq_true rfl) dX8_taken_1 ⟨Nat.le_refl _, Nat.le_refl _⟩ ?_
  refine v_if_ne (tgt := 9) C dX8_taken_4 (by decide) (fun c_1 => ?_) (fun c_1 => ?_)
  · refine v_aload_n C dX8_taken_9 rfl (lv_at hl 0 rfl) ?_
    refine v_getR C iX8_taken_X8 k_30 rfl rfl (j := 22) rfl (by decide) rfl (C.w 1 rfl) dX8_taken_10 ?_
    refine v_iload_n C dX8_taken_13 rfl (lv_at hl 1 rfl) ?_
    refine v_iald C k_52 rfl (X8_isOne_in c_1) dX8_taken_14 ?_
    refine v_if_ne (tgt := 21) C dX8_taken_15 (by decide) (fun c_2 => ?_) (fun c_2 => ?_)
    · refine v_aload_n C dX8_taken_21 rfl (lv_at hl 0 rfl) ?_
      refine v_getR C iX8_taken_X8 k_30 rfl rfl (j := 22) rfl (by decide) rfl (C.w 1 rfl) dX8_taken_22 ?_
      refine v_iload_n C dX8_taken_25 rfl (lv_at hl 1 rfl) ?_
      refine v_iconst (v := 0) C dX8_taken_26 (by decide) ?_
      refine v_iast C k_52 rfl (X8_isOne_in c_1) dX8_taken_27 ?_
      refine v_aload_n C dX8_taken_28 rfl (lv_at hl 0 rfl) ?_
      refine v_getR C iX8_taken_X8 k_30 rfl rfl (j := 21) rfl (by decide) rfl (C.w 2 rfl) dX8_taken_29 ?_
      refine v_iload_n C dX8_taken_32 rfl (lv_at hl 1 rfl) ?_
      refine v_iald C k_51 rfl (X8_isOne_in c_1) dX8_taken_33 ?_
      exact hret _ _ _ _ (Eq.symm ((if_neg c_1).trans ((if_neg c_2).trans rfl))) (Eq.symm ((if_neg c_1).trans ((if_neg c_2).trans rfl))) dX8_taken_34
    · refine v_bipush (v := (-9)) C dX8_taken_18 (by decide) ?_
      exact hret _ _ _ _ (Eq.symm ((if_neg c_1).trans ((if_pos c_2).trans rfl))) (Eq.symm ((if_neg c_1).trans ((if_pos c_2).trans rfl))) dX8_taken_20
  · refine v_iconst (v := (-1)) C dX8_taken_7 (by decide) ?_
    exact hret _ _ _ _ (Eq.symm ((if_pos c_1).trans rfl)) (Eq.symm ((if_pos c_1).trans rfl)) dX8_taken_8
theorem X8_taken_s_fr (a1 : Int32) (t : ct_St) {r : Nat} (h52 : r ≠ 52) : X8_taken_s a1 t r = t r := by
  dsimp only [X8_taken_s]
  (repeat' split) <;> simp only [us_ne, ur_ne, h52, ne_eq, not_false_eq_true]
theorem iX8_ofCatcher_X8 : ∀ w ∈ wsX80, w ∈ wsX8_ofCatcher := fun _ h => (List.mem_cons_of_mem _ (List.mem_append_right _ h))
theorem hv_X8_ofCatcher : yX8_ofCatcher.cls = RX8 ∧ yX8_ofCatcher.cls ≠ "java/lang/invoke/MethodHandle" ∧ yX8_ofCatcher.cls ≠ "java/lang/invoke/VarHandle" ∧ (parseMethodDescriptor yX8_ofCatcher.desc).map (fun d => d.parameters.length) = some 2 := by decide +kernel
def X8_ofCatcher_r (a1 : Int32) (a2 : Int32) (t : ct_St) : Int32 :=
  if X8_isOne_r a1 = 0 then
    (-1)
  else
    if a2 = 0 then
      t 47 (ix a1)
    else
      if a2 = 1 then
        t 48 (ix a1)
      else
        if a2 = 2 then
          t 49 (ix a1)
        else
          if a2 = 3 then
            t 50 (ix a1)
          else
            if a2 = 4 then
              t 51 (ix a1)
            else
              if a2 = 5 then
                t 52 (ix a1)
              else
                if a2 = 6 then
                  t 53 (ix a1)
                else
                  (-2)
set_option maxHeartbeats 4000000 in
set_option maxRecDepth 100000 in
theorem c_X8_ofCatcher (l : Launch) (g : ct_G) (t : ct_St) (a1 : Int32) (a2 : Int32) : MI l g shG yX8_ofCatcher wsX8_ofCatcher (rmd 2) [.ref (g.2.1 30), .int a1, .int a2] t (X8_ofCatcher_r a1 a2 t) t := by
  refine MI.of (own := RX8) (cc := cX8_ofCatcher) (maxL := 3) rfl (by decide) rfl (Nat.le_of_ble_eq_true rfl) (fun p e s m args below meth cd A Q C hret ls hl => ?_)
  have hl : lv_has ls 3 [(0, .ref (g.2.1 30)), (1, .int a1), (2, .int a2)] := hl
  refine v_iload_n C dX8_ofCatcher_0 rfl (lv_at hl 1 rfl) ?_
  refine v_scalli C (c_X8_isOne l g _ _) (va_cwS 1 C.2.2.2.2.1 gX8_ofCatcher_X8_isOne rfl rfl rfl hs_X8_isOne ⟨Nat.le_of_ble_eq_true rfl, Nat.le_of_ble_eq_true rfl⟩) rfl hl.1 rfl (Nat.le_of_ble_eq_true rfl) dX8_ofCatcher_1 ⟨Nat.le_refl _, Nat.le_refl _⟩ ?_
  refine v_if_ne (tgt := 9) C dX8_ofCatcher_4 (by decide) (fun c_1 => ?_) (fun c_1 => ?_)
  · refine v_iload_n C dX8_ofCatcher_9 rfl (lv_at hl 2 rfl) ?_
    refine v_by (v := 0) (fun c_2 => ?_) (fun c_2 => ?_)
    · refine v_tabIn (off := 42) (tgt := 52) C dX8_ofCatcher_10 c_2 (by decide) (by decide) (by decide) (by decide) ?_
      refine v_aload_n C dX8_ofCatcher_52 rfl (lv_at hl 0 rfl) ?_
      refine v_getR C iX8_ofCatcher_X8 k_30 rfl rfl (j := 17) rfl (by decide) rfl (C.w 1 rfl) dX8_ofCatcher_53 ?_
      refine v_iload_n C dX8_ofCatcher_56 rfl (lv_at hl 1 rfl) ?_
      refine v_iald C k_47 rfl (X8_isOne_in c_1) dX8_ofCatcher_57 ?_
      exact hret _ _ _ _ (Eq.symm ((if_neg c_1).trans ((if_pos c_2).trans rfl))) rfl dX8_ofCatcher_58
    · refine v_by (v := 1) (fun c_3 => ?_) (fun c_3 => ?_)
      · refine v_tabIn (off := 49) (tgt := 59) C dX8_ofCatcher_10 c_3 (by decide) (by decide) (by decide) (by decide) ?_
        refine v_aload_n C dX8_ofCatcher_59 rfl (lv_at hl 0 rfl) ?_
        refine v_getR C iX8_ofCatcher_X8 k_30 rfl rfl (j := 18) rfl (by decide) rfl (C.w 2 rfl) dX8_ofCatcher_60 ?_
        refine v_iload_n C dX8_ofCatcher_63 rfl (lv_at hl 1 rfl) ?_
        refine v_iald C k_48 rfl (X8_isOne_in c_1) dX8_ofCatcher_64 ?_
        exact hret _ _ _ _ (Eq.symm ((if_neg c_1).trans ((if_neg c_2).trans ((if_pos c_3).trans rfl)))) rfl dX8_ofCatcher_65
      · refine v_by (v := 2) (fun c_4 => ?_) (fun c_4 => ?_)
        · refine v_tabIn (off := 56) (tgt := 66) C dX8_ofCatcher_10 c_4 (by decide) (by decide) (by decide) (by decide) ?_
          refine v_aload_n C dX8_ofCatcher_66 rfl (lv_at hl 0 rfl) ?_
          refine v_getR C iX8_ofCatcher_X8 k_30 rfl rfl (j := 19) rfl (by decide) rfl (C.w 3 rfl) dX8_ofCatcher_67 ?_
          refine v_iload_n C dX8_ofCatcher_70 rfl (lv_at hl 1 rfl) ?_
          refine v_iald C k_49 rfl (X8_isOne_in c_1) dX8_ofCatcher_71 ?_
          exact hret _ _ _ _ (Eq.symm ((if_neg c_1).trans ((if_neg c_2).trans ((if_neg c_3).trans ((if_pos c_4).trans rfl))))) rfl dX8_ofCatcher_72
        · refine v_by (v := 3) (fun c_5 => ?_) (fun c_5 => ?_)
          · refine v_tabIn (off := 63) (tgt := 73) C dX8_ofCatcher_10 c_5 (by decide) (by decide) (by decide) (by decide) ?_
            refine v_aload_n C dX8_ofCatcher_73 rfl (lv_at hl 0 rfl) ?_
            refine v_getR C iX8_ofCatcher_X8 k_30 rfl rfl (j := 20) rfl (by decide) rfl (C.w 4 rfl) dX8_ofCatcher_74 ?_
            refine v_iload_n C dX8_ofCatcher_77 rfl (lv_at hl 1 rfl) ?_
            refine v_iald C k_50 rfl (X8_isOne_in c_1) dX8_ofCatcher_78 ?_
            exact hret _ _ _ _ (Eq.symm ((if_neg c_1).trans ((if_neg c_2).trans ((if_neg c_3).trans ((if_neg c_4).trans ((if_pos c_5).trans rfl)))))) rfl dX8_ofCatcher_79
          · refine v_by (v := 4) (fun c_6 => ?_) (fun c_6 => ?_)
            · refine v_tabIn (off := 70) (tgt := 80) C dX8_ofCatcher_10 c_6 (by decide) (by decide) (by decide) (by decide) ?_
              refine v_aload_n C dX8_ofCatcher_80 rfl (lv_at hl 0 rfl) ?_
              refine v_getR C iX8_ofCatcher_X8 k_30 rfl rfl (j := 21) rfl (by decide) rfl (C.w 5 rfl) dX8_ofCatcher_81 ?_
              refine v_iload_n C dX8_ofCatcher_84 rfl (lv_at hl 1 rfl) ?_
              refine v_iald C k_51 rfl (X8_isOne_in c_1) dX8_ofCatcher_85 ?_
              exact hret _ _ _ _ (Eq.symm ((if_neg c_1).trans ((if_neg c_2).trans ((if_neg c_3).trans ((if_neg c_4).trans ((if_neg c_5).trans ((if_pos c_6).trans rfl))))))) rfl dX8_ofCatcher_86
            · refine v_by (v := 5) (fun c_7 => ?_) (fun c_7 => ?_)
              · refine v_tabIn (off := 77) (tgt := 87) C dX8_ofCatcher_10 c_7 (by decide) (by decide) (by decide) (by decide) ?_
                refine v_aload_n C dX8_ofCatcher_87 rfl (lv_at hl 0 rfl) ?_
                refine v_getR C iX8_ofCatcher_X8 k_30 rfl rfl (j := 22) rfl (by decide) rfl (C.w 6 rfl) dX8_ofCatcher_88 ?_
                refine v_iload_n C dX8_ofCatcher_91 rfl (lv_at hl 1 rfl) ?_
                refine v_iald C k_52 rfl (X8_isOne_in c_1) dX8_ofCatcher_92 ?_
                exact hret _ _ _ _ (Eq.symm ((if_neg c_1).trans ((if_neg c_2).trans ((if_neg c_3).trans ((if_neg c_4).trans ((if_neg c_5).trans ((if_neg c_6).trans ((if_pos c_7).trans rfl)))))))) rfl dX8_ofCatcher_93
              · refine v_by (v := 6) (fun c_8 => ?_) (fun c_8 => ?_)
                · refine v_tabIn (off := 84) (tgt := 94) C dX8_ofCatcher_10 c_8 (by decide) (by decide) (by decide) (by decide) ?_
                  refine v_aload_n C dX8_ofCatcher_94 rfl (lv_at hl 0 rfl) ?_
                  refine v_getR C iX8_ofCatcher_X8 k_30 rfl rfl (j := 23) rfl (by decide) rfl (C.w 7 rfl) dX8_ofCatcher_95 ?_
                  refine v_iload_n C dX8_ofCatcher_98 rfl (lv_at hl 1 rfl) ?_
                  refine v_iald C k_53 rfl (X8_isOne_in c_1) dX8_ofCatcher_99 ?_
                  exact hret _ _ _ _ (Eq.symm ((if_neg c_1).trans ((if_neg c_2).trans ((if_neg c_3).trans ((if_neg c_4).trans ((if_neg c_5).trans ((if_neg c_6).trans ((if_neg c_7).trans ((if_pos c_8).trans rfl))))))))) rfl dX8_ofCatcher_100
                · refine v_tabOut (tgt := 101) C dX8_ofCatcher_10 (by have h0 := lv_neT (a := 0) c_2 (by decide); have h1 := lv_neT (a := 1) c_3 (by decide); have h2 := lv_neT (a := 2) c_4 (by decide); have h3 := lv_neT (a := 3) c_5 (by decide); have h4 := lv_neT (a := 4) c_6 (by decide); have h5 := lv_neT (a := 5) c_7 (by decide); have h6 := lv_neT (a := 6) c_8 (by decide); omega) (by decide) ?_
                  refine v_bipush (v := (-2)) C dX8_ofCatcher_101 (by decide) ?_
                  exact hret _ _ _ _ (Eq.symm ((if_neg c_1).trans ((if_neg c_2).trans ((if_neg c_3).trans ((if_neg c_4).trans ((if_neg c_5).trans ((if_neg c_6).trans ((if_neg c_7).trans ((if_neg c_8).trans rfl))))))))) rfl dX8_ofCatcher_103
  · refine v_iconst (v := (-1)) C dX8_ofCatcher_7 (by decide) ?_
    exact hret _ _ _ _ (Eq.symm ((if_pos c_1).trans rfl)) rfl dX8_ofCatcher_8
theorem iX8_channel_X8 : ∀ w ∈ wsX80, w ∈ wsX8_channel := fun _ h => (List.mem_cons_of_mem _ (List.mem_append_right _ h))
theorem okM_54 {t : ct_St} {k : Nat} {v : Int32} (h : okM t) (hv : vp_in v 4) : okM (us t 54 k v) := by
  unfold okM
  rw [us_ne (a := 34) (by decide), us_ne (a := 41) (by decide), us_ne (a := 49) (by decide), us_ne (a := 47) (by decide), us_ne (a := 30) (by decide), us_at]
  refine ⟨h.1, h.2.1, h.2.2.1, h.2.2.2.1, fun j hj => ?_, h.2.2.2.2.2⟩
  unfold upd
  split
  · exact hv
  · exact h.2.2.2.2.1 j hj
theorem hv_X8_channel : yX8_channel.cls = RX8 ∧ yX8_channel.cls ≠ "java/lang/invoke/MethodHandle" ∧ yX8_channel.cls ≠ "java/lang/invoke/VarHandle" ∧ (parseMethodDescriptor yX8_channel.desc).map (fun d => d.parameters.length) = some 4 := by decide +kernel
def X8_channel_r (a1 : Int32) (a2 : Int32) (a3 : Int32) (a4 : Int32) : Int32 :=
  if X8_isOne_r a1 = 0 then
    (-1)
  else
    if X8_isOne_r a2 = 0 then
      (-1)
    else
      if X8_within_r a3 0 4 = 0 then
        (-2)
      else
        if X8_within_r a4 0 9999 = 0 then
          (-2)
        else
          1
def X8_channel_s (a1 : Int32) (a2 : Int32) (a3 : Int32) (a4 : Int32) (t : ct_St) : ct_St :=
  if X8_isOne_r a1 = 0 then
    t
  else
    if X8_isOne_r a2 = 0 then
      t
    else
      if X8_within_r a3 0 4 = 0 then
        t
      else
        if X8_within_r a4 0 9999 = 0 then
          t
        else
          let t1 := us t 54 (ix a1) a2
          let t2 := us t1 55 (ix a1) a3
          let t3 := us t2 56 (ix a1) a4
          let t4 := us t3 57 (ix a1) 0
          let t5 := us t4 58 (ix a1) 0
          let t6 := X8_pins_s t5
          t6
set_option maxHeartbeats 4000000 in
set_option maxRecDepth 100000 in
theorem c_X8_channel (l : Launch) (g : ct_G) (t : ct_St) (a1 : Int32) (a2 : Int32) (a3 : Int32) (a4 : Int32) (hc : okM t) : MI l g shG yX8_channel wsX8_channel (rmd 3) [.ref (g.2.1 30), .int a1, .int a2, .int a3, .int a4] t (X8_channel_r a1 a2 a3 a4) (X8_channel_s a1 a2 a3 a4 t) := by
  refine MI.of (own := RX8) (cc := cX8_channel) (maxL := 5) rfl (by decide) rfl (Nat.le_of_ble_eq_true rfl) (fun p e s m args below meth cd A Q C hret ls hl => ?_)
  have hl : lv_has ls 5 [(0, .ref (g.2.1 30)), (1, .int a1), (2, .int a2), (3, .int a3), (4, .int a4)] := hl
  refine v_iload_n C dX8_channel_0 rfl (lv_at hl 1 rfl) ?_
  refine v_scalli C (c_X8_isOne l g _ _) (va_cwS 1 C.2.2.2.2.1 gX8_channel_X8_isOne rfl rfl rfl hs_X8_isOne ⟨Nat.le_of_ble_eq_true rfl, Nat.le_of_ble_eq_true rfl⟩) rfl hl.1 rfl (Nat.le_of_ble_eq_true rfl) dX8_channel_1 ⟨Nat.le_refl _, Nat.le_refl _⟩ ?_
  refine v_if_eq (tgt := 14) C dX8_channel_4 (by decide) (fun c_1 => ?_) (fun c_1 => ?_)
  · refine v_iconst (v := (-1)) C dX8_channel_14 (by decide) ?_
    exact hret _ _ _ _ (Eq.symm ((if_pos c_1).trans rfl)) (Eq.symm ((if_pos c_1).trans rfl)) dX8_channel_15
  · refine v_iload_n C dX8_channel_7 rfl (lv_at hl 2 rfl) ?_
    refine v_scalli C (c_X8_isOne l g _ _) (va_cwS 1 C.2.2.2.2.1 gX8_channel_X8_isOne rfl rfl rfl hs_X8_isOne ⟨Nat.le_of_ble_eq_true rfl, Nat.le_of_ble_eq_true rfl⟩) rfl hl.1 rfl (Nat.le_of_ble_eq_true rfl) dX8_channel_8 ⟨Nat.le_refl _, Nat.le_refl _⟩ ?_
    refine v_if_ne (tgt := 16) C dX8_channel_11 (by decide) (fun c_2 => ?_) (fun c_2 => ?_)
    · refine v_iload_n C dX8_channel_16 rfl (lv_at hl 3 rfl) ?_
      refine v_iconst (v := 0) C dX8_channel_17 (by decide) ?_
      refine v_iconst (v := 4) C dX8_channel_18 (by decide) ?_
      refine v_scalli C (c_X8_within l g _ _ _ _) (va_cwS 3 C.2.2.2.2.1 gX8_channel_X8_within rfl rfl rfl hs_X8_within ⟨Nat.le_of_ble_eq_true rfl, Nat.le_of_ble_eq_true rfl⟩) rfl hl.1 rfl (Nat.le_of_ble_eq_true rfl) dX8_channel_19 ⟨Nat.le_refl _, Nat.le_refl _⟩ ?_
      refine v_if_eq (tgt := 37) C dX8_channel_22 (by decide) (fun c_3 => ?_) (fun c_3 => ?_)
      · refine v_bipush (v := (-2)) C dX8_channel_37 (by decide) ?_
        exact hret _ _ _ _ (Eq.symm ((if_neg c_1).trans ((if_neg c_2).trans ((if_pos c_3).trans rfl)))) (Eq.symm ((if_neg c_1).trans ((if_neg c_2).trans ((if_pos c_3).trans rfl)))) dX8_channel_39
      · refine v_iload C dX8_channel_25 (lv_at hl 4 rfl) ?_
        refine v_iconst (v := 0) C dX8_channel_27 (by decide) ?_
        refine v_sipush (v := 9999) C dX8_channel_28 (by decide) ?_
        refine v_scalli C (c_X8_within l g _ _ _ _) (va_cwS 3 C.2.2.2.2.1 gX8_channel_X8_within rfl rfl rfl hs_X8_within ⟨Nat.le_of_ble_eq_true rfl, Nat.le_of_ble_eq_true rfl⟩) rfl hl.1 rfl (Nat.le_of_ble_eq_true rfl) dX8_channel_31 ⟨Nat.le_refl _, Nat.le_refl _⟩ ?_
        refine v_if_ne (tgt := 40) C dX8_channel_34 (by decide) (fun c_4 => ?_) (fun c_4 => ?_)
        · refine v_aload_n C dX8_channel_40 rfl (lv_at hl 0 rfl) ?_
          refine v_getR C iX8_channel_X8 k_30 rfl rfl (j := 24) rfl (by decide) rfl (C.w 1 rfl) dX8_channel_41 ?_
          refine v_iload_n C dX8_channel_44 rfl (lv_at hl 1 rfl) ?_
          refine v_iload_n C dX8_channel_45 rfl (lv_at hl 2 rfl) ?_
          refine v_iast C k_54 rfl (X8_isOne_in c_1) dX8_channel_46 ?_
          refine v_aload_n C dX8_channel_47 rfl (lv_at hl 0 rfl) ?_
          refine v_getR C iX8_channel_X8 k_30 rfl rfl (j := 25) rfl (by decide) rfl (C.w 2 rfl) dX8_channel_48 ?_
          refine v_iload_n C dX8_channel_51 rfl (lv_at hl 1 rfl) ?_
          refine v_iload_n C dX8_channel_52 rfl (lv_at hl 3 rfl) ?_
          refine v_iast C k_55 rfl (X8_isOne_in c_1) dX8_channel_53 ?_
          refine v_aload_n C dX8_channel_54 rfl (lv_at hl 0 rfl) ?_
          refine v_getR C iX8_channel_X8 k_30 rfl rfl (j := 26) rfl (by decide) rfl (C.w 3 rfl) dX8_channel_55 ?_
          refine v_iload_n C dX8_channel_58 rfl (lv_at hl 1 rfl) ?_
          refine v_iload C dX8_channel_59 (lv_at hl 4 rfl) ?_
          refine v_iast C k_56 rfl (X8_isOne_in c_1) dX8_channel_61 ?_
          refine v_aload_n C dX8_channel_62 rfl (lv_at hl 0 rfl) ?_
          refine v_getR C iX8_channel_X8 k_30 rfl rfl (j := 27) rfl (by decide) rfl (C.w 4 rfl) dX8_channel_63 ?_
          refine v_iload_n C dX8_channel_66 rfl (lv_at hl 1 rfl) ?_
          refine v_iconst (v := 0) C dX8_channel_67 (by decide) ?_
          refine v_iast C k_57 rfl (X8_isOne_in c_1) dX8_channel_68 ?_
          refine v_aload_n C dX8_channel_69 rfl (lv_at hl 0 rfl) ?_
          refine v_getR C iX8_channel_X8 k_30 rfl rfl (j := 28) rfl (by decide) rfl (C.w 5 rfl) dX8_channel_70 ?_
          refine v_iload_n C dX8_channel_73 rfl (lv_at hl 1 rfl) ?_
          refine v_iconst (v := 0) C dX8_channel_74 (by decide) ?_
          refine v_iast C k_58 rfl (X8_isOne_in c_1) dX8_channel_75 ?_
          refine v_aload_n C dX8_channel_76 rfl (lv_at hl 0 rfl) ?_
          refine v_callv C (c_X8_pins l g _ (okM_ne (okM_ne (okM_ne (okM_ne (okM_54 hc (X8_isOne_in c_2)) (by decide) (by decide) (by decide) (by decide) (by decide) (by decide)) (by decide) (by decide) (by decide) (by decide) (by decide) (by decide)) (by decide) (by decide) (by decide) (by decide) (by decide) (by decide)) (by decide) (by decide) (by decide) (by decide) (by decide) (by decide))) (cwV 0 C.2.2.2.2.1 gX8_channel_X8_pins rfl rfl rfl hv_X8_pins ⟨Nat.le_of_ble_eq_true rfl, Nat.le_of_ble_eq_true rfl⟩) k_30 rfl rfl rfl rfl hl.1 rfl (Nat.le_of_ble_eq_true rfl) dX8_channel_77 ⟨Nat.le_refl _, Nat.le_refl _⟩ ?_
          refine v_iconst (v := 1) C dX8_channel_80 (by decide) ?_
          exact hret _ _ _ _ (Eq.symm ((if_neg c_1).trans ((if_neg c_2).trans ((if_neg c_3).trans ((if_neg c_4).trans rfl))))) (Eq.symm ((if_neg c_1).trans ((if_neg c_2).trans ((if_neg c_3).trans ((if_neg c_4).trans rfl))))) dX8_channel_81
        · refine v_bipush (v := (-2)) C dX8_channel_37 (by decide) ?_
          exact hret _ _ _ _ (Eq.symm ((if_neg c_1).trans ((if_neg c_2).trans ((if_neg c_3).trans ((if_pos c_4).trans rfl))))) (Eq.symm ((if_neg c_1).trans ((if_neg c_2).trans ((if_neg c_3).trans ((if_pos c_4).trans rfl))))) dX8_channel_39
    · refine v_iconst (v := (-1)) C dX8_channel_14 (by decide) ?_
      exact hret _ _ _ _ (Eq.symm ((if_neg c_1).trans ((if_pos c_2).trans rfl))) (Eq.symm ((if_neg c_1).trans ((if_pos c_2).trans rfl))) dX8_channel_15
theorem X8_channel_s_fr (a1 : Int32) (a2 : Int32) (a3 : Int32) (a4 : Int32) (t : ct_St) {r : Nat} (h30 : r ≠ 30) (h54 : r ≠ 54) (h55 : r ≠ 55) (h56 : r ≠ 56) (h57 : r ≠ 57) (h58 : r ≠ 58) (h62 : r ≠ 62) (h63 : r ≠ 63) (h64 : r ≠ 64) (h65 : r ≠ 65) : X8_channel_s a1 a2 a3 a4 t r = t r := by
  dsimp only [X8_channel_s]
  (repeat' split) <;> simp only [us_ne, ur_ne, h30, h54, h55, h56, h57, h58, h62, h63, h64, h65, ne_eq, not_false_eq_true, X8_pins_s_fr]
theorem iX8_outputs_X8 : ∀ w ∈ wsX80, w ∈ wsX8_outputs := fun _ h => (List.mem_cons_of_mem _ (List.mem_append_right _ h))
theorem hv_X8_outputs : yX8_outputs.cls = RX8 ∧ yX8_outputs.cls ≠ "java/lang/invoke/MethodHandle" ∧ yX8_outputs.cls ≠ "java/lang/invoke/VarHandle" ∧ (parseMethodDescriptor yX8_outputs.desc).map (fun d => d.parameters.length) = some 4 := by decide +kernel
def X8_outputs_r (a1 : Int32) (a2 : Int32) (a3 : Int32) (a4 : Int32) : Int32 :=
  if X8_isOne_r a1 = 0 then
    (-1)
  else
    if X8_within_r a2 0 20 = 0 then
      (-2)
    else
      if X8_within_r a3 0 3 = 0 then
        (-2)
      else
        if X8_within_r a4 0 3 = 0 then
          (-2)
        else
          1
def X8_outputs_s (a1 : Int32) (a2 : Int32) (a3 : Int32) (a4 : Int32) (t : ct_St) : ct_St :=
  if X8_isOne_r a1 = 0 then
    t
  else
    if X8_within_r a2 0 20 = 0 then
      t
    else
      if X8_within_r a3 0 3 = 0 then
        t
      else
        if X8_within_r a4 0 3 = 0 then
          t
        else
          let t1 := us t 59 (ix a1) a2
          let t2 := us t1 60 (ix a1) a3
          let t3 := us t2 61 (ix a1) a4
          let t4 := X8_pins_s t3
          t4
set_option maxHeartbeats 4000000 in
set_option maxRecDepth 100000 in
theorem c_X8_outputs (l : Launch) (g : ct_G) (t : ct_St) (a1 : Int32) (a2 : Int32) (a3 : Int32) (a4 : Int32) (hc : okM t) : MI l g shG yX8_outputs wsX8_outputs (rmd 3) [.ref (g.2.1 30), .int a1, .int a2, .int a3, .int a4] t (X8_outputs_r a1 a2 a3 a4) (X8_outputs_s a1 a2 a3 a4 t) := by
  refine MI.of (own := RX8) (cc := cX8_outputs) (maxL := 5) rfl (by decide) rfl (Nat.le_of_ble_eq_true rfl) (fun p e s m args below meth cd A Q C hret ls hl => ?_)
  have hl : lv_has ls 5 [(0, .ref (g.2.1 30)), (1, .int a1), (2, .int a2), (3, .int a3), (4, .int a4)] := hl
  refine v_iload_n C dX8_outputs_0 rfl (lv_at hl 1 rfl) ?_
  refine v_scalli C (c_X8_isOne l g _ _) (va_cwS 1 C.2.2.2.2.1 gX8_outputs_X8_isOne rfl rfl rfl hs_X8_isOne ⟨Nat.le_of_ble_eq_true rfl, Nat.le_of_ble_eq_true rfl⟩) rfl hl.1 rfl (Nat.le_of_ble_eq_true rfl) dX8_outputs_1 ⟨Nat.le_refl _, Nat.le_refl _⟩ ?_
  refine v_if_ne (tgt := 9) C dX8_outputs_4 (by decide) (fun c_1 => ?_) (fun c_1 => ?_)
  · refine v_iload_n C dX8_outputs_9 rfl (lv_at hl 2 rfl) ?_
    refine v_iconst (v := 0) C dX8_outputs_10 (by decide) ?_
    refine v_bipush (v := 20) C dX8_outputs_11 (by decide) ?_
    refine v_scalli C (c_X8_within l g _ _ _ _) (va_cwS 3 C.2.2.2.2.1 gX8_outputs_X8_within rfl rfl rfl hs_X8_within ⟨Nat.le_of_ble_eq_true rfl, Nat.le_of_ble_eq_true rfl⟩) rfl hl.1 rfl (Nat.le_of_ble_eq_true rfl) dX8_outputs_13 ⟨Nat.le_refl _, Nat.le_refl _⟩ ?_
    refine v_if_eq (tgt := 38) C dX8_outputs_16 (by decide) (fun c_2 => ?_) (fun c_2 => ?_)
    · refine v_bipush (v := (-2)) C dX8_outputs_38 (by decide) ?_
      exact hret _ _ _ _ (Eq.symm ((if_neg c_1).trans ((if_pos c_2).trans rfl))) (Eq.symm ((if_neg c_1).trans ((if_pos c_2).trans rfl))) dX8_outputs_40
    · refine v_iload_n C dX8_outputs_19 rfl (lv_at hl 3 rfl) ?_
      refine v_iconst (v := 0) C dX8_outputs_20 (by decide) ?_
      refine v_iconst (v := 3) C dX8_outputs_21 (by decide) ?_
      refine v_scalli C (c_X8_within l g _ _ _ _) (va_cwS 3 C.2.2.2.2.1 gX8_outputs_X8_within rfl rfl rfl hs_X8_within ⟨Nat.le_of_ble_eq_true rfl, Nat.le_of_ble_eq_true rfl⟩) rfl hl.1 rfl (Nat.le_of_ble_eq_true rfl) dX8_outputs_22 ⟨Nat.le_refl _, Nat.le_refl _⟩ ?_
      refine v_if_eq (tgt := 38) C dX8_outputs_25 (by decide) (fun c_3 => ?_) (fun c_3 => ?_)
      · refine v_bipush (v := (-2)) C dX8_outputs_38 (by decide) ?_
        exact hret _ _ _ _ (Eq.symm ((if_neg c_1).trans ((if_neg c_2).trans ((if_pos c_3).trans rfl)))) (Eq.symm ((if_neg c_1).trans ((if_neg c_2).trans ((if_pos c_3).trans rfl)))) dX8_outputs_40
      · refine v_iload C dX8_outputs_28 (lv_at hl 4 rfl) ?_
        refine v_iconst (v := 0) C dX8_outputs_30 (by decide) ?_
        refine v_iconst (v := 3) C dX8_outputs_31 (by decide) ?_
        refine v_scalli C (c_X8_within l g _ _ _ _) (va_cwS 3 C.2.2.2.2.1 gX8_outputs_X8_within rfl rfl rfl hs_X8_within ⟨Nat.le_of_ble_eq_true rfl, Nat.le_of_ble_eq_true rfl⟩) rfl hl.1 rfl (Nat.le_of_ble_eq_true rfl) dX8_outputs_32 ⟨Nat.le_refl _, Nat.le_refl _⟩ ?_
        refine v_if_ne (tgt := 41) C dX8_outputs_35 (by decide) (fun c_4 => ?_) (fun c_4 => ?_)
        · refine v_aload_n C dX8_outputs_41 rfl (lv_at hl 0 rfl) ?_
          refine v_getR C iX8_outputs_X8 k_30 rfl rfl (j := 29) rfl (by decide) rfl (C.w 1 rfl) dX8_outputs_42 ?_
          refine v_iload_n C dX8_outputs_45 rfl (lv_at hl 1 rfl) ?_
          refine v_iload_n C dX8_outputs_46 rfl (lv_at hl 2 rfl) ?_
          refine v_iast C k_59 rfl (X8_isOne_in c_1) dX8_outputs_47 ?_
          refine v_aload_n C dX8_outputs_48 rfl (lv_at hl 0 rfl) ?_
          refine v_getR C iX8_outputs_X8 k_30 rfl rfl (j := 30) rfl (by decide) rfl (C.w 2 rfl) dX8_outputs_49 ?_
          refine v_iload_n C dX8_outputs_52 rfl (lv_at hl 1 rfl) ?_
          refine v_iload_n C dX8_outputs_53 rfl (lv_at hl 3 rfl) ?_
          refine v_iast C k_60 rfl (X8_isOne_in c_1) dX8_outputs_54 ?_
          refine v_aload_n C dX8_outputs_55 rfl (lv_at hl 0 rfl) ?_
          refine v_getR C iX8_outputs_X8 k_30 rfl rfl (j := 31) rfl (by decide) rfl (C.w 3 rfl) dX8_outputs_56 ?_
          refine v_iload_n C dX8_outputs_59 rfl (lv_at hl 1 rfl) ?_
          refine v_iload C dX8_outputs_60 (lv_at hl 4 rfl) ?_
          refine v_iast C k_61 rfl (X8_isOne_in c_1) dX8_outputs_62 ?_
          refine v_aload_n C dX8_outputs_63 rfl (lv_at hl 0 rfl) ?_
          refine v_callv C (c_X8_pins l g _ (okM_ne (okM_ne (okM_ne hc (by decide) (by decide) (by decide) (by decide) (by decide) (by decide)) (by decide) (by decide) (by decide) (by decide) (by decide) (by decide)) (by decide) (by decide) (by decide) (by decide) (by decide) (by decide))) (cwV 0 C.2.2.2.2.1 gX8_outputs_X8_pins rfl rfl rfl hv_X8_pins ⟨Nat.le_of_ble_eq_true rfl, Nat.le_of_ble_eq_true rfl⟩) k_30 rfl rfl rfl rfl hl.1 rfl (Nat.le_of_ble_eq_true rfl) dX8_outputs_64 ⟨Nat.le_refl _, Nat.le_refl _⟩ ?_
          refine v_iconst (v := 1) C dX8_outputs_67 (by decide) ?_
          exact hret _ _ _ _ (Eq.symm ((if_neg c_1).trans ((if_neg c_2).trans ((if_neg c_3).trans ((if_neg c_4).trans rfl))))) (Eq.symm ((if_neg c_1).trans ((if_neg c_2).trans ((if_neg c_3).trans ((if_neg c_4).trans rfl))))) dX8_outputs_68
        · refine v_bipush (v := (-2)) C dX8_outputs_38 (by decide) ?_
          exact hret _ _ _ _ (Eq.symm ((if_neg c_1).trans ((if_neg c_2).trans ((if_neg c_3).trans ((if_pos c_4).trans rfl))))) (Eq.symm ((if_neg c_1).trans ((if_neg c_2).trans ((if_neg c_3).trans ((if_pos c_4).trans rfl))))) dX8_outputs_40
  · refine v_iconst (v := (-1)) C dX8_outputs_7 (by decide) ?_
    exact hret _ _ _ _ (Eq.symm ((if_pos c_1).trans rfl)) (Eq.symm ((if_pos c_1).trans rfl)) dX8_outputs_8
theorem X8_outputs_s_fr (a1 : Int32) (a2 : Int32) (a3 : Int32) (a4 : Int32) (t : ct_St) {r : Nat} (h30 : r ≠ 30) (h59 : r ≠ 59) (h60 : r ≠ 60) (h61 : r ≠ 61) (h62 : r ≠ 62) (h63 : r ≠ 63) (h64 : r ≠ 64) (h65 : r ≠ 65) : X8_outputs_s a1 a2 a3 a4 t r = t r := by
  dsimp only [X8_outputs_s]
  (repeat' split) <;> simp only [us_ne, ur_ne, h30, h59, h60, h61, h62, h63, h64, h65, ne_eq, not_false_eq_true, X8_pins_s_fr]
theorem iX8_ofChannel_X8 : ∀ w ∈ wsX80, w ∈ wsX8_ofChannel := fun _ h => (List.mem_cons_of_mem _ (List.mem_append_right _ h))
theorem hv_X8_ofChannel : yX8_ofChannel.cls = RX8 ∧ yX8_ofChannel.cls ≠ "java/lang/invoke/MethodHandle" ∧ yX8_ofChannel.cls ≠ "java/lang/invoke/VarHandle" ∧ (parseMethodDescriptor yX8_ofChannel.desc).map (fun d => d.parameters.length) = some 2 := by decide +kernel
def X8_ofChannel_r (a1 : Int32) (a2 : Int32) (t : ct_St) : Int32 :=
  if X8_isOne_r a1 = 0 then
    (-1)
  else
    if a2 = 0 then
      t 54 (ix a1)
    else
      if a2 = 1 then
        t 55 (ix a1)
      else
        if a2 = 2 then
          t 56 (ix a1)
        else
          if a2 = 3 then
            t 57 (ix a1)
          else
            if a2 = 4 then
              t 58 (ix a1)
            else
              if a2 = 5 then
                t 59 (ix a1)
              else
                if a2 = 6 then
                  t 60 (ix a1)
                else
                  if a2 = 7 then
                    t 61 (ix a1)
                  else
                    if a2 = 8 then
                      X8_onOf_r a1 t
                    else
                      (-2)
set_option maxHeartbeats 4000000 in
set_option maxRecDepth 100000 in
theorem c_X8_ofChannel (l : Launch) (g : ct_G) (t : ct_St) (a1 : Int32) (a2 : Int32) : MI l g shG yX8_ofChannel wsX8_ofChannel (rmd 2) [.ref (g.2.1 30), .int a1, .int a2] t (X8_ofChannel_r a1 a2 t) t := by
  refine MI.of (own := RX8) (cc := cX8_ofChannel) (maxL := 3) rfl (by decide) rfl (Nat.le_of_ble_eq_true rfl) (fun p e s m args below meth cd A Q C hret ls hl => ?_)
  have hl : lv_has ls 3 [(0, .ref (g.2.1 30)), (1, .int a1), (2, .int a2)] := hl
  refine v_iload_n C dX8_ofChannel_0 rfl (lv_at hl 1 rfl) ?_
  refine v_scalli C (c_X8_isOne l g _ _) (va_cwS 1 C.2.2.2.2.1 gX8_ofChannel_X8_isOne rfl rfl rfl hs_X8_isOne ⟨Nat.le_of_ble_eq_true rfl, Nat.le_of_ble_eq_true rfl⟩) rfl hl.1 rfl (Nat.le_of_ble_eq_true rfl) dX8_ofChannel_1 ⟨Nat.le_refl _, Nat.le_refl _⟩ ?_
  refine v_if_ne (tgt := 9) C dX8_ofChannel_4 (by decide) (fun c_1 => ?_) (fun c_1 => ?_)
  · refine v_iload_n C dX8_ofChannel_9 rfl (lv_at hl 2 rfl) ?_
    refine v_by (v := 0) (fun c_2 => ?_) (fun c_2 => ?_)
    · refine v_tabIn (off := 50) (tgt := 60) C dX8_ofChannel_10 c_2 (by decide) (by decide) (by decide) (by decide) ?_
      refine v_aload_n C dX8_ofChannel_60 rfl (lv_at hl 0 rfl) ?_
      refine v_getR C iX8_ofChannel_X8 k_30 rfl rfl (j := 24) rfl (by decide) rfl (C.w 1 rfl) dX8_ofChannel_61 ?_
      refine v_iload_n C dX8_ofChannel_64 rfl (lv_at hl 1 rfl) ?_
      refine v_iald C k_54 rfl (X8_isOne_in c_1) dX8_ofChannel_65 ?_
      exact hret _ _ _ _ (Eq.symm ((if_neg c_1).trans ((if_pos c_2).trans rfl))) rfl dX8_ofChannel_66
    · refine v_by (v := 1) (fun c_3 => ?_) (fun c_3 => ?_)
      · refine v_tabIn (off := 57) (tgt := 67) C dX8_ofChannel_10 c_3 (by decide) (by decide) (by decide) (by decide) ?_
        refine v_aload_n C dX8_ofChannel_67 rfl (lv_at hl 0 rfl) ?_
        refine v_getR C iX8_ofChannel_X8 k_30 rfl rfl (j := 25) rfl (by decide) rfl (C.w 2 rfl) dX8_ofChannel_68 ?_
        refine v_iload_n C dX8_ofChannel_71 rfl (lv_at hl 1 rfl) ?_
        refine v_iald C k_55 rfl (X8_isOne_in c_1) dX8_ofChannel_72 ?_
        exact hret _ _ _ _ (Eq.symm ((if_neg c_1).trans ((if_neg c_2).trans ((if_pos c_3).trans rfl)))) rfl dX8_ofChannel_73
      · refine v_by (v := 2) (fun c_4 => ?_) (fun c_4 => ?_)
        · refine v_tabIn (off := 64) (tgt := 74) C dX8_ofChannel_10 c_4 (by decide) (by decide) (by decide) (by decide) ?_
          refine v_aload_n C dX8_ofChannel_74 rfl (lv_at hl 0 rfl) ?_
          refine v_getR C iX8_ofChannel_X8 k_30 rfl rfl (j := 26) rfl (by decide) rfl (C.w 3 rfl) dX8_ofChannel_75 ?_
          refine v_iload_n C dX8_ofChannel_78 rfl (lv_at hl 1 rfl) ?_
          refine v_iald C k_56 rfl (X8_isOne_in c_1) dX8_ofChannel_79 ?_
          exact hret _ _ _ _ (Eq.symm ((if_neg c_1).trans ((if_neg c_2).trans ((if_neg c_3).trans ((if_pos c_4).trans rfl))))) rfl dX8_ofChannel_80
        · refine v_by (v := 3) (fun c_5 => ?_) (fun c_5 => ?_)
          · refine v_tabIn (off := 71) (tgt := 81) C dX8_ofChannel_10 c_5 (by decide) (by decide) (by decide) (by decide) ?_
            refine v_aload_n C dX8_ofChannel_81 rfl (lv_at hl 0 rfl) ?_
            refine v_getR C iX8_ofChannel_X8 k_30 rfl rfl (j := 27) rfl (by decide) rfl (C.w 4 rfl) dX8_ofChannel_82 ?_
            refine v_iload_n C dX8_ofChannel_85 rfl (lv_at hl 1 rfl) ?_
            refine v_iald C k_57 rfl (X8_isOne_in c_1) dX8_ofChannel_86 ?_
            exact hret _ _ _ _ (Eq.symm ((if_neg c_1).trans ((if_neg c_2).trans ((if_neg c_3).trans ((if_neg c_4).trans ((if_pos c_5).trans rfl)))))) rfl dX8_ofChannel_87
          · refine v_by (v := 4) (fun c_6 => ?_) (fun c_6 => ?_)
            · refine v_tabIn (off := 78) (tgt := 88) C dX8_ofChannel_10 c_6 (by decide) (by decide) (by decide) (by decide) ?_
              refine v_aload_n C dX8_ofChannel_88 rfl (lv_at hl 0 rfl) ?_
              refine v_getR C iX8_ofChannel_X8 k_30 rfl rfl (j := 28) rfl (by decide) rfl (C.w 5 rfl) dX8_ofChannel_89 ?_
              refine v_iload_n C dX8_ofChannel_92 rfl (lv_at hl 1 rfl) ?_
              refine v_iald C k_58 rfl (X8_isOne_in c_1) dX8_ofChannel_93 ?_
              exact hret _ _ _ _ (Eq.symm ((if_neg c_1).trans ((if_neg c_2).trans ((if_neg c_3).trans ((if_neg c_4).trans ((if_neg c_5).trans ((if_pos c_6).trans rfl))))))) rfl dX8_ofChannel_94
            · refine v_by (v := 5) (fun c_7 => ?_) (fun c_7 => ?_)
              · refine v_tabIn (off := 85) (tgt := 95) C dX8_ofChannel_10 c_7 (by decide) (by decide) (by decide) (by decide) ?_
                refine v_aload_n C dX8_ofChannel_95 rfl (lv_at hl 0 rfl) ?_
                refine v_getR C iX8_ofChannel_X8 k_30 rfl rfl (j := 29) rfl (by decide) rfl (C.w 6 rfl) dX8_ofChannel_96 ?_
                refine v_iload_n C dX8_ofChannel_99 rfl (lv_at hl 1 rfl) ?_
                refine v_iald C k_59 rfl (X8_isOne_in c_1) dX8_ofChannel_100 ?_
                exact hret _ _ _ _ (Eq.symm ((if_neg c_1).trans ((if_neg c_2).trans ((if_neg c_3).trans ((if_neg c_4).trans ((if_neg c_5).trans ((if_neg c_6).trans ((if_pos c_7).trans rfl)))))))) rfl dX8_ofChannel_101
              · refine v_by (v := 6) (fun c_8 => ?_) (fun c_8 => ?_)
                · refine v_tabIn (off := 92) (tgt := 102) C dX8_ofChannel_10 c_8 (by decide) (by decide) (by decide) (by decide) ?_
                  refine v_aload_n C dX8_ofChannel_102 rfl (lv_at hl 0 rfl) ?_
                  refine v_getR C iX8_ofChannel_X8 k_30 rfl rfl (j := 30) rfl (by decide) rfl (C.w 7 rfl) dX8_ofChannel_103 ?_
                  refine v_iload_n C dX8_ofChannel_106 rfl (lv_at hl 1 rfl) ?_
                  refine v_iald C k_60 rfl (X8_isOne_in c_1) dX8_ofChannel_107 ?_
                  exact hret _ _ _ _ (Eq.symm ((if_neg c_1).trans ((if_neg c_2).trans ((if_neg c_3).trans ((if_neg c_4).trans ((if_neg c_5).trans ((if_neg c_6).trans ((if_neg c_7).trans ((if_pos c_8).trans rfl))))))))) rfl dX8_ofChannel_108
                · refine v_by (v := 7) (fun c_9 => ?_) (fun c_9 => ?_)
                  · refine v_tabIn (off := 99) (tgt := 109) C dX8_ofChannel_10 c_9 (by decide) (by decide) (by decide) (by decide) ?_
                    refine v_aload_n C dX8_ofChannel_109 rfl (lv_at hl 0 rfl) ?_
                    refine v_getR C iX8_ofChannel_X8 k_30 rfl rfl (j := 31) rfl (by decide) rfl (C.w 8 rfl) dX8_ofChannel_110 ?_
                    refine v_iload_n C dX8_ofChannel_113 rfl (lv_at hl 1 rfl) ?_
                    refine v_iald C k_61 rfl (X8_isOne_in c_1) dX8_ofChannel_114 ?_
                    exact hret _ _ _ _ (Eq.symm ((if_neg c_1).trans ((if_neg c_2).trans ((if_neg c_3).trans ((if_neg c_4).trans ((if_neg c_5).trans ((if_neg c_6).trans ((if_neg c_7).trans ((if_neg c_8).trans ((if_pos c_9).trans rfl)))))))))) rfl dX8_ofChannel_115
                  · refine v_by (v := 8) (fun c_10 => ?_) (fun c_10 => ?_)
                    · refine v_tabIn (off := 106) (tgt := 116) C dX8_ofChannel_10 c_10 (by decide) (by decide) (by decide) (by decide) ?_
                      refine v_aload_n C dX8_ofChannel_116 rfl (lv_at hl 0 rfl) ?_
                      refine v_iload_n C dX8_ofChannel_117 rfl (lv_at hl 1 rfl) ?_
                      refine v_calli C (c_X8_onOf l g _ _ (X8_isOne_in c_1)) (cwV 1 C.2.2.2.2.1 gX8_ofChannel_X8_onOf rfl rfl rfl hv_X8_onOf ⟨Nat.le_of_ble_eq_true rfl, Nat.le_of_ble_eq_true rfl⟩) k_30 rfl rfl rfl rfl hl.1 rfl (Nat.le_of_ble_eq_true rfl) dX8_ofChannel_118 ⟨Nat.le_refl _, Nat.le_refl _⟩ ?_
                      exact hret _ _ _ _ (Eq.symm ((if_neg c_1).trans ((if_neg c_2).trans ((if_neg c_3).trans ((if_neg c_4).trans ((if_neg c_5).trans ((if_neg c_6).trans ((if_neg c_7).trans ((if_neg c_8).trans ((if_neg c_9).trans ((if_pos c_10).trans rfl))))))))))) rfl dX8_ofChannel_121
                    · refine v_tabOut (tgt := 122) C dX8_ofChannel_10 (by have h0 := lv_neT (a := 0) c_2 (by decide); have h1 := lv_neT (a := 1) c_3 (by decide); have h2 := lv_neT (a := 2) c_4 (by decide); have h3 := lv_neT (a := 3) c_5 (by decide); have h4 := lv_neT (a := 4) c_6 (by decide); have h5 := lv_neT (a := 5) c_7 (by decide); have h6 := lv_neT (a := 6) c_8 (by decide); have h7 := lv_neT (a := 7) c_9 (by decide); have h8 := lv_neT (a := 8) c_10 (by decide); omega) (by decide) ?_
                      refine v_bipush (v := (-2)) C dX8_ofChannel_122 (by decide) ?_
                      exact hret _ _ _ _ (Eq.symm ((if_neg c_1).trans ((if_neg c_2).trans ((if_neg c_3).trans ((if_neg c_4).trans ((if_neg c_5).trans ((if_neg c_6).trans ((if_neg c_7).trans ((if_neg c_8).trans ((if_neg c_9).trans ((if_neg c_10).trans rfl))))))))))) rfl dX8_ofChannel_124
  · refine v_iconst (v := (-1)) C dX8_ofChannel_7 (by decide) ?_
    exact hret _ _ _ _ (Eq.symm ((if_pos c_1).trans rfl)) rfl dX8_ofChannel_8
theorem iX8_pin_X8 : ∀ w ∈ wsX80, w ∈ wsX8_pin := fun _ h => (List.mem_cons_of_mem _ (List.mem_append_right _ h))
theorem hv_X8_pin : yX8_pin.cls = RX8 ∧ yX8_pin.cls ≠ "java/lang/invoke/MethodHandle" ∧ yX8_pin.cls ≠ "java/lang/invoke/VarHandle" ∧ (parseMethodDescriptor yX8_pin.desc).map (fun d => d.parameters.length) = some 1 := by decide +kernel
def X8_pin_r (a1 : Int32) (t : ct_St) : Int32 :=
  if X8_within_r a1 0 7 = 0 then
    (-2)
  else
    t 62 (ix a1)
set_option maxHeartbeats 4000000 in
set_option maxRecDepth 100000 in
theorem c_X8_pin (l : Launch) (g : ct_G) (t : ct_St) (a1 : Int32) : MI l g shG yX8_pin wsX8_pin (rmd 1) [.ref (g.2.1 30), .int a1] t (X8_pin_r a1 t) t := by
  refine MI.of (own := RX8) (cc := cX8_pin) (maxL := 2) rfl (by decide) rfl (Nat.le_of_ble_eq_true rfl) (fun p e s m args below meth cd A Q C hret ls hl => ?_)
  have hl : lv_has ls 2 [(0, .ref (g.2.1 30)), (1, .int a1)] := hl
  refine v_iload_n C dX8_pin_0 rfl (lv_at hl 1 rfl) ?_
  refine v_iconst (v := 0) C dX8_pin_1 (by decide) ?_
  refine v_bipush (v := 7) C dX8_pin_2 (by decide) ?_
  refine v_scalli C (c_X8_within l g _ _ _ _) (va_cwS 3 C.2.2.2.2.1 gX8_pin_X8_within rfl rfl rfl hs_X8_within ⟨Nat.le_of_ble_eq_true rfl, Nat.le_of_ble_eq_true rfl⟩) rfl hl.1 rfl (Nat.le_of_ble_eq_true rfl) dX8_pin_4 ⟨Nat.le_refl _, Nat.le_refl _⟩ ?_
  refine v_if_eq (tgt := 19) C dX8_pin_7 (by decide) (fun c_1 => ?_) (fun c_1 => ?_)
  · refine v_bipush (v := (-2)) C dX8_pin_19 (by decide) ?_
    exact hret _ _ _ _ (Eq.symm ((if_pos c_1).trans rfl)) rfl dX8_pin_21
  · refine v_aload_n C dX8_pin_10 rfl (lv_at hl 0 rfl) ?_
    refine v_getR C iX8_pin_X8 k_30 rfl rfl (j := 33) rfl (by decide) rfl (C.w 1 rfl) dX8_pin_11 ?_
    refine v_iload_n C dX8_pin_14 rfl (lv_at hl 1 rfl) ?_
    refine v_iald C k_62 rfl (X8_within7_in c_1) dX8_pin_15 ?_
    refine v_goto (tgt := 21) C dX8_pin_16 (by decide) ?_
    exact hret _ _ _ _ (Eq.symm ((if_neg c_1).trans rfl)) rfl dX8_pin_21
theorem iX8_brakes_X8 : ∀ w ∈ wsX80, w ∈ wsX8_brakes := fun _ h => (List.mem_cons_of_mem _ (List.mem_append_right _ h))
theorem hv_X8_brakes : yX8_brakes.cls = RX8 ∧ yX8_brakes.cls ≠ "java/lang/invoke/MethodHandle" ∧ yX8_brakes.cls ≠ "java/lang/invoke/VarHandle" ∧ (parseMethodDescriptor yX8_brakes.desc).map (fun d => d.parameters.length) = some 1 := by decide +kernel
def X8_brakes_r (a1 : Int32) (t : ct_St) : Int32 :=
  if t 30 32 = a1 then
    0
  else
    1
def X8_brakes_s (a1 : Int32) (t : ct_St) : ct_St :=
  if t 30 32 = a1 then
    let t3 := us t 30 32 a1
    let t4 := X8_pins_s t3
    t4
  else
    let t1 := us t 30 32 a1
    let t2 := X8_pins_s t1
    t2
set_option maxHeartbeats 4000000 in
set_option maxRecDepth 100000 in
theorem c_X8_brakes (l : Launch) (g : ct_G) (t : ct_St) (a1 : Int32) (hz : narrow .boolean (.int a1) = .int a1) (hf : fits .boolean (.int a1) = true) (hc : okM t) : MI l g shG yX8_brakes wsX8_brakes (rmd 3) [.ref (g.2.1 30), .int a1] t (X8_brakes_r a1 t) (X8_brakes_s a1 t) := by
  refine MI.of (own := RX8) (cc := cX8_brakes) (maxL := 3) rfl (by decide) rfl (Nat.le_of_ble_eq_true rfl) (fun p e s m args below meth cd A Q C hret ls hl => ?_)
  have hl : lv_has ls 3 [(0, .ref (g.2.1 30)), (1, .int a1)] := hl
  refine v_aload_n C dX8_brakes_0 rfl (lv_at hl 0 rfl) ?_
  refine v_getI C iX8_brakes_X8 k_30 rfl rfl (j := 32) rfl (by decide) rfl (C.w 1 rfl) dX8_brakes_1 ?_
  refine v_iload_n C dX8_brakes_4 rfl (lv_at hl 1 rfl) ?_
  refine v_icmp_ne (tgt := 12) C dX8_brakes_5 (by decide) (fun c_1 => ?_) (fun c_1 => ?_)
  · refine v_iconst (v := 1) C dX8_brakes_12 (by decide) ?_
    refine v_istore_n (lv' := [(2, _), (0, _), (1, _)]) C dX8_brakes_13 rfl hl (by decide) rfl (fun ls hl => ?_)
    refine v_aload_n C dX8_brakes_14 rfl (lv_at hl 1 rfl) ?_
    refine v_iload_n C dX8_brakes_15 rfl (lv_at hl 2 rfl) ?_
    refine v_put C iX8_brakes_X8 tyX8 tyX8_ok nmX8 k_30 rfl rfl (j := 32) rfl (by decide) rfl (C.w 1 rfl) rfl hz hf dX8_brakes_16 ?_
    refine v_aload_n C dX8_brakes_19 rfl (lv_at hl 1 rfl) ?_
    refine v_callv C (c_X8_pins l g _ (okM_30 hc (by decide) (by decide) (by decide))) (cwV 0 C.2.2.2.2.1 gX8_brakes_X8_pins rfl rfl rfl hv_X8_pins ⟨Nat.le_of_ble_eq_true rfl, Nat.le_of_ble_eq_true rfl⟩) k_30 rfl rfl rfl rfl hl.1 rfl (Nat.le_of_ble_eq_true rfl) dX8_brakes_20 ⟨Nat.le_refl _, Nat.le_refl _⟩ ?_
    refine v_iload_n C dX8_brakes_23 rfl (lv_at hl 0 rfl) ?_
    exact hret _ _ _ _ (Eq.symm ((if_neg c_1).trans rfl)) (Eq.symm ((if_neg c_1).trans rfl)) dX8_brakes_24
  · refine v_iconst (v := 0) C dX8_brakes_8 (by decide) ?_
    refine v_goto (tgt := 13) C dX8_brakes_9 (by decide) ?_
    refine v_istore_n (lv' := [(2, _), (0, _), (1, _)]) C dX8_brakes_13 rfl hl (by decide) rfl (fun ls hl => ?_)
    refine v_aload_n C dX8_brakes_14 rfl (lv_at hl 1 rfl) ?_
    refine v_iload_n C dX8_brakes_15 rfl (lv_at hl 2 rfl) ?_
    refine v_put C iX8_brakes_X8 tyX8 tyX8_ok nmX8 k_30 rfl rfl (j := 32) rfl (by decide) rfl (C.w 1 rfl) rfl hz hf dX8_brakes_16 ?_
    refine v_aload_n C dX8_brakes_19 rfl (lv_at hl 1 rfl) ?_
    refine v_callv C (c_X8_pins l g _ (okM_30 hc (by decide) (by decide) (by decide))) (cwV 0 C.2.2.2.2.1 gX8_brakes_X8_pins rfl rfl rfl hv_X8_pins ⟨Nat.le_of_ble_eq_true rfl, Nat.le_of_ble_eq_true rfl⟩) k_30 rfl rfl rfl rfl hl.1 rfl (Nat.le_of_ble_eq_true rfl) dX8_brakes_20 ⟨Nat.le_refl _, Nat.le_refl _⟩ ?_
    refine v_iload_n C dX8_brakes_23 rfl (lv_at hl 0 rfl) ?_
    exact hret _ _ _ _ (Eq.symm ((if_pos c_1).trans rfl)) (Eq.symm ((if_pos c_1).trans rfl)) dX8_brakes_24
theorem X8_brakes_s_fr (a1 : Int32) (t : ct_St) {r : Nat} (h30 : r ≠ 30) (h62 : r ≠ 62) (h63 : r ≠ 63) (h64 : r ≠ 64) (h65 : r ≠ 65) : X8_brakes_s a1 t r = t r := by
  dsimp only [X8_brakes_s]
  (repeat' split) <;> simp only [us_ne, ur_ne, h30, h62, h63, h64, h65, ne_eq, not_false_eq_true, X8_pins_s_fr]
theorem hv_X8_brake : yX8_brake.cls = RX8 ∧ yX8_brake.cls ≠ "java/lang/invoke/MethodHandle" ∧ yX8_brake.cls ≠ "java/lang/invoke/VarHandle" ∧ (parseMethodDescriptor yX8_brake.desc).map (fun d => d.parameters.length) = some 0 := by decide +kernel
def X8_brake_r (t : ct_St) : Int32 :=
  X8_brakes_r 1 t
def X8_brake_s (t : ct_St) : ct_St :=
  let t1 := X8_brakes_s 1 t
  t1
set_option maxHeartbeats 4000000 in
set_option maxRecDepth 100000 in
theorem c_X8_brake (l : Launch) (g : ct_G) (t : ct_St) (hc : okM t) : MI l g shG yX8_brake wsX8_brake (rmd 4) [.ref (g.2.1 30)] t (X8_brake_r t) (X8_brake_s t) := by
  refine MI.of (own := RX8) (cc := cX8_brake) (maxL := 1) rfl (by decide) rfl (Nat.le_of_ble_eq_true rfl) (fun p e s m args below meth cd A Q C hret ls hl => ?_)
  have hl : lv_has ls 1 [(0, .ref (g.2.1 30))] := hl
  refine v_aload_n C dX8_brake_0 rfl (lv_at hl 0 rfl) ?_
  refine v_iconst (v := 1) C dX8_brake_1 (by decide) ?_
  refine v_calli C (c_X8_brakes l g _ _ rfl rfl hc) (cwV 1 C.2.2.2.2.1 gX8_brake_X8_brakes rfl rfl rfl hv_X8_brakes ⟨Nat.le_of_ble_eq_true rfl, Nat.le_of_ble_eq_true rfl⟩) k_30 rfl rfl rfl rfl hl.1 rfl (Nat.le_of_ble_eq_true rfl) dX8_brake_2 ⟨Nat.le_refl _, Nat.le_refl _⟩ ?_
  exact hret _ _ _ _ rfl rfl dX8_brake_5
theorem X8_brake_s_fr (t : ct_St) {r : Nat} (h30 : r ≠ 30) (h62 : r ≠ 62) (h63 : r ≠ 63) (h64 : r ≠ 64) (h65 : r ≠ 65) : X8_brake_s t r = t r := by
  dsimp only [X8_brake_s]
  (repeat' split) <;> simp only [us_ne, ur_ne, h30, h62, h63, h64, h65, ne_eq, not_false_eq_true, X8_brakes_s_fr]
theorem hv_X8_arm : yX8_arm.cls = RX8 ∧ yX8_arm.cls ≠ "java/lang/invoke/MethodHandle" ∧ yX8_arm.cls ≠ "java/lang/invoke/VarHandle" ∧ (parseMethodDescriptor yX8_arm.desc).map (fun d => d.parameters.length) = some 0 := by decide +kernel
def X8_arm_r (t : ct_St) : Int32 :=
  X8_brakes_r 0 t
def X8_arm_s (t : ct_St) : ct_St :=
  let t1 := X8_brakes_s 0 t
  t1
set_option maxHeartbeats 4000000 in
set_option maxRecDepth 100000 in
theorem c_X8_arm (l : Launch) (g : ct_G) (t : ct_St) (hc : okM t) : MI l g shG yX8_arm wsX8_arm (rmd 4) [.ref (g.2.1 30)] t (X8_arm_r t) (X8_arm_s t) := by
  refine MI.of (own := RX8) (cc := cX8_arm) (maxL := 1) rfl (by decide) rfl (Nat.le_of_ble_eq_true rfl) (fun p e s m args below meth cd A Q C hret ls hl => ?_)
  have hl : lv_has ls 1 [(0, .ref (g.2.1 30))] := hl
  refine v_aload_n C dX8_arm_0 rfl (lv_at hl 0 rfl) ?_
  refine v_iconst (v := 0) C dX8_arm_1 (by decide) ?_
  refine v_calli C (c_X8_brakes l g _ _ rfl rfl hc) (cwV 1 C.2.2.2.2.1 gX8_arm_X8_brakes rfl rfl rfl hv_X8_brakes ⟨Nat.le_of_ble_eq_true rfl, Nat.le_of_ble_eq_true rfl⟩) k_30 rfl rfl rfl rfl hl.1 rfl (Nat.le_of_ble_eq_true rfl) dX8_arm_2 ⟨Nat.le_refl _, Nat.le_refl _⟩ ?_
  exact hret _ _ _ _ rfl rfl dX8_arm_5
theorem X8_arm_s_fr (t : ct_St) {r : Nat} (h30 : r ≠ 30) (h62 : r ≠ 62) (h63 : r ≠ 63) (h64 : r ≠ 64) (h65 : r ≠ 65) : X8_arm_s t r = t r := by
  dsimp only [X8_arm_s]
  (repeat' split) <;> simp only [us_ne, ur_ne, h30, h62, h63, h64, h65, ne_eq, not_false_eq_true, X8_brakes_s_fr]
theorem iX8_record_X8 : ∀ w ∈ wsX80, w ∈ wsX8_record := fun _ h => (List.mem_cons_of_mem _ (List.mem_append_right _ h))
theorem rec_in {e k : Int32} (he : vp_in e 25) (hk : ¬ X8_within_r k 0 23 = 0) (h : 0 ≤ e - 1 - k) : vp_in (e - 1 - k) 24 := by
  have hk2 : vp_in k 24 := by
    unfold X8_within_r at hk
    split at hk
    · exact absurd rfl hk
    · split at hk
      · exact absurd rfl hk
      · next h1 h2 => exact wi_in h1 h2 (by decide)
  obtain ⟨j, hj, rfl⟩ := vp_in_of he (by decide)
  obtain ⟨i, hi, rfl⟩ := vp_in_of hk2 (by decide)
  have e1 : (nI j - 1 - nI i).toInt = (j : Int) - 1 - i := by
    have h1 : nI j - 1 - nI i = nI j - nI (i + 1) := by rw [Int32.sub_sub, Int32.add_comm 1 (nI i), nI_1]
    rw [h1, pk_sub_toInt (by omega) (by omega)]
    omega
  rw [vp_in_iff]
  rw [Int32.le_iff_toInt_le, e1] at h
  rw [e1]
  have e0 : (0 : Int32).toInt = 0 := by decide
  rw [e0] at h
  omega
theorem hv_X8_record : yX8_record.cls = RX8 ∧ yX8_record.cls ≠ "java/lang/invoke/MethodHandle" ∧ yX8_record.cls ≠ "java/lang/invoke/VarHandle" ∧ (parseMethodDescriptor yX8_record.desc).map (fun d => d.parameters.length) = some 2 := by decide +kernel
def X8_record_r (a1 : Int32) (a2 : Int32) (t : ct_St) : Int32 :=
  if X8_within_r a1 0 23 = 0 then
    (-2)
  else
    if X8_within_r a2 0 2 = 0 then
      (-2)
    else
      let x1 := ((t 30 34) - 1) - a1
      if 0 ≤ x1 then
        if a2 = 0 then
          t 63 (ix x1)
        else
          if a2 = 1 then
            t 64 (ix x1)
          else
            t 65 (ix x1)
      else
        (-9)
set_option maxHeartbeats 4000000 in
set_option maxRecDepth 100000 in
theorem c_X8_record (l : Launch) (g : ct_G) (t : ct_St) (a1 : Int32) (a2 : Int32) (he : vp_in (t 30 34) 25) : MI l g shG yX8_record wsX8_record (rmd 1) [.ref (g.2.1 30), .int a1, .int a2] t (X8_record_r a1 a2 t) t := by
  refine MI.of (own := RX8) (cc := cX8_record) (maxL := 4) rfl (by decide) rfl (Nat.le_of_ble_eq_true rfl) (fun p e s m args below meth cd A Q C hret ls hl => ?_)
  have hl : lv_has ls 4 [(0, .ref (g.2.1 30)), (1, .int a1), (2, .int a2)] := hl
  refine v_iload_n C dX8_record_0 rfl (lv_at hl 1 rfl) ?_
  refine v_iconst (v := 0) C dX8_record_1 (by decide) ?_
  refine v_bipush (v := 23) C dX8_record_2 (by decide) ?_
  refine v_scalli C (c_X8_within l g _ _ _ _) (va_cwS 3 C.2.2.2.2.1 gX8_record_X8_within rfl rfl rfl hs_X8_within ⟨Nat.le_of_ble_eq_true rfl, Nat.le_of_ble_eq_true rfl⟩) rfl hl.1 rfl (Nat.le_of_ble_eq_true rfl) dX8_record_4 ⟨Nat.le_refl _, Nat.le_refl _⟩ ?_
  refine v_if_eq (tgt := 19) C dX8_record_7 (by decide) (fun c_1 => ?_) (fun c_1 => ?_)
  · refine v_bipush (v := (-2)) C dX8_record_19 (by decide) ?_
    exact hret _ _ _ _ (Eq.symm ((if_pos c_1).trans rfl)) rfl dX8_record_21
  · refine v_iload_n C dX8_record_10 rfl (lv_at hl 2 rfl) ?_
    refine v_iconst (v := 0) C dX8_record_11 (by decide) ?_
    refine v_iconst (v := 2) C dX8_record_12 (by decide) ?_
    refine v_scalli C (c_X8_within l g _ _ _ _) (va_cwS 3 C.2.2.2.2.1 gX8_record_X8_within rfl rfl rfl hs_X8_within ⟨Nat.le_of_ble_eq_true rfl, Nat.le_of_ble_eq_true rfl⟩) rfl hl.1 rfl (Nat.le_of_ble_eq_true rfl) dX8_record_13 ⟨Nat.le_refl _, Nat.le_refl _⟩ ?_
    refine v_if_ne (tgt := 22) C dX8_record_16 (by decide) (fun c_2 => ?_) (fun c_2 => ?_)
    · refine v_aload_n C dX8_record_22 rfl (lv_at hl 0 rfl) ?_
      refine v_getI C iX8_record_X8 k_30 rfl rfl (j := 34) rfl (by decide) rfl (C.w 1 rfl) dX8_record_23 ?_
      refine v_iconst (v := 1) C dX8_record_26 (by decide) ?_
      refine v_isub C dX8_record_27 ?_
      refine v_iload_n C dX8_record_28 rfl (lv_at hl 1 rfl) ?_
      refine v_isub C dX8_record_29 ?_
      refine v_istore_n (lv' := [(3, _), (0, _), (1, _), (2, _)]) C dX8_record_30 rfl hl (by decide) rfl (fun ls hl => ?_)
      refine v_iload_n C dX8_record_31 rfl (lv_at hl 0 rfl) ?_
      refine v_if_ge (tgt := 38) C dX8_record_32 (by decide) (fun c_3 => ?_) (fun c_3 => ?_)
      · refine v_iload_n C dX8_record_38 rfl (lv_at hl 3 rfl) ?_
        refine v_if_ne (tgt := 51) C dX8_record_39 (by decide) (fun c_4 => ?_) (fun c_4 => ?_)
        · refine v_iload_n C dX8_record_51 rfl (lv_at hl 3 rfl) ?_
          refine v_iconst (v := 1) C dX8_record_52 (by decide) ?_
          refine v_icmp_ne (tgt := 65) C dX8_record_53 (by decide) (fun c_5 => ?_) (fun c_5 => ?_)
          · refine v_aload_n C dX8_record_65 rfl (lv_at hl 1 rfl) ?_
            refine v_getR C iX8_record_X8 k_30 rfl rfl (j := 37) rfl (by decide) rfl (C.w 4 rfl) dX8_record_66 ?_
            refine v_iload_n C dX8_record_69 rfl (lv_at hl 0 rfl) ?_
            refine v_iald C k_65 rfl (rec_in he c_1 c_3) dX8_record_70 ?_
            exact hret _ _ _ _ (Eq.symm ((if_neg c_1).trans ((if_neg c_2).trans ((if_pos c_3).trans ((if_neg c_4).trans ((if_neg c_5).trans rfl)))))) rfl dX8_record_71
          · refine v_aload_n C dX8_record_56 rfl (lv_at hl 1 rfl) ?_
            refine v_getR C iX8_record_X8 k_30 rfl rfl (j := 36) rfl (by decide) rfl (C.w 3 rfl) dX8_record_57 ?_
            refine v_iload_n C dX8_record_60 rfl (lv_at hl 0 rfl) ?_
            refine v_iald C k_64 rfl (rec_in he c_1 c_3) dX8_record_61 ?_
            refine v_goto (tgt := 71) C dX8_record_62 (by decide) ?_
            exact hret _ _ _ _ (Eq.symm ((if_neg c_1).trans ((if_neg c_2).trans ((if_pos c_3).trans ((if_neg c_4).trans ((if_pos c_5).trans rfl)))))) rfl dX8_record_71
        · refine v_aload_n C dX8_record_42 rfl (lv_at hl 1 rfl) ?_
          refine v_getR C iX8_record_X8 k_30 rfl rfl (j := 35) rfl (by decide) rfl (C.w 2 rfl) dX8_record_43 ?_
          refine v_iload_n C dX8_record_46 rfl (lv_at hl 0 rfl) ?_
          refine v_iald C k_63 rfl (rec_in he c_1 c_3) dX8_record_47 ?_
          refine v_goto (tgt := 71) C dX8_record_48 (by decide) ?_
          exact hret _ _ _ _ (Eq.symm ((if_neg c_1).trans ((if_neg c_2).trans ((if_pos c_3).trans ((if_pos c_4).trans rfl))))) rfl dX8_record_71
      · refine v_bipush (v := (-9)) C dX8_record_35 (by decide) ?_
        exact hret _ _ _ _ (Eq.symm ((if_neg c_1).trans ((if_neg c_2).trans ((if_neg c_3).trans rfl)))) rfl dX8_record_37
    · refine v_bipush (v := (-2)) C dX8_record_19 (by decide) ?_
      exact hret _ _ _ _ (Eq.symm ((if_neg c_1).trans ((if_pos c_2).trans rfl))) rfl dX8_record_21
theorem iX8_isWhole_X8 : ∀ w ∈ wsX80, w ∈ wsX8_isWhole := fun _ h => (List.mem_cons_of_mem _ (List.mem_append_right _ h))
theorem pf_2 {k : Int32} (h : vp_in k 2) : vp_in (2 * k + 1) 4 ∧ vp_in (2 * k) 4 ∧ vp_in (2 * k + 1 - 1) 4 := by
  obtain ⟨j, hj, rfl⟩ := vp_in_of h (by decide)
  rcases (show j = 0 ∨ j = 1 by omega) with rfl | rfl
  · unfold vp_in; decide
  · unfold vp_in; decide
theorem hv_X8_isWhole : yX8_isWhole.cls = RX8 ∧ yX8_isWhole.cls ≠ "java/lang/invoke/MethodHandle" ∧ yX8_isWhole.cls ≠ "java/lang/invoke/VarHandle" ∧ (parseMethodDescriptor yX8_isWhole.desc).map (fun d => d.parameters.length) = some 1 := by decide +kernel
def X8_isWhole_r (a1 : Int32) (t : ct_St) : Int32 :=
  let x1 := (2 * a1) + 1
  if t 34 (ix x1) = 2 then
    if t 33 (ix x1) = 1 then
      if t 31 (ix x1) = 0 then
        if t 31 (ix (x1 - 1)) = 0 then
          1
        else
          0
      else
        0
    else
      0
  else
    0
set_option maxHeartbeats 4000000 in
set_option maxRecDepth 100000 in
theorem c_X8_isWhole (l : Launch) (g : ct_G) (t : ct_St) (a1 : Int32) (h1 : vp_in a1 2) : MI l g shG yX8_isWhole wsX8_isWhole (rmd 0) [.ref (g.2.1 30), .int a1] t (X8_isWhole_r a1 t) t := by
  refine MZ.of (own := RX8) (cc := cX8_isWhole) (maxL := 3) rfl (by decide) rfl (Nat.le_of_ble_eq_true rfl) (fun p e s m args below meth cd A Q C hret ls hl => ?_)
  have hl : lv_has ls 3 [(0, .ref (g.2.1 30)), (1, .int a1)] := hl
  refine v_iconst (v := 2) C dX8_isWhole_0 (by decide) ?_
  refine v_iload_n C dX8_isWhole_1 rfl (lv_at hl 1 rfl) ?_
  refine v_imul C dX8_isWhole_2 ?_
  refine v_iconst (v := 1) C dX8_isWhole_3 (by decide) ?_
  refine v_iadd C dX8_isWhole_4 ?_
  refine v_istore_n (lv' := [(2, _), (0, _), (1, _)]) C dX8_isWhole_5 rfl hl (by decide) rfl (fun ls hl => ?_)
  refine v_aload_n C dX8_isWhole_6 rfl (lv_at hl 1 rfl) ?_
  refine v_getR C iX8_isWhole_X8 k_30 rfl rfl (j := 4) rfl (by decide) rfl (C.w 1 rfl) dX8_isWhole_7 ?_
  refine v_iload_n C dX8_isWhole_10 rfl (lv_at hl 0 rfl) ?_
  refine v_iald C k_34 rfl (pf_2 h1).1 dX8_isWhole_11 ?_
  refine v_iconst (v := 2) C dX8_isWhole_12 (by decide) ?_
  refine v_icmp_ne (tgt := 50) C dX8_isWhole_13 (by decide) (fun c_1 => ?_) (fun c_1 => ?_)
  · refine v_iconst (v := 0) C dX8_isWhole_50 (by decide) ?_
    exact hret _ _ _ _ (Eq.symm ((if_neg c_1).trans rfl)) rfl rfl dX8_isWhole_51
  · refine v_aload_n C dX8_isWhole_16 rfl (lv_at hl 1 rfl) ?_
    refine v_getR C iX8_isWhole_X8 k_30 rfl rfl (j := 3) rfl (by decide) rfl (C.w 2 rfl) dX8_isWhole_17 ?_
    refine v_iload_n C dX8_isWhole_20 rfl (lv_at hl 0 rfl) ?_
    refine v_iald C k_33 rfl (pf_2 h1).1 dX8_isWhole_21 ?_
    refine v_iconst (v := 1) C dX8_isWhole_22 (by decide) ?_
    refine v_icmp_ne (tgt := 50) C dX8_isWhole_23 (by decide) (fun c_2 => ?_) (fun c_2 => ?_)
    · refine v_iconst (v := 0) C dX8_isWhole_50 (by decide) ?_
      exact hret _ _ _ _ (Eq.symm ((if_pos c_1).trans ((if_neg c_2).trans rfl))) rfl rfl dX8_isWhole_51
    · refine v_aload_n C dX8_isWhole_26 rfl (lv_at hl 1 rfl) ?_
      refine v_getR C iX8_isWhole_X8 k_30 rfl rfl (j := 1) rfl (by decide) rfl (C.w 3 rfl) dX8_isWhole_27 ?_
      refine v_iload_n C dX8_isWhole_30 rfl (lv_at hl 0 rfl) ?_
      refine v_iald C k_31 rfl (pf_2 h1).1 dX8_isWhole_31 ?_
      refine v_if_ne (tgt := 50) C dX8_isWhole_32 (by decide) (fun c_3 => ?_) (fun c_3 => ?_)
      · refine v_iconst (v := 0) C dX8_isWhole_50 (by decide) ?_
        exact hret _ _ _ _ (Eq.symm ((if_pos c_1).trans ((if_pos c_2).trans ((if_neg c_3).trans rfl)))) rfl rfl dX8_isWhole_51
      · refine v_aload_n C dX8_isWhole_35 rfl (lv_at hl 1 rfl) ?_
        refine v_getR C iX8_isWhole_X8 k_30 rfl rfl (j := 1) rfl (by decide) rfl (C.w 3 rfl) dX8_isWhole_36 ?_
        refine v_iload_n C dX8_isWhole_39 rfl (lv_at hl 0 rfl) ?_
        refine v_iconst (v := 1) C dX8_isWhole_40 (by decide) ?_
        refine v_isub C dX8_isWhole_41 ?_
        refine v_iald C k_31 rfl (pf_2 h1).2.2 dX8_isWhole_42 ?_
        refine v_if_ne (tgt := 50) C dX8_isWhole_43 (by decide) (fun c_4 => ?_) (fun c_4 => ?_)
        · refine v_iconst (v := 0) C dX8_isWhole_50 (by decide) ?_
          exact hret _ _ _ _ (Eq.symm ((if_pos c_1).trans ((if_pos c_2).trans ((if_pos c_3).trans ((if_neg c_4).trans rfl))))) rfl rfl dX8_isWhole_51
        · refine v_iconst (v := 1) C dX8_isWhole_46 (by decide) ?_
          refine v_goto (tgt := 51) C dX8_isWhole_47 (by decide) ?_
          exact hret _ _ _ _ (Eq.symm ((if_pos c_1).trans ((if_pos c_2).trans ((if_pos c_3).trans ((if_pos c_4).trans rfl))))) rfl rfl dX8_isWhole_51
theorem X8_isWhole_z (a1 : Int32) (t : ct_St) : narrow .boolean (.int (X8_isWhole_r a1 t)) = .int (X8_isWhole_r a1 t) := by
  dsimp only [X8_isWhole_r]
  (repeat' split) <;> first | rfl
theorem iX8_holds_X8 : ∀ w ∈ wsX80, w ∈ wsX8_holds := fun _ h => (List.mem_cons_of_mem _ (List.mem_append_right _ h))
theorem hv_X8_holds : yX8_holds.cls = RX8 ∧ yX8_holds.cls ≠ "java/lang/invoke/MethodHandle" ∧ yX8_holds.cls ≠ "java/lang/invoke/VarHandle" ∧ (parseMethodDescriptor yX8_holds.desc).map (fun d => d.parameters.length) = some 2 := by decide +kernel
def X8_holds_r (a1 : Int32) (a2 : Int32) (t : ct_St) : Int32 :=
  if X8_isPair_r a1 = 0 then
    (-1)
  else
    if X8_within_r a2 0 1 = 0 then
      (-2)
    else
      if t 66 (ix a1) = 0 then
        if a2 = 1 then
          0
        else
          0
      else
        if a2 = 1 then
          1
        else
          1
def X8_holds_s (a1 : Int32) (a2 : Int32) (t : ct_St) : ct_St :=
  if X8_isPair_r a1 = 0 then
    t
  else
    if X8_within_r a2 0 1 = 0 then
      t
    else
      if t 66 (ix a1) = 0 then
        if a2 = 1 then
          let t3 := us t 66 (ix a1) 1
          let t4 := us t3 67 (ix a1) (-9)
          t4
        else
          let t1 := us t 66 (ix a1) 0
          let t2 := us t1 67 (ix a1) (-9)
          t2
      else
        if a2 = 1 then
          let t7 := us t 66 (ix a1) 1
          let t8 := us t7 67 (ix a1) (-9)
          t8
        else
          let t5 := us t 66 (ix a1) 0
          let t6 := us t5 67 (ix a1) (-9)
          t6
set_option maxHeartbeats 4000000 in
set_option maxRecDepth 100000 in
theorem c_X8_holds (l : Launch) (g : ct_G) (t : ct_St) (a1 : Int32) (a2 : Int32) : MI l g shG yX8_holds wsX8_holds (rmd 2) [.ref (g.2.1 30), .int a1, .int a2] t (X8_holds_r a1 a2 t) (X8_holds_s a1 a2 t) := by
  refine MI.of (own := RX8) (cc := cX8_holds) (maxL := 4) rfl (by decide) rfl (Nat.le_of_ble_eq_true rfl) (fun p e s m args below meth cd A Q C hret ls hl => ?_)
  have hl : lv_has ls 4 [(0, .ref (g.2.1 30)), (1, .int a1), (2, .int a2)] := hl
  refine v_iload_n C dX8_holds_0 rfl (lv_at hl 1 rfl) ?_
  refine v_scalli C (c_X8_isPair l g _ _) (va_cwS 1 C.2.2.2.2.1 gX8_holds_X8_isPair rfl rfl rfl hs_X8_isPair ⟨Nat.le_of_ble_eq_true rfl, Nat.le_of_ble_eq_true rfl⟩) rfl hl.1 rfl (Nat.le_of_ble_eq_true rfl) dX8_holds_1 ⟨Nat.le_refl _, Nat.le_refl _⟩ ?_
  refine v_if_ne (tgt := 9) C dX8_holds_4 (by decide) (fun c_1 => ?_) (fun c_1 => ?_)
  · refine v_iload_n C dX8_holds_9 rfl (lv_at hl 2 rfl) ?_
    refine v_iconst (v := 0) C dX8_holds_10 (by decide) ?_
    refine v_iconst (v := 1) C dX8_holds_11 (by decide) ?_
    refine v_scalli C (c_X8_within l g _ _ _ _) (va_cwS 3 C.2.2.2.2.1 gX8_holds_X8_within rfl rfl rfl hs_X8_within ⟨Nat.le_of_ble_eq_true rfl, Nat.le_of_ble_eq_true rfl⟩) rfl hl.1 rfl (Nat.le_of_ble_eq_true rfl) dX8_holds_12 ⟨Nat.le_refl _, Nat.le_refl _⟩ ?_
    refine v_if_ne (tgt := 21) C dX8_holds_15 (by decide) (fun c_2 => ?_) (fun c_2 => ?_)
    · refine v_aload_n C dX8_holds_21 rfl (lv_at hl 0 rfl) ?_
      refine v_getR C iX8_holds_X8 k_30 rfl rfl (j := 38) rfl (by decide) rfl (C.w 1 rfl) dX8_holds_22 ?_
      refine v_iload_n C dX8_holds_25 rfl (lv_at hl 1 rfl) ?_
      refine v_zald C k_66 rfl (X8_isPair_in c_1) dX8_holds_26 ?_
      refine v_if_eq (tgt := 34) C dX8_holds_27 (by decide) (fun c_3 => ?_) (fun c_3 => ?_)
      · refine v_iconst (v := 0) C dX8_holds_34 (by decide) ?_
        refine v_istore_n (lv' := [(3, _), (0, _), (1, _), (2, _)]) C dX8_holds_35 rfl hl (by decide) rfl (fun ls hl => ?_)
        refine v_aload_n C dX8_holds_36 rfl (lv_at hl 1 rfl) ?_
        refine v_getR C iX8_holds_X8 k_30 rfl rfl (j := 38) rfl (by decide) rfl (C.w 1 rfl) dX8_holds_37 ?_
        refine v_iload_n C dX8_holds_40 rfl (lv_at hl 2 rfl) ?_
        refine v_iload_n C dX8_holds_41 rfl (lv_at hl 3 rfl) ?_
        refine v_iconst (v := 1) C dX8_holds_42 (by decide) ?_
        refine v_icmp_ne (tgt := 50) C dX8_holds_43 (by decide) (fun c_4 => ?_) (fun c_4 => ?_)
        · refine v_iconst (v := 0) C dX8_holds_50 (by decide) ?_
          refine v_zast (z := 0) C k_66 rfl (X8_isPair_in c_1) (by decide) dX8_holds_51 ?_
          refine v_aload_n C dX8_holds_52 rfl (lv_at hl 1 rfl) ?_
          refine v_getR C iX8_holds_X8 k_30 rfl rfl (j := 39) rfl (by decide) rfl (C.w 2 rfl) dX8_holds_53 ?_
          refine v_iload_n C dX8_holds_56 rfl (lv_at hl 2 rfl) ?_
          refine v_bipush (v := (-9)) C dX8_holds_57 (by decide) ?_
          refine v_iast C k_67 rfl (X8_isPair_in c_1) dX8_holds_59 ?_
          refine v_iload_n C dX8_holds_60 rfl (lv_at hl 0 rfl) ?_
          exact hret _ _ _ _ (Eq.symm ((if_neg c_1).trans ((if_neg c_2).trans ((if_pos c_3).trans ((if_neg c_4).trans rfl))))) (Eq.symm ((if_neg c_1).trans ((if_neg c_2).trans ((if_pos c_3).trans ((if_neg c_4).trans rfl))))) dX8_holds_61
        · refine v_iconst (v := 1) C dX8_holds_46 (by decide) ?_
          refine v_goto (tgt := 51) C dX8_holds_47 (by decide) ?_
          refine v_zast (z := 1) C k_66 rfl (X8_isPair_in c_1) (by decide) dX8_holds_51 ?_
          refine v_aload_n C dX8_holds_52 rfl (lv_at hl 1 rfl) ?_
          refine v_getR C iX8_holds_X8 k_30 rfl rfl (j := 39) rfl (by decide) rfl (C.w 2 rfl) dX8_holds_53 ?_
          refine v_iload_n C dX8_holds_56 rfl (lv_at hl 2 rfl) ?_
          refine v_bipush (v := (-9)) C dX8_holds_57 (by decide) ?_
          refine v_iast C k_67 rfl (X8_isPair_in c_1) dX8_holds_59 ?_
          refine v_iload_n C dX8_holds_60 rfl (lv_at hl 0 rfl) ?_
          exact hret _ _ _ _ (Eq.symm ((if_neg c_1).trans ((if_neg c_2).trans ((if_pos c_3).trans ((if_pos c_4).trans rfl))))) (Eq.symm ((if_neg c_1).trans ((if_neg c_2).trans ((if_pos c_3).trans ((if_pos c_4).trans rfl))))) dX8_holds_61
      · refine v_iconst (v := 1) C dX8_holds_30 (by decide) ?_
        refine v_goto (tgt := 35) C dX8_holds_31 (by decide) ?_
        refine v_istore_n (lv' := [(3, _), (0, _), (1, _), (2, _)]) C dX8_holds_35 rfl hl (by decide) rfl (fun ls hl => ?_)
        refine v_aload_n C dX8_holds_36 rfl (lv_at hl 1 rfl) ?_
        refine v_getR C iX8_holds_X8 k_30 rfl rfl (j := 38) rfl (by decide) rfl (C.w 1 rfl) dX8_holds_37 ?_
        refine v_iload_n C dX8_holds_40 rfl (lv_at hl 2 rfl) ?_
        refine v_iload_n C dX8_holds_41 rfl (lv_at hl 3 rfl) ?_
        refine v_iconst (v := 1) C dX8_holds_42 (by decide) ?_
        refine v_icmp_ne (tgt := 50) C dX8_holds_43 (by decide) (fun c_5 => ?_) (fun c_5 => ?_)
        · refine v_iconst (v := 0) C dX8_holds_50 (by decide) ?_
          refine v_zast (z := 0) C k_66 rfl (X8_isPair_in c_1) (by decide) dX8_holds_51 ?_
          refine v_aload_n C dX8_holds_52 rfl (lv_at hl 1 rfl) ?_
          refine v_getR C iX8_holds_X8 k_30 rfl rfl (j := 39) rfl (by decide) rfl (C.w 2 rfl) dX8_holds_53 ?_
          refine v_iload_n C dX8_holds_56 rfl (lv_at hl 2 rfl) ?_
          refine v_bipush (v := (-9)) C dX8_holds_57 (by decide) ?_
          refine v_iast C k_67 rfl (X8_isPair_in c_1) dX8_holds_59 ?_
          refine v_iload_n C dX8_holds_60 rfl (lv_at hl 0 rfl) ?_
          exact hret _ _ _ _ (Eq.symm ((if_neg c_1).trans ((if_neg c_2).trans ((if_neg c_3).trans ((if_neg c_5).trans rfl))))) (Eq.symm ((if_neg c_1).trans ((if_neg c_2).trans ((if_neg c_3).trans ((if_neg c_5).trans rfl))))) dX8_holds_61
        · refine v_iconst (v := 1) C dX8_holds_46 (by decide) ?_
          refine v_goto (tgt := 51) C dX8_holds_47 (by decide) ?_
          refine v_zast (z := 1) C k_66 rfl (X8_isPair_in c_1) (by decide) dX8_holds_51 ?_
          refine v_aload_n C dX8_holds_52 rfl (lv_at hl 1 rfl) ?_
          refine v_getR C iX8_holds_X8 k_30 rfl rfl (j := 39) rfl (by decide) rfl (C.w 2 rfl) dX8_holds_53 ?_
          refine v_iload_n C dX8_holds_56 rfl (lv_at hl 2 rfl) ?_
          refine v_bipush (v := (-9)) C dX8_holds_57 (by decide) ?_
          refine v_iast C k_67 rfl (X8_isPair_in c_1) dX8_holds_59 ?_
          refine v_iload_n C dX8_holds_60 rfl (lv_at hl 0 rfl) ?_
          exact hret _ _ _ _ (Eq.symm ((if_neg c_1).trans ((if_neg c_2).trans ((if_neg c_3).trans ((if_pos c_5).trans rfl))))) (Eq.symm ((if_neg c_1).trans ((if_neg c_2).trans ((if_neg c_3).trans ((if_pos c_5).trans rfl))))) dX8_holds_61
    · refine v_bipush (v := (-2)) C dX8_holds_18 (by decide) ?_
      exact hret _ _ _ _ (Eq.symm ((if_neg c_1).trans ((if_pos c_2).trans rfl))) (Eq.symm ((if_neg c_1).trans ((if_pos c_2).trans rfl))) dX8_holds_20
  · refine v_iconst (v := (-1)) C dX8_holds_7 (by decide) ?_
    exact hret _ _ _ _ (Eq.symm ((if_pos c_1).trans rfl)) (Eq.symm ((if_pos c_1).trans rfl)) dX8_holds_8
theorem X8_holds_s_fr (a1 : Int32) (a2 : Int32) (t : ct_St) {r : Nat} (h66 : r ≠ 66) (h67 : r ≠ 67) : X8_holds_s a1 a2 t r = t r := by
  dsimp only [X8_holds_s]
  (repeat' split) <;> simp only [us_ne, ur_ne, h66, h67, ne_eq, not_false_eq_true]
theorem iX8_read_X8 : ∀ w ∈ wsX80, w ∈ wsX8_read := fun _ h => (List.mem_cons_of_mem _ (List.mem_append_right _ h))
theorem hv_X8_read : yX8_read.cls = RX8 ∧ yX8_read.cls ≠ "java/lang/invoke/MethodHandle" ∧ yX8_read.cls ≠ "java/lang/invoke/VarHandle" ∧ (parseMethodDescriptor yX8_read.desc).map (fun d => d.parameters.length) = some 2 := by decide +kernel
def X8_read_r (a1 : Int32) (a2 : Int32) (t : ct_St) : Int32 :=
  if X8_isPair_r a1 = 0 then
    (-1)
  else
    if X8_within_r a2 0 1 = 0 then
      (-2)
    else
      if X8_isWhole_r a1 t = 0 then
        (-3)
      else
        if a2 = 0 then
          let t3 := us t 67 (ix a1) (t 35 (ix ((2 * a1) + 1)))
          t3 35 (ix (2 * a1))
        else
          if t 66 (ix a1) = 0 then
            t 35 (ix ((2 * a1) + 1))
          else
            if t 67 (ix a1) = (-9) then
              t 35 (ix ((2 * a1) + 1))
            else
              let x1 := t 67 (ix a1)
              x1
def X8_read_s (a1 : Int32) (a2 : Int32) (t : ct_St) : ct_St :=
  if X8_isPair_r a1 = 0 then
    t
  else
    if X8_within_r a2 0 1 = 0 then
      t
    else
      if X8_isWhole_r a1 t = 0 then
        t
      else
        if a2 = 0 then
          let t3 := us t 67 (ix a1) (t 35 (ix ((2 * a1) + 1)))
          t3
        else
          if t 66 (ix a1) = 0 then
            t
          else
            if t 67 (ix a1) = (-9) then
              t
            else
              let t2 := us t 67 (ix a1) (-9)
              t2
set_option maxHeartbeats 4000000 in
set_option maxRecDepth 100000 in
theorem c_X8_read (l : Launch) (g : ct_G) (t : ct_St) (a1 : Int32) (a2 : Int32) : MI l g shG yX8_read wsX8_read (rmd 2) [.ref (g.2.1 30), .int a1, .int a2] t (X8_read_r a1 a2 t) (X8_read_s a1 a2 t) := by
  refine MI.of (own := RX8) (cc := cX8_read) (maxL := 4) rfl (by decide) rfl (Nat.le_of_ble_eq_true rfl) (fun p e s m args below meth cd A Q C hret ls hl => ?_)
  have hl : lv_has ls 4 [(0, .ref (g.2.1 30)), (1, .int a1), (2, .int a2)] := hl
  refine v_iload_n C dX8_read_0 rfl (lv_at hl 1 rfl) ?_
  refine v_scalli C (c_X8_isPair l g _ _) (va_cwS 1 C.2.2.2.2.1 gX8_read_X8_isPair rfl rfl rfl hs_X8_isPair ⟨Nat.le_of_ble_eq_true rfl, Nat.le_of_ble_eq_true rfl⟩) rfl hl.1 rfl (Nat.le_of_ble_eq_true rfl) dX8_read_1 ⟨Nat.le_refl _, Nat.le_refl _⟩ ?_
  refine v_if_ne (tgt := 9) C dX8_read_4 (by decide) (fun c_1 => ?_) (fun c_1 => ?_)
  · refine v_iload_n C dX8_read_9 rfl (lv_at hl 2 rfl) ?_
    refine v_iconst (v := 0) C dX8_read_10 (by decide) ?_
    refine v_iconst (v := 1) C dX8_read_11 (by decide) ?_
    refine v_scalli C (c_X8_within l g _ _ _ _) (va_cwS 3 C.2.2.2.2.1 gX8_read_X8_within rfl rfl rfl hs_X8_within ⟨Nat.le_of_ble_eq_true rfl, Nat.le_of_ble_eq_true rfl⟩) rfl hl.1 rfl (Nat.le_of_ble_eq_true rfl) dX8_read_12 ⟨Nat.le_refl _, Nat.le_refl _⟩ ?_
    refine v_if_ne (tgt := 21) C dX8_read_15 (by decide) (fun c_2 => ?_) (fun c_2 => ?_)
    · refine v_aload_n C dX8_read_21 rfl (lv_at hl 0 rfl) ?_
      refine v_iload_n C dX8_read_22 rfl (lv_at hl 1 rfl) ?_
      refine v_calli C (c_X8_isWhole l g _ _ (X8_isPair_in c_1)) (cwV 1 C.2.2.2.2.1 gX8_read_X8_isWhole rfl rfl rfl hv_X8_isWhole ⟨Nat.le_of_ble_eq_true rfl, Nat.le_of_ble_eq_true rfl⟩) k_30 rfl rfl rfl rfl hl.1 rfl (Nat.le_of_ble_eq_true rfl) dX8_read_23 ⟨Nat.le_refl _, Nat.le_refl _⟩ ?_
      refine v_if_ne (tgt := 32) C dX8_read_26 (by decide) (fun c_3 => ?_) (fun c_3 => ?_)
      · refine v_iload_n C dX8_read_32 rfl (lv_at hl 2 rfl) ?_
        refine v_if_ne (tgt := 61) C dX8_read_33 (by decide) (fun c_4 => ?_) (fun c_4 => ?_)
        · refine v_aload_n C dX8_read_61 rfl (lv_at hl 0 rfl) ?_
          refine v_getR C iX8_read_X8 k_30 rfl rfl (j := 38) rfl (by decide) rfl (C.w 3 rfl) dX8_read_62 ?_
          refine v_iload_n C dX8_read_65 rfl (lv_at hl 1 rfl) ?_
          refine v_zald C k_66 rfl (X8_isPair_in c_1) dX8_read_66 ?_
          refine v_if_eq (tgt := 81) C dX8_read_67 (by decide) (fun c_5 => ?_) (fun c_5 => ?_)
          · refine v_aload_n C dX8_read_81 rfl (lv_at hl 0 rfl) ?_
            refine v_getR C iX8_read_X8 k_30 rfl rfl (j := 5) rfl (by decide) rfl (C.w 2 rfl) dX8_read_82 ?_
            refine v_iconst (v := 2) C dX8_read_85 (by decide) ?_
            refine v_iload_n C dX8_read_86 rfl (lv_at hl 1 rfl) ?_
            refine v_imul C dX8_read_87 ?_
            refine v_iconst (v := 1) C dX8_read_88 (by decide) ?_
            refine v_iadd C dX8_read_89 ?_
            refine v_iald C k_35 rfl (pf_2 (X8_isPair_in c_1)).1 dX8_read_90 ?_
            exact hret _ _ _ _ (Eq.symm ((if_neg c_1).trans ((if_neg c_2).trans ((if_neg c_3).trans ((if_neg c_4).trans ((if_pos c_5).trans rfl)))))) (Eq.symm ((if_neg c_1).trans ((if_neg c_2).trans ((if_neg c_3).trans ((if_neg c_4).trans ((if_pos c_5).trans rfl)))))) dX8_read_91
          · refine v_aload_n C dX8_read_70 rfl (lv_at hl 0 rfl) ?_
            refine v_getR C iX8_read_X8 k_30 rfl rfl (j := 39) rfl (by decide) rfl (C.w 1 rfl) dX8_read_71 ?_
            refine v_iload_n C dX8_read_74 rfl (lv_at hl 1 rfl) ?_
            refine v_iald C k_67 rfl (X8_isPair_in c_1) dX8_read_75 ?_
            refine v_bipush (v := (-9)) C dX8_read_76 (by decide) ?_
            refine v_icmp_ne (tgt := 92) C dX8_read_78 (by decide) (fun c_6 => ?_) (fun c_6 => ?_)
            · refine v_aload_n C dX8_read_92 rfl (lv_at hl 0 rfl) ?_
              refine v_getR C iX8_read_X8 k_30 rfl rfl (j := 39) rfl (by decide) rfl (C.w 1 rfl) dX8_read_93 ?_
              refine v_iload_n C dX8_read_96 rfl (lv_at hl 1 rfl) ?_
              refine v_iald C k_67 rfl (X8_isPair_in c_1) dX8_read_97 ?_
              refine v_istore_n (lv' := [(3, _), (0, _), (1, _), (2, _)]) C dX8_read_98 rfl hl (by decide) rfl (fun ls hl => ?_)
              refine v_aload_n C dX8_read_99 rfl (lv_at hl 1 rfl) ?_
              refine v_getR C iX8_read_X8 k_30 rfl rfl (j := 39) rfl (by decide) rfl (C.w 1 rfl) dX8_read_100 ?_
              refine v_iload_n C dX8_read_103 rfl (lv_at hl 2 rfl) ?_
              refine v_bipush (v := (-9)) C dX8_read_104 (by decide) ?_
              refine v_iast C k_67 rfl (X8_isPair_in c_1) dX8_read_106 ?_
              refine v_iload_n C dX8_read_107 rfl (lv_at hl 0 rfl) ?_
              exact hret _ _ _ _ (Eq.symm ((if_neg c_1).trans ((if_neg c_2).trans ((if_neg c_3).trans ((if_neg c_4).trans ((if_neg c_5).trans ((if_neg c_6).trans rfl))))))) (Eq.symm ((if_neg c_1).trans ((if_neg c_2).trans ((if_neg c_3).trans ((if_neg c_4).trans ((if_neg c_5).trans ((if_neg c_6).trans rfl))))))) dX8_read_108
            · refine v_aload_n C dX8_read_81 rfl (lv_at hl 0 rfl) ?_
              refine v_getR C iX8_read_X8 k_30 rfl rfl (j := 5) rfl (by decide) rfl (C.w 2 rfl) dX8_read_82 ?_
              refine v_iconst (v := 2) C dX8_read_85 (by decide) ?_
              refine v_iload_n C dX8_read_86 rfl (lv_at hl 1 rfl) ?_
              refine v_imul C dX8_read_87 ?_
              refine v_iconst (v := 1) C dX8_read_88 (by decide) ?_
              refine v_iadd C dX8_read_89 ?_
              refine v_iald C k_35 rfl (pf_2 (X8_isPair_in c_1)).1 dX8_read_90 ?_
              exact hret _ _ _ _ (Eq.symm ((if_neg c_1).trans ((if_neg c_2).trans ((if_neg c_3).trans ((if_neg c_4).trans ((if_neg c_5).trans ((if_pos c_6).trans rfl))))))) (Eq.symm ((if_neg c_1).trans ((if_neg c_2).trans ((if_neg c_3).trans ((if_neg c_4).trans ((if_neg c_5).trans ((if_pos c_6).trans rfl))))))) dX8_read_91
        · refine v_aload_n C dX8_read_36 rfl (lv_at hl 0 rfl) ?_
          refine v_getR C iX8_read_X8 k_30 rfl rfl (j := 39) rfl (by decide) rfl (C.w 1 rfl) dX8_read_37 ?_
          refine v_iload_n C dX8_read_40 rfl (lv_at hl 1 rfl) ?_
          refine v_aload_n C dX8_read_41 rfl (lv_at hl 0 rfl) ?_
          refine v_getR C iX8_read_X8 k_30 rfl rfl (j := 5) rfl (by decide) rfl (C.w 2 rfl) dX8_read_42 ?_
          refine v_iconst (v := 2) C dX8_read_45 (by decide) ?_
          refine v_iload_n C dX8_read_46 rfl (lv_at hl 1 rfl) ?_
          refine v_imul C dX8_read_47 ?_
          refine v_iconst (v := 1) C dX8_read_48 (by decide) ?_
          refine v_iadd C dX8_read_49 ?_
          refine v_iald C k_35 rfl (pf_2 (X8_isPair_in c_1)).1 dX8_read_50 ?_
          refine v_iast C k_67 rfl (X8_isPair_in c_1) dX8_read_51 ?_
          refine v_aload_n C dX8_read_52 rfl (lv_at hl 0 rfl) ?_
          refine v_getR C iX8_read_X8 k_30 rfl rfl (j := 5) rfl (by decide) rfl (C.w 2 rfl) dX8_read_53 ?_
          refine v_iconst (v := 2) C dX8_read_56 (by decide) ?_
          refine v_iload_n C dX8_read_57 rfl (lv_at hl 1 rfl) ?_
          refine v_imul C dX8_read_58 ?_
          refine v_iald C k_35 rfl (pf_2 (X8_isPair_in c_1)).2.1 dX8_read_59 ?_
          exact hret _ _ _ _ (Eq.symm ((if_neg c_1).trans ((if_neg c_2).trans ((if_neg c_3).trans ((if_pos c_4).trans rfl))))) (Eq.symm ((if_neg c_1).trans ((if_neg c_2).trans ((if_neg c_3).trans ((if_pos c_4).trans rfl))))) dX8_read_60
      · refine v_bipush (v := (-3)) C dX8_read_29 (by decide) ?_
        exact hret _ _ _ _ (Eq.symm ((if_neg c_1).trans ((if_neg c_2).trans ((if_pos c_3).trans rfl)))) (Eq.symm ((if_neg c_1).trans ((if_neg c_2).trans ((if_pos c_3).trans rfl)))) dX8_read_31
    · refine v_bipush (v := (-2)) C dX8_read_18 (by decide) ?_
      exact hret _ _ _ _ (Eq.symm ((if_neg c_1).trans ((if_pos c_2).trans rfl))) (Eq.symm ((if_neg c_1).trans ((if_pos c_2).trans rfl))) dX8_read_20
  · refine v_iconst (v := (-1)) C dX8_read_7 (by decide) ?_
    exact hret _ _ _ _ (Eq.symm ((if_pos c_1).trans rfl)) (Eq.symm ((if_pos c_1).trans rfl)) dX8_read_8
theorem X8_read_s_fr (a1 : Int32) (a2 : Int32) (t : ct_St) {r : Nat} (h67 : r ≠ 67) : X8_read_s a1 a2 t r = t r := by
  dsimp only [X8_read_s]
  (repeat' split) <;> simp only [us_ne, ur_ne, h67, ne_eq, not_false_eq_true]
theorem iX8_wide_X8 : ∀ w ∈ wsX80, w ∈ wsX8_wide := fun _ h => (List.mem_cons_of_mem _ (List.mem_append_right _ h))
theorem hv_X8_wide : yX8_wide.cls = RX8 ∧ yX8_wide.cls ≠ "java/lang/invoke/MethodHandle" ∧ yX8_wide.cls ≠ "java/lang/invoke/VarHandle" ∧ (parseMethodDescriptor yX8_wide.desc).map (fun d => d.parameters.length) = some 1 := by decide +kernel
def X8_wide_r (a1 : Int32) (t : ct_St) : Int32 :=
  if X8_isPair_r a1 = 0 then
    (-1)
  else
    if X8_isWhole_r a1 t = 0 then
      (-3)
    else
      ((t 35 (ix ((2 * a1) + 1))) * ((t 32 (ix (2 * a1))) + 1)) + (t 35 (ix (2 * a1)))
set_option maxHeartbeats 4000000 in
set_option maxRecDepth 100000 in
theorem c_X8_wide (l : Launch) (g : ct_G) (t : ct_St) (a1 : Int32) : MI l g shG yX8_wide wsX8_wide (rmd 2) [.ref (g.2.1 30), .int a1] t (X8_wide_r a1 t) t := by
  refine MI.of (own := RX8) (cc := cX8_wide) (maxL := 2) rfl (by decide) rfl (Nat.le_of_ble_eq_true rfl) (fun p e s m args below meth cd A Q C hret ls hl => ?_)
  have hl : lv_has ls 2 [(0, .ref (g.2.1 30)), (1, .int a1)] := hl
  refine v_iload_n C dX8_wide_0 rfl (lv_at hl 1 rfl) ?_
  refine v_scalli C (c_X8_isPair l g _ _) (va_cwS 1 C.2.2.2.2.1 gX8_wide_X8_isPair rfl rfl rfl hs_X8_isPair ⟨Nat.le_of_ble_eq_true rfl, Nat.le_of_ble_eq_true rfl⟩) rfl hl.1 rfl (Nat.le_of_ble_eq_true rfl) dX8_wide_1 ⟨Nat.le_refl _, Nat.le_refl _⟩ ?_
  refine v_if_ne (tgt := 9) C dX8_wide_4 (by decide) (fun c_1 => ?_) (fun c_1 => ?_)
  · refine v_aload_n C dX8_wide_9 rfl (lv_at hl 0 rfl) ?_
    refine v_iload_n C dX8_wide_10 rfl (lv_at hl 1 rfl) ?_
    refine v_calli C (c_X8_isWhole l g _ _ (X8_isPair_in c_1)) (cwV 1 C.2.2.2.2.1 gX8_wide_X8_isWhole rfl rfl rfl hv_X8_isWhole ⟨Nat.le_of_ble_eq_true rfl, Nat.le_of_ble_eq_true rfl⟩) k_30 rfl rfl rfl rfl hl.1 rfl (Nat.le_of_ble_eq_true rfl) dX8_wide_11 ⟨Nat.le_refl _, Nat.le_refl _⟩ ?_
    refine v_if_eq (tgt := 50) C dX8_wide_14 (by decide) (fun c_2 => ?_) (fun c_2 => ?_)
    · refine v_bipush (v := (-3)) C dX8_wide_50 (by decide) ?_
      exact hret _ _ _ _ (Eq.symm ((if_neg c_1).trans ((if_pos c_2).trans rfl))) rfl dX8_wide_52
    · refine v_aload_n C dX8_wide_17 rfl (lv_at hl 0 rfl) ?_
      refine v_getR C iX8_wide_X8 k_30 rfl rfl (j := 5) rfl (by decide) rfl (C.w 1 rfl) dX8_wide_18 ?_
      refine v_iconst (v := 2) C dX8_wide_21 (by decide) ?_
      refine v_iload_n C dX8_wide_22 rfl (lv_at hl 1 rfl) ?_
      refine v_imul C dX8_wide_23 ?_
      refine v_iconst (v := 1) C dX8_wide_24 (by decide) ?_
      refine v_iadd C dX8_wide_25 ?_
      refine v_iald C k_35 rfl (pf_2 (X8_isPair_in c_1)).1 dX8_wide_26 ?_
      refine v_aload_n C dX8_wide_27 rfl (lv_at hl 0 rfl) ?_
      refine v_getR C iX8_wide_X8 k_30 rfl rfl (j := 2) rfl (by decide) rfl (C.w 2 rfl) dX8_wide_28 ?_
      refine v_iconst (v := 2) C dX8_wide_31 (by decide) ?_
      refine v_iload_n C dX8_wide_32 rfl (lv_at hl 1 rfl) ?_
      refine v_imul C dX8_wide_33 ?_
      refine v_iald C k_32 rfl (pf_2 (X8_isPair_in c_1)).2.1 dX8_wide_34 ?_
      refine v_iconst (v := 1) C dX8_wide_35 (by decide) ?_
      refine v_iadd C dX8_wide_36 ?_
      refine v_imul C dX8_wide_37 ?_
      refine v_aload_n C dX8_wide_38 rfl (lv_at hl 0 rfl) ?_
      refine v_getR C iX8_wide_X8 k_30 rfl rfl (j := 5) rfl (by decide) rfl (C.w 1 rfl) dX8_wide_39 ?_
      refine v_iconst (v := 2) C dX8_wide_42 (by decide) ?_
      refine v_iload_n C dX8_wide_43 rfl (lv_at hl 1 rfl) ?_
      refine v_imul C dX8_wide_44 ?_
      refine v_iald C k_35 rfl (pf_2 (X8_isPair_in c_1)).2.1 dX8_wide_45 ?_
      refine v_iadd C dX8_wide_46 ?_
      refine v_goto (tgt := 52) C dX8_wide_47 (by decide) ?_
      exact hret _ _ _ _ (Eq.symm ((if_neg c_1).trans ((if_neg c_2).trans rfl))) rfl dX8_wide_52
  · refine v_iconst (v := (-1)) C dX8_wide_7 (by decide) ?_
    exact hret _ _ _ _ (Eq.symm ((if_pos c_1).trans rfl)) rfl dX8_wide_8
theorem iX8_slow_X8 : ∀ w ∈ wsX80, w ∈ wsX8_slow := fun _ h => (List.mem_cons_of_mem _ (List.mem_append_right _ h))
theorem hv_X8_slow : yX8_slow.cls = RX8 ∧ yX8_slow.cls ≠ "java/lang/invoke/MethodHandle" ∧ yX8_slow.cls ≠ "java/lang/invoke/VarHandle" ∧ (parseMethodDescriptor yX8_slow.desc).map (fun d => d.parameters.length) = some 3 := by decide +kernel
def X8_slow_r (a1 : Int32) (a2 : Int32) (a3 : Int32) : Int32 :=
  if X8_isOne_r a2 = 0 then
    (-1)
  else
    if X8_within_r a1 2 16 = 0 then
      (-2)
    else
      if X8_within_r a3 0 1 = 0 then
        (-2)
      else
        1
def X8_slow_s (a1 : Int32) (a2 : Int32) (a3 : Int32) (t : ct_St) : ct_St :=
  if X8_isOne_r a2 = 0 then
    t
  else
    if X8_within_r a1 2 16 = 0 then
      t
    else
      if X8_within_r a3 0 1 = 0 then
        t
      else
        let t1 := us t 30 40 a1
        let t2 := us t1 30 41 a2
        let t3 := us t2 30 42 a3
        let t4 := us t3 30 43 0
        let t5 := us t4 30 44 0
        t5
set_option maxHeartbeats 4000000 in
set_option maxRecDepth 100000 in
theorem c_X8_slow (l : Launch) (g : ct_G) (t : ct_St) (a1 : Int32) (a2 : Int32) (a3 : Int32) : MI l g shG yX8_slow wsX8_slow (rmd 2) [.ref (g.2.1 30), .int a1, .int a2, .int a3] t (X8_slow_r a1 a2 a3) (X8_slow_s a1 a2 a3 t) := by
  refine MI.of (own := RX8) (cc := cX8_slow) (maxL := 4) rfl (by decide) rfl (Nat.le_of_ble_eq_true rfl) (fun p e s m args below meth cd A Q C hret ls hl => ?_)
  have hl : lv_has ls 4 [(0, .ref (g.2.1 30)), (1, .int a1), (2, .int a2), (3, .int a3)] := hl
  refine v_iload_n C dX8_slow_0 rfl (lv_at hl 2 rfl) ?_
  refine v_scalli C (c_X8_isOne l g _ _) (va_cwS 1 C.2.2.2.2.1 gX8_slow_X8_isOne rfl rfl rfl hs_X8_isOne ⟨Nat.le_of_ble_eq_true rfl, Nat.le_of_ble_eq_true rfl⟩) rfl hl.1 rfl (Nat.le_of_ble_eq_true rfl) dX8_slow_1 ⟨Nat.le_refl _, Nat.le_refl _⟩ ?_
  refine v_if_ne (tgt := 9) C dX8_slow_4 (by decide) (fun c_1 => ?_) (fun c_1 => ?_)
  · refine v_iload_n C dX8_slow_9 rfl (lv_at hl 1 rfl) ?_
    refine v_iconst (v := 2) C dX8_slow_10 (by decide) ?_
    refine v_bipush (v := 16) C dX8_slow_11 (by decide) ?_
    refine v_scalli C (c_X8_within l g _ _ _ _) (va_cwS 3 C.2.2.2.2.1 gX8_slow_X8_within rfl rfl rfl hs_X8_within ⟨Nat.le_of_ble_eq_true rfl, Nat.le_of_ble_eq_true rfl⟩) rfl hl.1 rfl (Nat.le_of_ble_eq_true rfl) dX8_slow_13 ⟨Nat.le_refl _, Nat.le_refl _⟩ ?_
    refine v_if_eq (tgt := 28) C dX8_slow_16 (by decide) (fun c_2 => ?_) (fun c_2 => ?_)
    · refine v_bipush (v := (-2)) C dX8_slow_28 (by decide) ?_
      exact hret _ _ _ _ (Eq.symm ((if_neg c_1).trans ((if_pos c_2).trans rfl))) (Eq.symm ((if_neg c_1).trans ((if_pos c_2).trans rfl))) dX8_slow_30
    · refine v_iload_n C dX8_slow_19 rfl (lv_at hl 3 rfl) ?_
      refine v_iconst (v := 0) C dX8_slow_20 (by decide) ?_
      refine v_iconst (v := 1) C dX8_slow_21 (by decide) ?_
      refine v_scalli C (c_X8_within l g _ _ _ _) (va_cwS 3 C.2.2.2.2.1 gX8_slow_X8_within rfl rfl rfl hs_X8_within ⟨Nat.le_of_ble_eq_true rfl, Nat.le_of_ble_eq_true rfl⟩) rfl hl.1 rfl (Nat.le_of_ble_eq_true rfl) dX8_slow_22 ⟨Nat.le_refl _, Nat.le_refl _⟩ ?_
      refine v_if_ne (tgt := 31) C dX8_slow_25 (by decide) (fun c_3 => ?_) (fun c_3 => ?_)
      · refine v_aload_n C dX8_slow_31 rfl (lv_at hl 0 rfl) ?_
        refine v_iload_n C dX8_slow_32 rfl (lv_at hl 1 rfl) ?_
        refine v_put C iX8_slow_X8 tyX8 tyX8_ok nmX8 k_30 rfl rfl (j := 40) rfl (by decide) rfl (C.w 1 rfl) rfl rfl rfl dX8_slow_33 ?_
        refine v_aload_n C dX8_slow_36 rfl (lv_at hl 0 rfl) ?_
        refine v_iload_n C dX8_slow_37 rfl (lv_at hl 2 rfl) ?_
        refine v_put C iX8_slow_X8 tyX8 tyX8_ok nmX8 k_30 rfl rfl (j := 41) rfl (by decide) rfl (C.w 2 rfl) rfl rfl rfl dX8_slow_38 ?_
        refine v_aload_n C dX8_slow_41 rfl (lv_at hl 0 rfl) ?_
        refine v_iload_n C dX8_slow_42 rfl (lv_at hl 3 rfl) ?_
        refine v_put C iX8_slow_X8 tyX8 tyX8_ok nmX8 k_30 rfl rfl (j := 42) rfl (by decide) rfl (C.w 3 rfl) rfl rfl rfl dX8_slow_43 ?_
        refine v_aload_n C dX8_slow_46 rfl (lv_at hl 0 rfl) ?_
        refine v_iconst (v := 0) C dX8_slow_47 (by decide) ?_
        refine v_put C iX8_slow_X8 tyX8 tyX8_ok nmX8 k_30 rfl rfl (j := 43) rfl (by decide) rfl (C.w 4 rfl) rfl rfl rfl dX8_slow_48 ?_
        refine v_aload_n C dX8_slow_51 rfl (lv_at hl 0 rfl) ?_
        refine v_iconst (v := 0) C dX8_slow_52 (by decide) ?_
        refine v_put C iX8_slow_X8 tyX8 tyX8_ok nmX8 k_30 rfl rfl (j := 44) rfl (by decide) rfl (C.w 5 rfl) rfl rfl rfl dX8_slow_53 ?_
        refine v_iconst (v := 1) C dX8_slow_56 (by decide) ?_
        exact hret _ _ _ _ (Eq.symm ((if_neg c_1).trans ((if_neg c_2).trans ((if_neg c_3).trans rfl)))) (Eq.symm ((if_neg c_1).trans ((if_neg c_2).trans ((if_neg c_3).trans rfl)))) dX8_slow_57
      · refine v_bipush (v := (-2)) C dX8_slow_28 (by decide) ?_
        exact hret _ _ _ _ (Eq.symm ((if_neg c_1).trans ((if_neg c_2).trans ((if_pos c_3).trans rfl)))) (Eq.symm ((if_neg c_1).trans ((if_neg c_2).trans ((if_pos c_3).trans rfl)))) dX8_slow_30
  · refine v_iconst (v := (-1)) C dX8_slow_7 (by decide) ?_
    exact hret _ _ _ _ (Eq.symm ((if_pos c_1).trans rfl)) (Eq.symm ((if_pos c_1).trans rfl)) dX8_slow_8
theorem X8_slow_s_fr (a1 : Int32) (a2 : Int32) (a3 : Int32) (t : ct_St) {r : Nat} (h30 : r ≠ 30) : X8_slow_s a1 a2 a3 t r = t r := by
  dsimp only [X8_slow_s]
  (repeat' split) <;> simp only [us_ne, ur_ne, h30, ne_eq, not_false_eq_true]
theorem iX8_crossed_X8 : ∀ w ∈ wsX80, w ∈ wsX8_crossed := fun _ h => (List.mem_cons_of_mem _ (List.mem_append_right _ h))
theorem hv_X8_crossed : yX8_crossed.cls = RX8 ∧ yX8_crossed.cls ≠ "java/lang/invoke/MethodHandle" ∧ yX8_crossed.cls ≠ "java/lang/invoke/VarHandle" ∧ (parseMethodDescriptor yX8_crossed.desc).map (fun d => d.parameters.length) = some 1 := by decide +kernel
def X8_crossed_r (a1 : Int32) (t : ct_St) : Int32 :=
  if a1 = 0 then
    t 30 43
  else
    if a1 = 1 then
      t 30 44
    else
      if a1 = 2 then
        t 30 40
      else
        if a1 = 3 then
          t 30 41
        else
          if a1 = 4 then
            t 30 42
          else
            (-2)
set_option maxHeartbeats 4000000 in
set_option maxRecDepth 100000 in
theorem c_X8_crossed (l : Launch) (g : ct_G) (t : ct_St) (a1 : Int32) : MI l g shG yX8_crossed wsX8_crossed (rmd 0) [.ref (g.2.1 30), .int a1] t (X8_crossed_r a1 t) t := by
  refine MI.of (own := RX8) (cc := cX8_crossed) (maxL := 2) rfl (by decide) rfl (Nat.le_of_ble_eq_true rfl) (fun p e s m args below meth cd A Q C hret ls hl => ?_)
  have hl : lv_has ls 2 [(0, .ref (g.2.1 30)), (1, .int a1)] := hl
  refine v_iload_n C dX8_crossed_0 rfl (lv_at hl 1 rfl) ?_
  refine v_by (v := 0) (fun c_1 => ?_) (fun c_1 => ?_)
  · refine v_tabIn (off := 35) (tgt := 36) C dX8_crossed_1 c_1 (by decide) (by decide) (by decide) (by decide) ?_
    refine v_aload_n C dX8_crossed_36 rfl (lv_at hl 0 rfl) ?_
    refine v_getI C iX8_crossed_X8 k_30 rfl rfl (j := 43) rfl (by decide) rfl (C.w 1 rfl) dX8_crossed_37 ?_
    exact hret _ _ _ _ (Eq.symm ((if_pos c_1).trans rfl)) rfl dX8_crossed_40
  · refine v_by (v := 1) (fun c_2 => ?_) (fun c_2 => ?_)
    · refine v_tabIn (off := 40) (tgt := 41) C dX8_crossed_1 c_2 (by decide) (by decide) (by decide) (by decide) ?_
      refine v_aload_n C dX8_crossed_41 rfl (lv_at hl 0 rfl) ?_
      refine v_getI C iX8_crossed_X8 k_30 rfl rfl (j := 44) rfl (by decide) rfl (C.w 2 rfl) dX8_crossed_42 ?_
      exact hret _ _ _ _ (Eq.symm ((if_neg c_1).trans ((if_pos c_2).trans rfl))) rfl dX8_crossed_45
    · refine v_by (v := 2) (fun c_3 => ?_) (fun c_3 => ?_)
      · refine v_tabIn (off := 45) (tgt := 46) C dX8_crossed_1 c_3 (by decide) (by decide) (by decide) (by decide) ?_
        refine v_aload_n C dX8_crossed_46 rfl (lv_at hl 0 rfl) ?_
        refine v_getI C iX8_crossed_X8 k_30 rfl rfl (j := 40) rfl (by decide) rfl (C.w 3 rfl) dX8_crossed_47 ?_
        exact hret _ _ _ _ (Eq.symm ((if_neg c_1).trans ((if_neg c_2).trans ((if_pos c_3).trans rfl)))) rfl dX8_crossed_50
      · refine v_by (v := 3) (fun c_4 => ?_) (fun c_4 => ?_)
        · refine v_tabIn (off := 50) (tgt := 51) C dX8_crossed_1 c_4 (by decide) (by decide) (by decide) (by decide) ?_
          refine v_aload_n C dX8_crossed_51 rfl (lv_at hl 0 rfl) ?_
          refine v_getI C iX8_crossed_X8 k_30 rfl rfl (j := 41) rfl (by decide) rfl (C.w 4 rfl) dX8_crossed_52 ?_
          exact hret _ _ _ _ (Eq.symm ((if_neg c_1).trans ((if_neg c_2).trans ((if_neg c_3).trans ((if_pos c_4).trans rfl))))) rfl dX8_crossed_55
        · refine v_by (v := 4) (fun c_5 => ?_) (fun c_5 => ?_)
          · refine v_tabIn (off := 55) (tgt := 56) C dX8_crossed_1 c_5 (by decide) (by decide) (by decide) (by decide) ?_
            refine v_aload_n C dX8_crossed_56 rfl (lv_at hl 0 rfl) ?_
            refine v_getI C iX8_crossed_X8 k_30 rfl rfl (j := 42) rfl (by decide) rfl (C.w 5 rfl) dX8_crossed_57 ?_
            exact hret _ _ _ _ (Eq.symm ((if_neg c_1).trans ((if_neg c_2).trans ((if_neg c_3).trans ((if_neg c_4).trans ((if_pos c_5).trans rfl)))))) rfl dX8_crossed_60
          · refine v_tabOut (tgt := 61) C dX8_crossed_1 (by have h0 := lv_neT (a := 0) c_1 (by decide); have h1 := lv_neT (a := 1) c_2 (by decide); have h2 := lv_neT (a := 2) c_3 (by decide); have h3 := lv_neT (a := 3) c_4 (by decide); have h4 := lv_neT (a := 4) c_5 (by decide); omega) (by decide) ?_
            refine v_bipush (v := (-2)) C dX8_crossed_61 (by decide) ?_
            exact hret _ _ _ _ (Eq.symm ((if_neg c_1).trans ((if_neg c_2).trans ((if_neg c_3).trans ((if_neg c_4).trans ((if_neg c_5).trans rfl)))))) rfl dX8_crossed_63
theorem iX8_many_X8 : ∀ w ∈ wsX80, w ∈ wsX8_many := fun _ h => (List.mem_cons_of_mem _ (List.mem_append_right _ h))
theorem hv_X8_many : yX8_many.cls = RX8 ∧ yX8_many.cls ≠ "java/lang/invoke/MethodHandle" ∧ yX8_many.cls ≠ "java/lang/invoke/VarHandle" ∧ (parseMethodDescriptor yX8_many.desc).map (fun d => d.parameters.length) = some 1 := by decide +kernel
def X8_many_a2 (a1 : Int32) (x : Int32) (y2 : Int32) (y3 : Int32) (y4 : Int32) (t : ct_St) : Int32 :=
  if X8_isOn_r x 0 t = 0 then
    if X8_isOn_r x 1 t = 0 then
      let x1 := y2 + 0
      x1
    else
      let x4 := y2 + 1
      x4
  else
    if X8_isOn_r x 1 t = 0 then
      let x7 := y2 + 1
      x7
    else
      let x10 := y2 + 2
      x10
def X8_many_a3 (a1 : Int32) (x : Int32) (y2 : Int32) (y3 : Int32) (y4 : Int32) (t : ct_St) : Int32 :=
  if X8_isOn_r x 0 t = 0 then
    if X8_isOn_r x 1 t = 0 then
      let x2 := y3 + (t 52 (ix x))
      x2
    else
      let x5 := y3 + (t 52 (ix x))
      x5
  else
    if X8_isOn_r x 1 t = 0 then
      let x8 := y3 + (t 52 (ix x))
      x8
    else
      let x11 := y3 + (t 52 (ix x))
      x11
def X8_many_a4 (a1 : Int32) (x : Int32) (y2 : Int32) (y3 : Int32) (y4 : Int32) (t : ct_St) : Int32 :=
  if X8_isOn_r x 0 t = 0 then
    if X8_isOn_r x 1 t = 0 then
      let x3 := y4 + (t 38 (ix x))
      x3
    else
      let x6 := y4 + (t 38 (ix x))
      x6
  else
    if X8_isOn_r x 1 t = 0 then
      let x9 := y4 + (t 38 (ix x))
      x9
    else
      let x12 := y4 + (t 38 (ix x))
      x12
set_option maxHeartbeats 4000000 in
set_option maxRecDepth 100000 in
theorem cb_X8_many {p : Program} {e : Env} {s : State} {m : MethodId} {args : Array Value} {below : List Frame} {meth : Method} {cd : Code} {A : Nat → Prop} {Q : State → Prop} (l : Launch) (g : ct_G) (C : Cx p s m args cd A g cX8_many RX8 wsX8_many 6) (t : ct_St) (a1 : Int32) (x : Int32) (y2 : Int32) (y3 : Int32) (y4 : Int32) (hx : vp_in x 4) (K : ∀ (ls : Array Slot) (x1 : Int32), x1 = x + 1 → lv_has ls 6 [(0, .ref (g.2.1 30)), (1, .int a1), (2, .int (X8_many_a2 a1 x y2 y3 y4 t)), (3, .int (X8_many_a3 a1 x y2 y3 y4 t)), (4, .int (X8_many_a4 a1 x y2 y3 y4 t)), (5, .int x1)] → VW p l e (rmd 1) s m args below meth cd 0 0 Q A g shG t (F0 m 10 ls [])) (ls : Array Slot) (hl : lv_has ls 6 [(0, .ref (g.2.1 30)), (1, .int a1), (2, .int y2), (3, .int y3), (4, .int y4), (5, .int x)]) : VW p l e (rmd 1) s m args below meth cd 0 0 Q A g shG t (F0 m 10 ls []) := by
  refine v_iload C dX8_many_10 (lv_at hl 5 rfl) ?_
  refine v_iconst (v := 4) C dX8_many_12 (by decide) ?_
  refine v_icmp_ge (tgt := 78) C dX8_many_13 (by decide) (fun h => absurd h ((vp_nle hx (by decide)))) (fun _ => ?_)
  refine v_iload_n C dX8_many_16 rfl (lv_at hl 2 rfl) ?_
  refine v_aload_n C dX8_many_17 rfl (lv_at hl 0 rfl) ?_
  refine v_iload C dX8_many_18 (lv_at hl 5 rfl) ?_
  refine v_iconst (v := 0) C dX8_many_20 (by decide) ?_
  refine v_calli C (c_X8_isOn l g _ _ _ hx) (cwV 2 C.2.2.2.2.1 gX8_many_X8_isOn rfl rfl rfl hv_X8_isOn ⟨Nat.le_of_ble_eq_true rfl, Nat.le_of_ble_eq_true rfl⟩) k_30 rfl rfl rfl rfl hl.1 rfl (Nat.le_of_ble_eq_true rfl) dX8_many_21 ⟨Nat.le_refl _, Nat.le_refl _⟩ ?_
  refine v_if_eq (tgt := 31) C dX8_many_24 (by decide) (fun c_2 => ?_) (fun c_2 => ?_)
  · refine v_iconst (v := 0) C dX8_many_31 (by decide) ?_
    refine v_aload_n C dX8_many_32 rfl (lv_at hl 0 rfl) ?_
    refine v_iload C dX8_many_33 (lv_at hl 5 rfl) ?_
    refine v_iconst (v := 1) C dX8_many_35 (by decide) ?_
    refine v_calli C (c_X8_isOn l g _ _ _ hx) (cwV 2 C.2.2.2.2.1 gX8_many_X8_isOn rfl rfl rfl hv_X8_isOn ⟨Nat.le_of_ble_eq_true rfl, Nat.le_of_ble_eq_true rfl⟩) k_30 rfl rfl rfl rfl hl.1 rfl (Nat.le_of_ble_eq_true rfl) dX8_many_36 ⟨Nat.le_refl _, Nat.le_refl _⟩ ?_
    refine v_if_eq (tgt := 46) C dX8_many_39 (by decide) (fun c_3 => ?_) (fun c_3 => ?_)
    · refine v_iconst (v := 0) C dX8_many_46 (by decide) ?_
      refine v_iadd C dX8_many_47 ?_
      refine v_lit (v := 0) (by decide) ?_
      refine v_iadd C dX8_many_48 ?_
      refine v_istore_n (lv' := [(2, _), (0, _), (1, _), (3, _), (4, _), (5, _)]) C dX8_many_49 rfl hl (by decide) rfl (fun ls hl => ?_)
      refine v_iload_n C dX8_many_50 rfl (lv_at hl 3 rfl) ?_
      refine v_aload_n C dX8_many_51 rfl (lv_at hl 1 rfl) ?_
      refine v_getR C iX8_many_X8 k_30 rfl rfl (j := 22) rfl (by decide) rfl (C.w 1 rfl) dX8_many_52 ?_
      refine v_iload C dX8_many_55 (lv_at hl 5 rfl) ?_
      refine v_iald C k_52 rfl hx dX8_many_57 ?_
      refine v_iadd C dX8_many_58 ?_
      refine v_istore_n (lv' := [(3, _), (2, _), (0, _), (1, _), (4, _), (5, _)]) C dX8_many_59 rfl hl (by decide) rfl (fun ls hl => ?_)
      refine v_iload C dX8_many_60 (lv_at hl 4 rfl) ?_
      refine v_aload_n C dX8_many_62 rfl (lv_at hl 2 rfl) ?_
      refine v_getR C iX8_many_X8 k_30 rfl rfl (j := 8) rfl (by decide) rfl (C.w 2 rfl) dX8_many_63 ?_
      refine v_iload C dX8_many_66 (lv_at hl 5 rfl) ?_
      refine v_iald C k_38 rfl hx dX8_many_68 ?_
      refine v_iadd C dX8_many_69 ?_
      refine v_istore (lv' := [(4, _), (3, _), (2, _), (0, _), (1, _), (5, _)]) C dX8_many_70 hl (by decide) rfl (fun ls hl => ?_)
      refine v_iinc (k0 := 5) (v := _ + 1) (lv' := [(5, _), (4, _), (3, _), (2, _), (0, _), (1, _)]) C dX8_many_72 hl rfl rfl (by decide) rfl (fun ls hl => ?_)
      refine v_goto (tgt := 10) C dX8_many_75 (by decide) ?_
      exact VW.st rfl (K ls _ rfl (by have hz := lv_sub hl [4, 5, 3, 2, 1, 0] rfl; rw [show X8_many_a2 a1 x y2 y3 y4 t = _ from ((if_pos c_2).trans ((if_pos c_3).trans rfl))]; rw [show X8_many_a3 a1 x y2 y3 y4 t = _ from ((if_pos c_2).trans ((if_pos c_3).trans rfl))]; rw [show X8_many_a4 a1 x y2 y3 y4 t = _ from ((if_pos c_2).trans ((if_pos c_3).trans rfl))]; exact hz))
    · refine v_iconst (v := 1) C dX8_many_42 (by decide) ?_
      refine v_goto (tgt := 47) C dX8_many_43 (by decide) ?_
      refine v_iadd C dX8_many_47 ?_
      refine v_lit (v := 1) (by decide) ?_
      refine v_iadd C dX8_many_48 ?_
      refine v_istore_n (lv' := [(2, _), (0, _), (1, _), (3, _), (4, _), (5, _)]) C dX8_many_49 rfl hl (by decide) rfl (fun ls hl => ?_)
      refine v_iload_n C dX8_many_50 rfl (lv_at hl 3 rfl) ?_
      refine v_aload_n C dX8_many_51 rfl (lv_at hl 1 rfl) ?_
      refine v_getR C iX8_many_X8 k_30 rfl rfl (j := 22) rfl (by decide) rfl (C.w 1 rfl) dX8_many_52 ?_
      refine v_iload C dX8_many_55 (lv_at hl 5 rfl) ?_
      refine v_iald C k_52 rfl hx dX8_many_57 ?_
      refine v_iadd C dX8_many_58 ?_
      refine v_istore_n (lv' := [(3, _), (2, _), (0, _), (1, _), (4, _), (5, _)]) C dX8_many_59 rfl hl (by decide) rfl (fun ls hl => ?_)
      refine v_iload C dX8_many_60 (lv_at hl 4 rfl) ?_
      refine v_aload_n C dX8_many_62 rfl (lv_at hl 2 rfl) ?_
      refine v_getR C iX8_many_X8 k_30 rfl rfl (j := 8) rfl (by decide) rfl (C.w 2 rfl) dX8_many_63 ?_
      refine v_iload C dX8_many_66 (lv_at hl 5 rfl) ?_
      refine v_iald C k_38 rfl hx dX8_many_68 ?_
      refine v_iadd C dX8_many_69 ?_
      refine v_istore (lv' := [(4, _), (3, _), (2, _), (0, _), (1, _), (5, _)]) C dX8_many_70 hl (by decide) rfl (fun ls hl => ?_)
      refine v_iinc (k0 := 5) (v := _ + 1) (lv' := [(5, _), (4, _), (3, _), (2, _), (0, _), (1, _)]) C dX8_many_72 hl rfl rfl (by decide) rfl (fun ls hl => ?_)
      refine v_goto (tgt := 10) C dX8_many_75 (by decide) ?_
      exact VW.st rfl (K ls _ rfl (by have hz := lv_sub hl [4, 5, 3, 2, 1, 0] rfl; rw [show X8_many_a2 a1 x y2 y3 y4 t = _ from ((if_pos c_2).trans ((if_neg c_3).trans rfl))]; rw [show X8_many_a3 a1 x y2 y3 y4 t = _ from ((if_pos c_2).trans ((if_neg c_3).trans rfl))]; rw [show X8_many_a4 a1 x y2 y3 y4 t = _ from ((if_pos c_2).trans ((if_neg c_3).trans rfl))]; exact hz))
  · refine v_iconst (v := 1) C dX8_many_27 (by decide) ?_
    refine v_goto (tgt := 32) C dX8_many_28 (by decide) ?_
    refine v_aload_n C dX8_many_32 rfl (lv_at hl 0 rfl) ?_
    refine v_iload C dX8_many_33 (lv_at hl 5 rfl) ?_
    refine v_iconst (v := 1) C dX8_many_35 (by decide) ?_
    refine v_calli C (c_X8_isOn l g _ _ _ hx) (cwV 2 C.2.2.2.2.1 gX8_many_X8_isOn rfl rfl rfl hv_X8_isOn ⟨Nat.le_of_ble_eq_true rfl, Nat.le_of_ble_eq_true rfl⟩) k_30 rfl rfl rfl rfl hl.1 rfl (Nat.le_of_ble_eq_true rfl) dX8_many_36 ⟨Nat.le_refl _, Nat.le_refl _⟩ ?_
    refine v_if_eq (tgt := 46) C dX8_many_39 (by decide) (fun c_4 => ?_) (fun c_4 => ?_)
    · refine v_iconst (v := 0) C dX8_many_46 (by decide) ?_
      refine v_iadd C dX8_many_47 ?_
      refine v_lit (v := 1) (by decide) ?_
      refine v_iadd C dX8_many_48 ?_
      refine v_istore_n (lv' := [(2, _), (0, _), (1, _), (3, _), (4, _), (5, _)]) C dX8_many_49 rfl hl (by decide) rfl (fun ls hl => ?_)
      refine v_iload_n C dX8_many_50 rfl (lv_at hl 3 rfl) ?_
      refine v_aload_n C dX8_many_51 rfl (lv_at hl 1 rfl) ?_
      refine v_getR C iX8_many_X8 k_30 rfl rfl (j := 22) rfl (by decide) rfl (C.w 1 rfl) dX8_many_52 ?_
      refine v_iload C dX8_many_55 (lv_at hl 5 rfl) ?_
      refine v_iald C k_52 rfl hx dX8_many_57 ?_
      refine v_iadd C dX8_many_58 ?_
      refine v_istore_n (lv' := [(3, _), (2, _), (0, _), (1, _), (4, _), (5, _)]) C dX8_many_59 rfl hl (by decide) rfl (fun ls hl => ?_)
      refine v_iload C dX8_many_60 (lv_at hl 4 rfl) ?_
      refine v_aload_n C dX8_many_62 rfl (lv_at hl 2 rfl) ?_
      refine v_getR C iX8_many_X8 k_30 rfl rfl (j := 8) rfl (by decide) rfl (C.w 2 rfl) dX8_many_63 ?_
      refine v_iload C dX8_many_66 (lv_at hl 5 rfl) ?_
      refine v_iald C k_38 rfl hx dX8_many_68 ?_
      refine v_iadd C dX8_many_69 ?_
      refine v_istore (lv' := [(4, _), (3, _), (2, _), (0, _), (1, _), (5, _)]) C dX8_many_70 hl (by decide) rfl (fun ls hl => ?_)
      refine v_iinc (k0 := 5) (v := _ + 1) (lv' := [(5, _), (4, _), (3, _), (2, _), (0, _), (1, _)]) C dX8_many_72 hl rfl rfl (by decide) rfl (fun ls hl => ?_)
      refine v_goto (tgt := 10) C dX8_many_75 (by decide) ?_
      exact VW.st rfl (K ls _ rfl (by have hz := lv_sub hl [4, 5, 3, 2, 1, 0] rfl; rw [show X8_many_a2 a1 x y2 y3 y4 t = _ from ((if_neg c_2).trans ((if_pos c_4).trans rfl))]; rw [show X8_many_a3 a1 x y2 y3 y4 t = _ from ((if_neg c_2).trans ((if_pos c_4).trans rfl))]; rw [show X8_many_a4 a1 x y2 y3 y4 t = _ from ((if_neg c_2).trans ((if_pos c_4).trans rfl))]; exact hz))
    · refine v_iconst (v := 1) C dX8_many_42 (by decide) ?_
      refine v_goto (tgt := 47) C dX8_many_43 (by decide) ?_
      refine v_iadd C dX8_many_47 ?_
      refine v_lit (v := 2) (by decide) ?_
      refine v_iadd C dX8_many_48 ?_
      refine v_istore_n (lv' := [(2, _), (0, _), (1, _), (3, _), (4, _), (5, _)]) C dX8_many_49 rfl hl (by decide) rfl (fun ls hl => ?_)
      refine v_iload_n C dX8_many_50 rfl (lv_at hl 3 rfl) ?_
      refine v_aload_n C dX8_many_51 rfl (lv_at hl 1 rfl) ?_
      refine v_getR C iX8_many_X8 k_30 rfl rfl (j := 22) rfl (by decide) rfl (C.w 1 rfl) dX8_many_52 ?_
      refine v_iload C dX8_many_55 (lv_at hl 5 rfl) ?_
      refine v_iald C k_52 rfl hx dX8_many_57 ?_
      refine v_iadd C dX8_many_58 ?_
      refine v_istore_n (lv' := [(3, _), (2, _), (0, _), (1, _), (4, _), (5, _)]) C dX8_many_59 rfl hl (by decide) rfl (fun ls hl => ?_)
      refine v_iload C dX8_many_60 (lv_at hl 4 rfl) ?_
      refine v_aload_n C dX8_many_62 rfl (lv_at hl 2 rfl) ?_
      refine v_getR C iX8_many_X8 k_30 rfl rfl (j := 8) rfl (by decide) rfl (C.w 2 rfl) dX8_many_63 ?_
      refine v_iload C dX8_many_66 (lv_at hl 5 rfl) ?_
      refine v_iald C k_38 rfl hx dX8_many_68 ?_
      refine v_iadd C dX8_many_69 ?_
      refine v_istore (lv' := [(4, _), (3, _), (2, _), (0, _), (1, _), (5, _)]) C dX8_many_70 hl (by decide) rfl (fun ls hl => ?_)
      refine v_iinc (k0 := 5) (v := _ + 1) (lv' := [(5, _), (4, _), (3, _), (2, _), (0, _), (1, _)]) C dX8_many_72 hl rfl rfl (by decide) rfl (fun ls hl => ?_)
      refine v_goto (tgt := 10) C dX8_many_75 (by decide) ?_
      exact VW.st rfl (K ls _ rfl (by have hz := lv_sub hl [4, 5, 3, 2, 1, 0] rfl; rw [show X8_many_a2 a1 x y2 y3 y4 t = _ from ((if_neg c_2).trans ((if_neg c_4).trans rfl))]; rw [show X8_many_a3 a1 x y2 y3 y4 t = _ from ((if_neg c_2).trans ((if_neg c_4).trans rfl))]; rw [show X8_many_a4 a1 x y2 y3 y4 t = _ from ((if_neg c_2).trans ((if_neg c_4).trans rfl))]; exact hz))
def X8_many_r (a1 : Int32) (t : ct_St) : Int32 :=
  let x1 := X8_many_a2 a1 0 0 0 0 t
  let x2 := X8_many_a3 a1 0 0 0 0 t
  let x3 := X8_many_a4 a1 0 0 0 0 t
  let x4 := X8_many_a2 a1 1 x1 x2 x3 t
  let x5 := X8_many_a3 a1 1 x1 x2 x3 t
  let x6 := X8_many_a4 a1 1 x1 x2 x3 t
  let x7 := X8_many_a2 a1 2 x4 x5 x6 t
  let x8 := X8_many_a3 a1 2 x4 x5 x6 t
  let x9 := X8_many_a4 a1 2 x4 x5 x6 t
  let x10 := X8_many_a2 a1 3 x7 x8 x9 t
  let x11 := X8_many_a3 a1 3 x7 x8 x9 t
  let x12 := X8_many_a4 a1 3 x7 x8 x9 t
  if a1 = 0 then
    t 30 0
  else
    if a1 = 1 then
      if t 30 32 = 0 then
        0
      else
        1
    else
      if a1 = 2 then
        x10
      else
        if a1 = 3 then
          t 30 34
        else
          if a1 = 4 then
            x11
          else
            if a1 = 5 then
              x12
            else
              (-2)
set_option maxHeartbeats 4000000 in
set_option maxRecDepth 100000 in
theorem c_X8_many (l : Launch) (g : ct_G) (t : ct_St) (a1 : Int32) : MI l g shG yX8_many wsX8_many (rmd 1) [.ref (g.2.1 30), .int a1] t (X8_many_r a1 t) t := by
  refine MI.of (own := RX8) (cc := cX8_many) (maxL := 6) rfl (by decide) rfl (Nat.le_of_ble_eq_true rfl) (fun p e s m args below meth cd A Q C hret ls hl => ?_)
  have hl : lv_has ls 6 [(0, .ref (g.2.1 30)), (1, .int a1)] := hl
  refine v_iconst (v := 0) C dX8_many_0 (by decide) ?_
  refine v_istore_n (lv' := [(2, _), (0, _), (1, _)]) C dX8_many_1 rfl hl (by decide) rfl (fun ls hl => ?_)
  refine v_iconst (v := 0) C dX8_many_2 (by decide) ?_
  refine v_istore_n (lv' := [(3, _), (2, _), (0, _), (1, _)]) C dX8_many_3 rfl hl (by decide) rfl (fun ls hl => ?_)
  refine v_iconst (v := 0) C dX8_many_4 (by decide) ?_
  refine v_istore (lv' := [(4, _), (3, _), (2, _), (0, _), (1, _)]) C dX8_many_5 hl (by decide) rfl (fun ls hl => ?_)
  refine v_iconst (v := 0) C dX8_many_7 (by decide) ?_
  refine v_istore (lv' := [(5, _), (4, _), (3, _), (2, _), (0, _), (1, _)]) C dX8_many_8 hl (by decide) rfl (fun ls hl => ?_)
  refine cb_X8_many l g C _ _ 0 _ _ _ vl_0_4 (fun ls x1 hx1 hl => ?_) ls (lv_sub hl [4, 5, 3, 2, 1, 0] rfl)
  obtain rfl : x1 = 1 := hx1.trans (by decide)
  refine cb_X8_many l g C _ _ 1 _ _ _ vl_1_4 (fun ls x1 hx1 hl => ?_) ls (lv_sub hl [0, 1, 2, 3, 4, 5] rfl)
  obtain rfl : x1 = 2 := hx1.trans (by decide)
  refine cb_X8_many l g C _ _ 2 _ _ _ vl_2_4 (fun ls x1 hx1 hl => ?_) ls (lv_sub hl [0, 1, 2, 3, 4, 5] rfl)
  obtain rfl : x1 = 3 := hx1.trans (by decide)
  refine cb_X8_many l g C _ _ 3 _ _ _ vl_3_4 (fun ls x1 hx1 hl => ?_) ls (lv_sub hl [0, 1, 2, 3, 4, 5] rfl)
  obtain rfl : x1 = 4 := hx1.trans (by decide)
  refine v_iload C dX8_many_10 (lv_at hl 5 rfl) ?_
  refine v_iconst (v := 4) C dX8_many_12 (by decide) ?_
  refine v_icmp_ge (tgt := 78) C dX8_many_13 (by decide) (fun _ => ?_) (fun h => absurd h (by decide))
  refine v_iload_n C dX8_many_78 rfl (lv_at hl 1 rfl) ?_
  refine v_by (v := 0) (fun c_2 => ?_) (fun c_2 => ?_)
  · refine v_tabIn (off := 37) (tgt := 116) C dX8_many_79 c_2 (by decide) (by decide) (by decide) (by decide) ?_
    refine v_aload_n C dX8_many_116 rfl (lv_at hl 0 rfl) ?_
    refine v_getI C iX8_many_X8 k_30 rfl rfl (j := 0) rfl (by decide) rfl (C.w 3 rfl) dX8_many_117 ?_
    exact hret _ _ _ _ (Eq.symm ((if_pos c_2).trans rfl)) rfl dX8_many_120
  · refine v_by (v := 1) (fun c_3 => ?_) (fun c_3 => ?_)
    · refine v_tabIn (off := 42) (tgt := 121) C dX8_many_79 c_3 (by decide) (by decide) (by decide) (by decide) ?_
      refine v_aload_n C dX8_many_121 rfl (lv_at hl 0 rfl) ?_
      refine v_getI C iX8_many_X8 k_30 rfl rfl (j := 32) rfl (by decide) rfl (C.w 4 rfl) dX8_many_122 ?_
      refine v_if_eq (tgt := 132) C dX8_many_125 (by decide) (fun c_4 => ?_) (fun c_4 => ?_)
      · refine v_iconst (v := 0) C dX8_many_132 (by decide) ?_
        exact hret _ _ _ _ (Eq.symm ((if_neg c_2).trans ((if_pos c_3).trans ((if_pos c_4).trans rfl)))) rfl dX8_many_133
      · refine v_iconst (v := 1) C dX8_many_128 (by decide) ?_
        refine v_goto (tgt := 133) C dX8_many_129 (by decide) ?_
        exact hret _ _ _ _ (Eq.symm ((if_neg c_2).trans ((if_pos c_3).trans ((if_neg c_4).trans rfl)))) rfl dX8_many_133
    · refine v_by (v := 2) (fun c_5 => ?_) (fun c_5 => ?_)
      · refine v_tabIn (off := 55) (tgt := 134) C dX8_many_79 c_5 (by decide) (by decide) (by decide) (by decide) ?_
        refine v_iload_n C dX8_many_134 rfl (lv_at hl 2 rfl) ?_
        exact hret _ _ _ _ (Eq.symm ((if_neg c_2).trans ((if_neg c_3).trans ((if_pos c_5).trans rfl)))) rfl dX8_many_135
      · refine v_by (v := 3) (fun c_6 => ?_) (fun c_6 => ?_)
        · refine v_tabIn (off := 57) (tgt := 136) C dX8_many_79 c_6 (by decide) (by decide) (by decide) (by decide) ?_
          refine v_aload_n C dX8_many_136 rfl (lv_at hl 0 rfl) ?_
          refine v_getI C iX8_many_X8 k_30 rfl rfl (j := 34) rfl (by decide) rfl (C.w 5 rfl) dX8_many_137 ?_
          exact hret _ _ _ _ (Eq.symm ((if_neg c_2).trans ((if_neg c_3).trans ((if_neg c_5).trans ((if_pos c_6).trans rfl))))) rfl dX8_many_140
        · refine v_by (v := 4) (fun c_7 => ?_) (fun c_7 => ?_)
          · refine v_tabIn (off := 62) (tgt := 141) C dX8_many_79 c_7 (by decide) (by decide) (by decide) (by decide) ?_
            refine v_iload_n C dX8_many_141 rfl (lv_at hl 3 rfl) ?_
            exact hret _ _ _ _ (Eq.symm ((if_neg c_2).trans ((if_neg c_3).trans ((if_neg c_5).trans ((if_neg c_6).trans ((if_pos c_7).trans rfl)))))) rfl dX8_many_142
          · refine v_by (v := 5) (fun c_8 => ?_) (fun c_8 => ?_)
            · refine v_tabIn (off := 64) (tgt := 143) C dX8_many_79 c_8 (by decide) (by decide) (by decide) (by decide) ?_
              refine v_iload C dX8_many_143 (lv_at hl 4 rfl) ?_
              exact hret _ _ _ _ (Eq.symm ((if_neg c_2).trans ((if_neg c_3).trans ((if_neg c_5).trans ((if_neg c_6).trans ((if_neg c_7).trans ((if_pos c_8).trans rfl))))))) rfl dX8_many_145
            · refine v_tabOut (tgt := 146) C dX8_many_79 (by have h0 := lv_neT (a := 0) c_2 (by decide); have h1 := lv_neT (a := 1) c_3 (by decide); have h2 := lv_neT (a := 2) c_5 (by decide); have h3 := lv_neT (a := 3) c_6 (by decide); have h4 := lv_neT (a := 4) c_7 (by decide); have h5 := lv_neT (a := 5) c_8 (by decide); omega) (by decide) ?_
              refine v_bipush (v := (-2)) C dX8_many_146 (by decide) ?_
              exact hret _ _ _ _ (Eq.symm ((if_neg c_2).trans ((if_neg c_3).trans ((if_neg c_5).trans ((if_neg c_6).trans ((if_neg c_7).trans ((if_neg c_8).trans rfl))))))) rfl dX8_many_148
