theorem iX0_setUp_X0 : ∀ w ∈ wsX00, w ∈ wsX0_setUp := fun _ h => (List.mem_cons_of_mem _ (List.mem_append_right _ h))
theorem hv_X0_setUp : yX0_setUp.cls = RX0 ∧ yX0_setUp.cls ≠ "java/lang/invoke/MethodHandle" ∧ yX0_setUp.cls ≠ "java/lang/invoke/VarHandle" ∧ (parseMethodDescriptor yX0_setUp.desc).map (fun d => d.parameters.length) = some 3 := by decide +kernel
def X0_setUp_s (a1 : Int32) (a2 : Int32) (a3 : Int32) (f : Nat → Int32) : Nat → Int32 :=
  let t1 := upd f 0 a1
  let t2 := upd t1 1 a2
  let t3 := upd t2 2 a3
  let t4 := upd t3 3 0
  let t5 := upd t4 4 0
  let t6 := upd t5 5 0
  let t7 := upd t6 6 0
  t7
set_option maxHeartbeats 4000000 in
set_option maxRecDepth 100000 in
theorem c_X0_setUp (l : Launch) (g : ct_G) (t : ct_St) (i : Nat) (hi : shG[i]? = some (.inr (.inr (0, fsX0)))) (f : Nat → Int32) (a1 : Int32) (a2 : Int32) (a3 : Int32) : MV l g shG yX0_setUp wsX0_setUp (rmd 0) [.ref (g.2.1 i), .int a1, .int a2, .int a3] (ur t i f) (ur t i (X0_setUp_s a1 a2 a3 f)) := by
  refine MV.of (own := RX0) (cc := cX0_setUp) (maxL := 4) rfl (by decide) rfl (Nat.le_of_ble_eq_true rfl) (fun p e s m args below meth cd A Q C hret ls hl => ?_)
  have hl : lv_has ls 4 [(0, .ref (g.2.1 i)), (1, .int a1), (2, .int a2), (3, .int a3)] := hl
  refine v_aload_n C dX0_setUp_0 rfl (lv_at hl 0 rfl) ?_
  refine v_iload_n C dX0_setUp_1 rfl (lv_at hl 1 rfl) ?_
  refine v_putF C iX0_setUp_X0 tyX0 tyX0_ok nmX0 hi rfl rfl (j := 0) rfl (by decide) rfl (C.w 1 rfl) rfl rfl rfl dX0_setUp_2 ?_
  refine v_aload_n C dX0_setUp_5 rfl (lv_at hl 0 rfl) ?_
  refine v_iload_n C dX0_setUp_6 rfl (lv_at hl 2 rfl) ?_
  refine v_putF C iX0_setUp_X0 tyX0 tyX0_ok nmX0 hi rfl rfl (j := 1) rfl (by decide) rfl (C.w 2 rfl) rfl rfl rfl dX0_setUp_7 ?_
  refine v_aload_n C dX0_setUp_10 rfl (lv_at hl 0 rfl) ?_
  refine v_iload_n C dX0_setUp_11 rfl (lv_at hl 3 rfl) ?_
  refine v_putF C iX0_setUp_X0 tyX0 tyX0_ok nmX0 hi rfl rfl (j := 2) rfl (by decide) rfl (C.w 3 rfl) rfl rfl rfl dX0_setUp_12 ?_
  refine v_aload_n C dX0_setUp_15 rfl (lv_at hl 0 rfl) ?_
  refine v_iconst (v := 0) C dX0_setUp_16 (by decide) ?_
  refine v_putF C iX0_setUp_X0 tyX0 tyX0_ok nmX0 hi rfl rfl (j := 3) rfl (by decide) rfl (C.w 4 rfl) rfl rfl rfl dX0_setUp_17 ?_
  refine v_aload_n C dX0_setUp_20 rfl (lv_at hl 0 rfl) ?_
  refine v_iconst (v := 0) C dX0_setUp_21 (by decide) ?_
  refine v_putF C iX0_setUp_X0 tyX0 tyX0_ok nmX0 hi rfl rfl (j := 4) rfl (by decide) rfl (C.w 5 rfl) rfl rfl rfl dX0_setUp_22 ?_
  refine v_aload_n C dX0_setUp_25 rfl (lv_at hl 0 rfl) ?_
  refine v_iconst (v := 0) C dX0_setUp_26 (by decide) ?_
  refine v_putF C iX0_setUp_X0 tyX0 tyX0_ok nmX0 hi rfl rfl (j := 5) rfl (by decide) rfl (C.w 6 rfl) rfl rfl rfl dX0_setUp_27 ?_
  refine v_aload_n C dX0_setUp_30 rfl (lv_at hl 0 rfl) ?_
  refine v_iconst (v := 0) C dX0_setUp_31 (by decide) ?_
  refine v_putF C iX0_setUp_X0 tyX0 tyX0_ok nmX0 hi rfl rfl (j := 6) rfl (by decide) rfl (C.w 7 rfl) rfl rfl rfl dX0_setUp_32 ?_
  exact hret _ _ _ rfl dX0_setUp_35
theorem iX0_notice_X0 : ∀ w ∈ wsX00, w ∈ wsX0_notice := fun _ h => (List.mem_cons_of_mem _ (List.mem_append_right _ h))
theorem hv_X0_notice : yX0_notice.cls = RX0 ∧ yX0_notice.cls ≠ "java/lang/invoke/MethodHandle" ∧ yX0_notice.cls ≠ "java/lang/invoke/VarHandle" ∧ (parseMethodDescriptor yX0_notice.desc).map (fun d => d.parameters.length) = some 2 := by decide +kernel
def X0_notice_s (a1 : Int32) (a2 : Int32) (f : Nat → Int32) : Nat → Int32 :=
  if (f 1) &&& a1 = 0 then
    f
  else
    let t1 := upd f 3 ((f 3) + 1)
    if (t1 3) - (t1 3) / (t1 2) * (t1 2) = 0 then
      let t2 := upd t1 6 ((t1 6) + (t1 5))
      let t3 := upd t2 4 a2
      let t4 := upd t3 5 1
      t4
    else
      t1
set_option maxHeartbeats 4000000 in
set_option maxRecDepth 100000 in
theorem c_X0_notice (l : Launch) (g : ct_G) (t : ct_St) (i : Nat) (hi : shG[i]? = some (.inr (.inr (0, fsX0)))) (f : Nat → Int32) (a1 : Int32) (a2 : Int32) (hv : ¬ f 2 = 0) : MV l g shG yX0_notice wsX0_notice (rmd 0) [.ref (g.2.1 i), .int a1, .int a2] (ur t i f) (ur t i (X0_notice_s a1 a2 f)) := by
  refine MV.of (own := RX0) (cc := cX0_notice) (maxL := 3) rfl (by decide) rfl (Nat.le_of_ble_eq_true rfl) (fun p e s m args below meth cd A Q C hret ls hl => ?_)
  have hl : lv_has ls 3 [(0, .ref (g.2.1 i)), (1, .int a1), (2, .int a2)] := hl
  refine v_aload_n C dX0_notice_0 rfl (lv_at hl 0 rfl) ?_
  refine v_getF C iX0_notice_X0 hi rfl rfl (j := 1) rfl (by decide) rfl (C.w 1 rfl) dX0_notice_1 ?_
  refine v_iload_n C dX0_notice_4 rfl (lv_at hl 1 rfl) ?_
  refine v_iand C dX0_notice_5 ?_
  refine v_if_ne (tgt := 10) C dX0_notice_6 (by decide) (fun c_1 => ?_) (fun c_1 => ?_)
  · refine v_aload_n C dX0_notice_10 rfl (lv_at hl 0 rfl) ?_
    refine v_dup C dX0_notice_11 rfl ?_
    refine v_getF C iX0_notice_X0 hi rfl rfl (j := 3) rfl (by decide) rfl (C.w 2 rfl) dX0_notice_12 ?_
    refine v_iconst (v := 1) C dX0_notice_15 (by decide) ?_
    refine v_iadd C dX0_notice_16 ?_
    refine v_putF C iX0_notice_X0 tyX0 tyX0_ok nmX0 hi rfl rfl (j := 3) rfl (by decide) rfl (C.w 2 rfl) rfl rfl rfl dX0_notice_17 ?_
    refine v_aload_n C dX0_notice_20 rfl (lv_at hl 0 rfl) ?_
    refine v_getF C iX0_notice_X0 hi rfl rfl (j := 3) rfl (by decide) rfl (C.w 2 rfl) dX0_notice_21 ?_
    refine v_aload_n C dX0_notice_24 rfl (lv_at hl 0 rfl) ?_
    refine v_getF C iX0_notice_X0 hi rfl rfl (j := 2) rfl (by decide) rfl (C.w 3 rfl) dX0_notice_25 ?_
    refine v_irem C dX0_notice_28 hv ?_
    refine v_if_ne (tgt := 55) C dX0_notice_29 (by decide) (fun c_2 => ?_) (fun c_2 => ?_)
    · exact hret _ _ _ (congrArg (ur _ _) (Eq.symm ((if_neg c_1).trans ((if_neg c_2).trans rfl)))) dX0_notice_55
    · refine v_aload_n C dX0_notice_32 rfl (lv_at hl 0 rfl) ?_
      refine v_dup C dX0_notice_33 rfl ?_
      refine v_getF C iX0_notice_X0 hi rfl rfl (j := 6) rfl (by decide) rfl (C.w 4 rfl) dX0_notice_34 ?_
      refine v_aload_n C dX0_notice_37 rfl (lv_at hl 0 rfl) ?_
      refine v_getF C iX0_notice_X0 hi rfl rfl (j := 5) rfl (by decide) rfl (C.w 5 rfl) dX0_notice_38 ?_
      refine v_iadd C dX0_notice_41 ?_
      refine v_putF C iX0_notice_X0 tyX0 tyX0_ok nmX0 hi rfl rfl (j := 6) rfl (by decide) rfl (C.w 4 rfl) rfl rfl rfl dX0_notice_42 ?_
      refine v_aload_n C dX0_notice_45 rfl (lv_at hl 0 rfl) ?_
      refine v_iload_n C dX0_notice_46 rfl (lv_at hl 2 rfl) ?_
      refine v_putF C iX0_notice_X0 tyX0 tyX0_ok nmX0 hi rfl rfl (j := 4) rfl (by decide) rfl (C.w 6 rfl) rfl rfl rfl dX0_notice_47 ?_
      refine v_aload_n C dX0_notice_50 rfl (lv_at hl 0 rfl) ?_
      refine v_iconst (v := 1) C dX0_notice_51 (by decide) ?_
      refine v_putF C iX0_notice_X0 tyX0 tyX0_ok nmX0 hi rfl rfl (j := 5) rfl (by decide) rfl (C.w 5 rfl) rfl rfl rfl dX0_notice_52 ?_
      exact hret _ _ _ (congrArg (ur _ _) (Eq.symm ((if_neg c_1).trans ((if_pos c_2).trans rfl)))) dX0_notice_55
  · exact hret _ _ _ (congrArg (ur _ _) (Eq.symm ((if_pos c_1).trans rfl))) dX0_notice_9
theorem iX0_handOver_X0 : ∀ w ∈ wsX00, w ∈ wsX0_handOver := fun _ h => (List.mem_cons_of_mem _ (List.mem_append_right _ h))
theorem hv_X0_handOver : yX0_handOver.cls = RX0 ∧ yX0_handOver.cls ≠ "java/lang/invoke/MethodHandle" ∧ yX0_handOver.cls ≠ "java/lang/invoke/VarHandle" ∧ (parseMethodDescriptor yX0_handOver.desc).map (fun d => d.parameters.length) = some 0 := by decide +kernel
def X0_handOver_r (f : Nat → Int32) : Int32 :=
  if f 5 = 1 then
    let x2 := f 4
    x2
  else
    (-9)
def X0_handOver_s (f : Nat → Int32) : Nat → Int32 :=
  if f 5 = 1 then
    let t3 := upd f 5 0
    t3
  else
    let t1 := upd f 5 0
    t1
set_option maxHeartbeats 4000000 in
set_option maxRecDepth 100000 in
theorem c_X0_handOver (l : Launch) (g : ct_G) (t : ct_St) (i : Nat) (hi : shG[i]? = some (.inr (.inr (0, fsX0)))) (f : Nat → Int32) : MI l g shG yX0_handOver wsX0_handOver (rmd 0) [.ref (g.2.1 i)] (ur t i f) (X0_handOver_r f) (ur t i (X0_handOver_s f)) := by
  refine MI.of (own := RX0) (cc := cX0_handOver) (maxL := 2) rfl (by decide) rfl (Nat.le_of_ble_eq_true rfl) (fun p e s m args below meth cd A Q C hret ls hl => ?_)
  have hl : lv_has ls 2 [(0, .ref (g.2.1 i))] := hl
  refine v_aload_n C dX0_handOver_0 rfl (lv_at hl 0 rfl) ?_
  refine v_getF C iX0_handOver_X0 hi rfl rfl (j := 5) rfl (by decide) rfl (C.w 1 rfl) dX0_handOver_1 ?_
  refine v_iconst (v := 1) C dX0_handOver_4 (by decide) ?_
  refine v_icmp_ne (tgt := 15) C dX0_handOver_5 (by decide) (fun c_1 => ?_) (fun c_1 => ?_)
  · refine v_bipush (v := (-9)) C dX0_handOver_15 (by decide) ?_
    refine v_istore_n (lv' := [(1, _), (0, _)]) C dX0_handOver_17 rfl hl (by decide) rfl (fun ls hl => ?_)
    refine v_aload_n C dX0_handOver_18 rfl (lv_at hl 1 rfl) ?_
    refine v_iconst (v := 0) C dX0_handOver_19 (by decide) ?_
    refine v_putF C iX0_handOver_X0 tyX0 tyX0_ok nmX0 hi rfl rfl (j := 5) rfl (by decide) rfl (C.w 1 rfl) rfl rfl rfl dX0_handOver_20 ?_
    refine v_iload_n C dX0_handOver_23 rfl (lv_at hl 0 rfl) ?_
    exact hret _ _ _ _ (Eq.symm ((if_neg c_1).trans rfl)) (congrArg (ur _ _) (Eq.symm ((if_neg c_1).trans rfl))) dX0_handOver_24
  · refine v_aload_n C dX0_handOver_8 rfl (lv_at hl 0 rfl) ?_
    refine v_getF C iX0_handOver_X0 hi rfl rfl (j := 4) rfl (by decide) rfl (C.w 2 rfl) dX0_handOver_9 ?_
    refine v_goto (tgt := 17) C dX0_handOver_12 (by decide) ?_
    refine v_istore_n (lv' := [(1, _), (0, _)]) C dX0_handOver_17 rfl hl (by decide) rfl (fun ls hl => ?_)
    refine v_aload_n C dX0_handOver_18 rfl (lv_at hl 1 rfl) ?_
    refine v_iconst (v := 0) C dX0_handOver_19 (by decide) ?_
    refine v_putF C iX0_handOver_X0 tyX0 tyX0_ok nmX0 hi rfl rfl (j := 5) rfl (by decide) rfl (C.w 1 rfl) rfl rfl rfl dX0_handOver_20 ?_
    refine v_iload_n C dX0_handOver_23 rfl (lv_at hl 0 rfl) ?_
    exact hret _ _ _ _ (Eq.symm ((if_pos c_1).trans rfl)) (congrArg (ur _ _) (Eq.symm ((if_pos c_1).trans rfl))) dX0_handOver_24
theorem iX0_tell_X0 : ∀ w ∈ wsX00, w ∈ wsX0_tell := fun _ h => (List.mem_cons_of_mem _ (List.mem_append_right _ h))
theorem hv_X0_tell : yX0_tell.cls = RX0 ∧ yX0_tell.cls ≠ "java/lang/invoke/MethodHandle" ∧ yX0_tell.cls ≠ "java/lang/invoke/VarHandle" ∧ (parseMethodDescriptor yX0_tell.desc).map (fun d => d.parameters.length) = some 1 := by decide +kernel
def X0_tell_r (a1 : Int32) (f : Nat → Int32) : Int32 :=
  if a1 = 0 then
    f 0
  else
    if a1 = 1 then
      f 1
    else
      if a1 = 2 then
        f 2
      else
        if a1 = 3 then
          f 3
        else
          if a1 = 4 then
            f 4
          else
            if a1 = 5 then
              f 5
            else
              if a1 = 6 then
                f 6
              else
                (-2)
set_option maxHeartbeats 4000000 in
set_option maxRecDepth 100000 in
theorem c_X0_tell (l : Launch) (g : ct_G) (t : ct_St) (i : Nat) (hi : shG[i]? = some (.inr (.inr (0, fsX0)))) (f : Nat → Int32) (a1 : Int32) : MI l g shG yX0_tell wsX0_tell (rmd 0) [.ref (g.2.1 i), .int a1] (ur t i f) (X0_tell_r a1 f) (ur t i f) := by
  refine MI.of (own := RX0) (cc := cX0_tell) (maxL := 2) rfl (by decide) rfl (Nat.le_of_ble_eq_true rfl) (fun p e s m args below meth cd A Q C hret ls hl => ?_)
  have hl : lv_has ls 2 [(0, .ref (g.2.1 i)), (1, .int a1)] := hl
  refine v_iload_n C dX0_tell_0 rfl (lv_at hl 1 rfl) ?_
  refine v_by (v := 0) (fun c_1 => ?_) (fun c_1 => ?_)
  · refine v_tabIn (off := 43) (tgt := 44) C dX0_tell_1 c_1 (by decide) (by decide) (by decide) (by decide) ?_
    refine v_aload_n C dX0_tell_44 rfl (lv_at hl 0 rfl) ?_
    refine v_getF C iX0_tell_X0 hi rfl rfl (j := 0) rfl (by decide) rfl (C.w 1 rfl) dX0_tell_45 ?_
    exact hret _ _ _ _ (Eq.symm ((if_pos c_1).trans rfl)) rfl dX0_tell_48
  · refine v_by (v := 1) (fun c_2 => ?_) (fun c_2 => ?_)
    · refine v_tabIn (off := 48) (tgt := 49) C dX0_tell_1 c_2 (by decide) (by decide) (by decide) (by decide) ?_
      refine v_aload_n C dX0_tell_49 rfl (lv_at hl 0 rfl) ?_
      refine v_getF C iX0_tell_X0 hi rfl rfl (j := 1) rfl (by decide) rfl (C.w 2 rfl) dX0_tell_50 ?_
      exact hret _ _ _ _ (Eq.symm ((if_neg c_1).trans ((if_pos c_2).trans rfl))) rfl dX0_tell_53
    · refine v_by (v := 2) (fun c_3 => ?_) (fun c_3 => ?_)
      · refine v_tabIn (off := 53) (tgt := 54) C dX0_tell_1 c_3 (by decide) (by decide) (by decide) (by decide) ?_
        refine v_aload_n C dX0_tell_54 rfl (lv_at hl 0 rfl) ?_
        refine v_getF C iX0_tell_X0 hi rfl rfl (j := 2) rfl (by decide) rfl (C.w 3 rfl) dX0_tell_55 ?_
        exact hret _ _ _ _ (Eq.symm ((if_neg c_1).trans ((if_neg c_2).trans ((if_pos c_3).trans rfl)))) rfl dX0_tell_58
      · refine v_by (v := 3) (fun c_4 => ?_) (fun c_4 => ?_)
        · refine v_tabIn (off := 58) (tgt := 59) C dX0_tell_1 c_4 (by decide) (by decide) (by decide) (by decide) ?_
          refine v_aload_n C dX0_tell_59 rfl (lv_at hl 0 rfl) ?_
          refine v_getF C iX0_tell_X0 hi rfl rfl (j := 3) rfl (by decide) rfl (C.w 4 rfl) dX0_tell_60 ?_
          exact hret _ _ _ _ (Eq.symm ((if_neg c_1).trans ((if_neg c_2).trans ((if_neg c_3).trans ((if_pos c_4).trans rfl))))) rfl dX0_tell_63
        · refine v_by (v := 4) (fun c_5 => ?_) (fun c_5 => ?_)
          · refine v_tabIn (off := 63) (tgt := 64) C dX0_tell_1 c_5 (by decide) (by decide) (by decide) (by decide) ?_
            refine v_aload_n C dX0_tell_64 rfl (lv_at hl 0 rfl) ?_
            refine v_getF C iX0_tell_X0 hi rfl rfl (j := 4) rfl (by decide) rfl (C.w 5 rfl) dX0_tell_65 ?_
            exact hret _ _ _ _ (Eq.symm ((if_neg c_1).trans ((if_neg c_2).trans ((if_neg c_3).trans ((if_neg c_4).trans ((if_pos c_5).trans rfl)))))) rfl dX0_tell_68
          · refine v_by (v := 5) (fun c_6 => ?_) (fun c_6 => ?_)
            · refine v_tabIn (off := 68) (tgt := 69) C dX0_tell_1 c_6 (by decide) (by decide) (by decide) (by decide) ?_
              refine v_aload_n C dX0_tell_69 rfl (lv_at hl 0 rfl) ?_
              refine v_getF C iX0_tell_X0 hi rfl rfl (j := 5) rfl (by decide) rfl (C.w 6 rfl) dX0_tell_70 ?_
              exact hret _ _ _ _ (Eq.symm ((if_neg c_1).trans ((if_neg c_2).trans ((if_neg c_3).trans ((if_neg c_4).trans ((if_neg c_5).trans ((if_pos c_6).trans rfl))))))) rfl dX0_tell_73
            · refine v_by (v := 6) (fun c_7 => ?_) (fun c_7 => ?_)
              · refine v_tabIn (off := 73) (tgt := 74) C dX0_tell_1 c_7 (by decide) (by decide) (by decide) (by decide) ?_
                refine v_aload_n C dX0_tell_74 rfl (lv_at hl 0 rfl) ?_
                refine v_getF C iX0_tell_X0 hi rfl rfl (j := 6) rfl (by decide) rfl (C.w 7 rfl) dX0_tell_75 ?_
                exact hret _ _ _ _ (Eq.symm ((if_neg c_1).trans ((if_neg c_2).trans ((if_neg c_3).trans ((if_neg c_4).trans ((if_neg c_5).trans ((if_neg c_6).trans ((if_pos c_7).trans rfl)))))))) rfl dX0_tell_78
              · refine v_tabOut (tgt := 79) C dX0_tell_1 (by have h0 := lv_neT (a := 0) c_1 (by decide); have h1 := lv_neT (a := 1) c_2 (by decide); have h2 := lv_neT (a := 2) c_3 (by decide); have h3 := lv_neT (a := 3) c_4 (by decide); have h4 := lv_neT (a := 4) c_5 (by decide); have h5 := lv_neT (a := 5) c_6 (by decide); have h6 := lv_neT (a := 6) c_7 (by decide); omega) (by decide) ?_
                refine v_bipush (v := (-2)) C dX0_tell_79 (by decide) ?_
                exact hret _ _ _ _ (Eq.symm ((if_neg c_1).trans ((if_neg c_2).trans ((if_neg c_3).trans ((if_neg c_4).trans ((if_neg c_5).trans ((if_neg c_6).trans ((if_neg c_7).trans rfl)))))))) rfl dX0_tell_81
theorem iX1_setUp_X1 : ∀ w ∈ wsX10, w ∈ wsX1_setUp := fun _ h => (List.mem_cons_of_mem _ (List.mem_append_right _ h))
theorem hv_X1_setUp : yX1_setUp.cls = RX1 ∧ yX1_setUp.cls ≠ "java/lang/invoke/MethodHandle" ∧ yX1_setUp.cls ≠ "java/lang/invoke/VarHandle" ∧ (parseMethodDescriptor yX1_setUp.desc).map (fun d => d.parameters.length) = some 3 := by decide +kernel
def X1_setUp_s (a1 : Int32) (a2 : Int32) (a3 : Int32) (f : Nat → Int32) : Nat → Int32 :=
  let t1 := upd f 0 a1
  let t2 := upd t1 1 a2
  let t3 := upd t2 2 a3
  let t4 := upd t3 3 0
  let t5 := upd t4 4 0
  t5
set_option maxHeartbeats 4000000 in
set_option maxRecDepth 100000 in
theorem c_X1_setUp (l : Launch) (g : ct_G) (t : ct_St) (i : Nat) (hi : shG[i]? = some (.inr (.inr (1, fsX1)))) (f : Nat → Int32) (a1 : Int32) (a2 : Int32) (a3 : Int32) : MV l g shG yX1_setUp wsX1_setUp (rmd 0) [.ref (g.2.1 i), .int a1, .int a2, .int a3] (ur t i f) (ur t i (X1_setUp_s a1 a2 a3 f)) := by
  refine MV.of (own := RX1) (cc := cX1_setUp) (maxL := 4) rfl (by decide) rfl (Nat.le_of_ble_eq_true rfl) (fun p e s m args below meth cd A Q C hret ls hl => ?_)
  have hl : lv_has ls 4 [(0, .ref (g.2.1 i)), (1, .int a1), (2, .int a2), (3, .int a3)] := hl
  refine v_aload_n C dX1_setUp_0 rfl (lv_at hl 0 rfl) ?_
  refine v_iload_n C dX1_setUp_1 rfl (lv_at hl 1 rfl) ?_
  refine v_putF C iX1_setUp_X1 tyX1 tyX1_ok nmX1 hi rfl rfl (j := 0) rfl (by decide) rfl (C.w 1 rfl) rfl rfl rfl dX1_setUp_2 ?_
  refine v_aload_n C dX1_setUp_5 rfl (lv_at hl 0 rfl) ?_
  refine v_iload_n C dX1_setUp_6 rfl (lv_at hl 2 rfl) ?_
  refine v_putF C iX1_setUp_X1 tyX1 tyX1_ok nmX1 hi rfl rfl (j := 1) rfl (by decide) rfl (C.w 2 rfl) rfl rfl rfl dX1_setUp_7 ?_
  refine v_aload_n C dX1_setUp_10 rfl (lv_at hl 0 rfl) ?_
  refine v_iload_n C dX1_setUp_11 rfl (lv_at hl 3 rfl) ?_
  refine v_putF C iX1_setUp_X1 tyX1 tyX1_ok nmX1 hi rfl rfl (j := 2) rfl (by decide) rfl (C.w 3 rfl) rfl rfl rfl dX1_setUp_12 ?_
  refine v_aload_n C dX1_setUp_15 rfl (lv_at hl 0 rfl) ?_
  refine v_iconst (v := 0) C dX1_setUp_16 (by decide) ?_
  refine v_putF C iX1_setUp_X1 tyX1 tyX1_ok nmX1 hi rfl rfl (j := 3) rfl (by decide) rfl (C.w 4 rfl) rfl rfl rfl dX1_setUp_17 ?_
  refine v_aload_n C dX1_setUp_20 rfl (lv_at hl 0 rfl) ?_
  refine v_iconst (v := 0) C dX1_setUp_21 (by decide) ?_
  refine v_putF C iX1_setUp_X1 tyX1 tyX1_ok nmX1 hi rfl rfl (j := 4) rfl (by decide) rfl (C.w 5 rfl) rfl rfl rfl dX1_setUp_22 ?_
  exact hret _ _ _ rfl dX1_setUp_25
theorem iX1_shapeOutputs_X1 : ∀ w ∈ wsX10, w ∈ wsX1_shapeOutputs := fun _ h => (List.mem_cons_of_mem _ (List.mem_append_right _ h))
theorem hv_X1_shapeOutputs : yX1_shapeOutputs.cls = RX1 ∧ yX1_shapeOutputs.cls ≠ "java/lang/invoke/MethodHandle" ∧ yX1_shapeOutputs.cls ≠ "java/lang/invoke/VarHandle" ∧ (parseMethodDescriptor yX1_shapeOutputs.desc).map (fun d => d.parameters.length) = some 3 := by decide +kernel
def X1_shapeOutputs_s (a1 : Int32) (a2 : Int32) (a3 : Int32) (f : Nat → Int32) : Nat → Int32 :=
  let t1 := upd f 5 a1
  let t2 := upd t1 6 a2
  let t3 := upd t2 7 a3
  t3
set_option maxHeartbeats 4000000 in
set_option maxRecDepth 100000 in
theorem c_X1_shapeOutputs (l : Launch) (g : ct_G) (t : ct_St) (i : Nat) (hi : shG[i]? = some (.inr (.inr (1, fsX1)))) (f : Nat → Int32) (a1 : Int32) (a2 : Int32) (a3 : Int32) : MV l g shG yX1_shapeOutputs wsX1_shapeOutputs (rmd 0) [.ref (g.2.1 i), .int a1, .int a2, .int a3] (ur t i f) (ur t i (X1_shapeOutputs_s a1 a2 a3 f)) := by
  refine MV.of (own := RX1) (cc := cX1_shapeOutputs) (maxL := 4) rfl (by decide) rfl (Nat.le_of_ble_eq_true rfl) (fun p e s m args below meth cd A Q C hret ls hl => ?_)
  have hl : lv_has ls 4 [(0, .ref (g.2.1 i)), (1, .int a1), (2, .int a2), (3, .int a3)] := hl
  refine v_aload_n C dX1_shapeOutputs_0 rfl (lv_at hl 0 rfl) ?_
  refine v_iload_n C dX1_shapeOutputs_1 rfl (lv_at hl 1 rfl) ?_
  refine v_putF C iX1_shapeOutputs_X1 tyX1 tyX1_ok nmX1 hi rfl rfl (j := 5) rfl (by decide) rfl (C.w 1 rfl) rfl rfl rfl dX1_shapeOutputs_2 ?_
  refine v_aload_n C dX1_shapeOutputs_5 rfl (lv_at hl 0 rfl) ?_
  refine v_iload_n C dX1_shapeOutputs_6 rfl (lv_at hl 2 rfl) ?_
  refine v_putF C iX1_shapeOutputs_X1 tyX1 tyX1_ok nmX1 hi rfl rfl (j := 6) rfl (by decide) rfl (C.w 2 rfl) rfl rfl rfl dX1_shapeOutputs_7 ?_
  refine v_aload_n C dX1_shapeOutputs_10 rfl (lv_at hl 0 rfl) ?_
  refine v_iload_n C dX1_shapeOutputs_11 rfl (lv_at hl 3 rfl) ?_
  refine v_putF C iX1_shapeOutputs_X1 tyX1 tyX1_ok nmX1 hi rfl rfl (j := 7) rfl (by decide) rfl (C.w 3 rfl) rfl rfl rfl dX1_shapeOutputs_12 ?_
  exact hret _ _ _ rfl dX1_shapeOutputs_15
theorem iX1_nextLevel_X2 : ∀ w ∈ wsX20, w ∈ wsX1_nextLevel := fun _ h => (List.mem_cons_of_mem _ (List.mem_append_left _ (List.mem_append_right _ h)))
theorem iX1_nextLevel_X1 : ∀ w ∈ wsX10, w ∈ wsX1_nextLevel := fun _ h => (List.mem_cons_of_mem _ (List.mem_append_right _ h))
theorem hv_X1_nextLevel : yX1_nextLevel.cls = RX1 ∧ yX1_nextLevel.cls ≠ "java/lang/invoke/MethodHandle" ∧ yX1_nextLevel.cls ≠ "java/lang/invoke/VarHandle" ∧ (parseMethodDescriptor yX1_nextLevel.desc).map (fun d => d.parameters.length) = some 1 := by decide +kernel
def X1_nextLevel_r (b : Nat → Int32) (f : Nat → Int32) : Int32 :=
  if b 10 = 0 then
    if f 1 = 1 then
      if f 2 ≤ b 4 then
        0
      else
        1
    else
      if f 1 = 2 then
        if b 4 < f 2 then
          0
        else
          1
      else
        if f 1 = 3 then
          f 3
        else
          if f 1 = 4 then
            f 3
          else
            0
  else
    if b 4 = f 2 then
      if f 1 = 1 then
        if f 2 ≤ b 4 then
          0
        else
          1
      else
        if f 1 = 2 then
          if b 4 < f 2 then
            0
          else
            1
        else
          if f 1 = 3 then
            1 - (f 3)
          else
            if f 1 = 4 then
              1
            else
              0
    else
      if f 1 = 1 then
        if f 2 ≤ b 4 then
          0
        else
          1
      else
        if f 1 = 2 then
          if b 4 < f 2 then
            0
          else
            1
        else
          if f 1 = 3 then
            f 3
          else
            if f 1 = 4 then
              f 3
            else
              0
set_option maxHeartbeats 4000000 in
set_option maxRecDepth 100000 in
theorem c_X1_nextLevel (l : Launch) (g : ct_G) (t : ct_St) (i : Nat) (hi : shG[i]? = some (.inr (.inr (1, fsX1)))) (f : Nat → Int32) (j : Nat) (hj : shG[j]? = some (.inr (.inr (2, fsX2)))) (hne : j ≠ i) : MI l g shG yX1_nextLevel wsX1_nextLevel (rmd 0) [.ref (g.2.1 i), .ref (g.2.1 j)] (ur t i f) (X1_nextLevel_r (t j) f) (ur t i f) := by
  refine MI.of (own := RX1) (cc := cX1_nextLevel) (maxL := 3) rfl (by decide) rfl (Nat.le_of_ble_eq_true rfl) (fun p e s m args below meth cd A Q C hret ls hl => ?_)
  have hl : lv_has ls 3 [(0, .ref (g.2.1 i)), (1, .ref (g.2.1 j))] := hl
  refine v_aload_n C dX1_nextLevel_0 rfl (lv_at hl 1 rfl) ?_
  refine v_getU hne C iX1_nextLevel_X2 hj rfl rfl (j := 10) rfl (by decide) rfl (C.w 1 rfl) dX1_nextLevel_1 ?_
  refine v_if_eq (tgt := 22) C dX1_nextLevel_4 (by decide) (fun c_1 => ?_) (fun c_1 => ?_)
  · refine v_iconst (v := 0) C dX1_nextLevel_22 (by decide) ?_
    refine v_istore_n (lv' := [(2, _), (0, _), (1, _)]) C dX1_nextLevel_23 rfl hl (by decide) rfl (fun ls hl => ?_)
    refine v_aload_n C dX1_nextLevel_24 rfl (lv_at hl 1 rfl) ?_
    refine v_getF C iX1_nextLevel_X1 hi rfl rfl (j := 1) rfl (by decide) rfl (C.w 4 rfl) dX1_nextLevel_25 ?_
    refine v_by (v := 1) (fun c_2 => ?_) (fun c_2 => ?_)
    · refine v_tabIn (off := 32) (tgt := 60) C dX1_nextLevel_28 c_2 (by decide) (by decide) (by decide) (by decide) ?_
      refine v_aload_n C dX1_nextLevel_60 rfl (lv_at hl 2 rfl) ?_
      refine v_getU hne C iX1_nextLevel_X2 hj rfl rfl (j := 4) rfl (by decide) rfl (C.w 2 rfl) dX1_nextLevel_61 ?_
      refine v_aload_n C dX1_nextLevel_64 rfl (lv_at hl 1 rfl) ?_
      refine v_getF C iX1_nextLevel_X1 hi rfl rfl (j := 2) rfl (by decide) rfl (C.w 3 rfl) dX1_nextLevel_65 ?_
      refine v_icmp_ge (tgt := 75) C dX1_nextLevel_68 (by decide) (fun c_3 => ?_) (fun c_3 => ?_)
      · refine v_iconst (v := 0) C dX1_nextLevel_75 (by decide) ?_
        exact hret _ _ _ _ (Eq.symm ((if_pos c_1).trans ((if_pos c_2).trans ((if_pos c_3).trans rfl)))) rfl dX1_nextLevel_76
      · refine v_iconst (v := 1) C dX1_nextLevel_71 (by decide) ?_
        refine v_goto (tgt := 76) C dX1_nextLevel_72 (by decide) ?_
        exact hret _ _ _ _ (Eq.symm ((if_pos c_1).trans ((if_pos c_2).trans ((if_neg c_3).trans rfl)))) rfl dX1_nextLevel_76
    · refine v_by (v := 2) (fun c_4 => ?_) (fun c_4 => ?_)
      · refine v_tabIn (off := 49) (tgt := 77) C dX1_nextLevel_28 c_4 (by decide) (by decide) (by decide) (by decide) ?_
        refine v_aload_n C dX1_nextLevel_77 rfl (lv_at hl 2 rfl) ?_
        refine v_getU hne C iX1_nextLevel_X2 hj rfl rfl (j := 4) rfl (by decide) rfl (C.w 2 rfl) dX1_nextLevel_78 ?_
        refine v_aload_n C dX1_nextLevel_81 rfl (lv_at hl 1 rfl) ?_
        refine v_getF C iX1_nextLevel_X1 hi rfl rfl (j := 2) rfl (by decide) rfl (C.w 3 rfl) dX1_nextLevel_82 ?_
        refine v_icmp_lt (tgt := 92) C dX1_nextLevel_85 (by decide) (fun c_5 => ?_) (fun c_5 => ?_)
        · refine v_iconst (v := 0) C dX1_nextLevel_92 (by decide) ?_
          exact hret _ _ _ _ (Eq.symm ((if_pos c_1).trans ((if_neg c_2).trans ((if_pos c_4).trans ((if_pos c_5).trans rfl))))) rfl dX1_nextLevel_93
        · refine v_iconst (v := 1) C dX1_nextLevel_88 (by decide) ?_
          refine v_goto (tgt := 93) C dX1_nextLevel_89 (by decide) ?_
          exact hret _ _ _ _ (Eq.symm ((if_pos c_1).trans ((if_neg c_2).trans ((if_pos c_4).trans ((if_neg c_5).trans rfl))))) rfl dX1_nextLevel_93
      · refine v_by (v := 3) (fun c_6 => ?_) (fun c_6 => ?_)
        · refine v_tabIn (off := 66) (tgt := 94) C dX1_nextLevel_28 c_6 (by decide) (by decide) (by decide) (by decide) ?_
          refine v_iload_n C dX1_nextLevel_94 rfl (lv_at hl 0 rfl) ?_
          refine v_if_eq (tgt := 107) C dX1_nextLevel_95 (by decide) (fun _ => ?_) (fun h => absurd h (by decide))
          refine v_aload_n C dX1_nextLevel_107 rfl (lv_at hl 1 rfl) ?_
          refine v_getF C iX1_nextLevel_X1 hi rfl rfl (j := 3) rfl (by decide) rfl (C.w 5 rfl) dX1_nextLevel_108 ?_
          exact hret _ _ _ _ (Eq.symm ((if_pos c_1).trans ((if_neg c_2).trans ((if_neg c_4).trans ((if_pos c_6).trans rfl))))) rfl dX1_nextLevel_111
        · refine v_by (v := 4) (fun c_8 => ?_) (fun c_8 => ?_)
          · refine v_tabIn (off := 84) (tgt := 112) C dX1_nextLevel_28 c_8 (by decide) (by decide) (by decide) (by decide) ?_
            refine v_iload_n C dX1_nextLevel_112 rfl (lv_at hl 0 rfl) ?_
            refine v_if_eq (tgt := 120) C dX1_nextLevel_113 (by decide) (fun _ => ?_) (fun h => absurd h (by decide))
            refine v_aload_n C dX1_nextLevel_120 rfl (lv_at hl 1 rfl) ?_
            refine v_getF C iX1_nextLevel_X1 hi rfl rfl (j := 3) rfl (by decide) rfl (C.w 5 rfl) dX1_nextLevel_121 ?_
            exact hret _ _ _ _ (Eq.symm ((if_pos c_1).trans ((if_neg c_2).trans ((if_neg c_4).trans ((if_neg c_6).trans ((if_pos c_8).trans rfl)))))) rfl dX1_nextLevel_124
          · refine v_tabOut (tgt := 125) C dX1_nextLevel_28 (by have h0 := lv_neT (a := 1) c_2 (by decide); have h1 := lv_neT (a := 2) c_4 (by decide); have h2 := lv_neT (a := 3) c_6 (by decide); have h3 := lv_neT (a := 4) c_8 (by decide); omega) (by decide) ?_
            refine v_iconst (v := 0) C dX1_nextLevel_125 (by decide) ?_
            exact hret _ _ _ _ (Eq.symm ((if_pos c_1).trans ((if_neg c_2).trans ((if_neg c_4).trans ((if_neg c_6).trans ((if_neg c_8).trans rfl)))))) rfl dX1_nextLevel_126
  · refine v_aload_n C dX1_nextLevel_7 rfl (lv_at hl 1 rfl) ?_
    refine v_getU hne C iX1_nextLevel_X2 hj rfl rfl (j := 4) rfl (by decide) rfl (C.w 2 rfl) dX1_nextLevel_8 ?_
    refine v_aload_n C dX1_nextLevel_11 rfl (lv_at hl 0 rfl) ?_
    refine v_getF C iX1_nextLevel_X1 hi rfl rfl (j := 2) rfl (by decide) rfl (C.w 3 rfl) dX1_nextLevel_12 ?_
    refine v_icmp_ne (tgt := 22) C dX1_nextLevel_15 (by decide) (fun c_10 => ?_) (fun c_10 => ?_)
    · refine v_iconst (v := 0) C dX1_nextLevel_22 (by decide) ?_
      refine v_istore_n (lv' := [(2, _), (0, _), (1, _)]) C dX1_nextLevel_23 rfl hl (by decide) rfl (fun ls hl => ?_)
      refine v_aload_n C dX1_nextLevel_24 rfl (lv_at hl 1 rfl) ?_
      refine v_getF C iX1_nextLevel_X1 hi rfl rfl (j := 1) rfl (by decide) rfl (C.w 4 rfl) dX1_nextLevel_25 ?_
      refine v_by (v := 1) (fun c_11 => ?_) (fun c_11 => ?_)
      · refine v_tabIn (off := 32) (tgt := 60) C dX1_nextLevel_28 c_11 (by decide) (by decide) (by decide) (by decide) ?_
        refine v_aload_n C dX1_nextLevel_60 rfl (lv_at hl 2 rfl) ?_
        refine v_getU hne C iX1_nextLevel_X2 hj rfl rfl (j := 4) rfl (by decide) rfl (C.w 2 rfl) dX1_nextLevel_61 ?_
        refine v_aload_n C dX1_nextLevel_64 rfl (lv_at hl 1 rfl) ?_
        refine v_getF C iX1_nextLevel_X1 hi rfl rfl (j := 2) rfl (by decide) rfl (C.w 3 rfl) dX1_nextLevel_65 ?_
        refine v_icmp_ge (tgt := 75) C dX1_nextLevel_68 (by decide) (fun c_12 => ?_) (fun c_12 => ?_)
        · refine v_iconst (v := 0) C dX1_nextLevel_75 (by decide) ?_
          exact hret _ _ _ _ (Eq.symm ((if_neg c_1).trans ((if_neg c_10).trans ((if_pos c_11).trans ((if_pos c_12).trans rfl))))) rfl dX1_nextLevel_76
        · refine v_iconst (v := 1) C dX1_nextLevel_71 (by decide) ?_
          refine v_goto (tgt := 76) C dX1_nextLevel_72 (by decide) ?_
          exact hret _ _ _ _ (Eq.symm ((if_neg c_1).trans ((if_neg c_10).trans ((if_pos c_11).trans ((if_neg c_12).trans rfl))))) rfl dX1_nextLevel_76
      · refine v_by (v := 2) (fun c_13 => ?_) (fun c_13 => ?_)
        · refine v_tabIn (off := 49) (tgt := 77) C dX1_nextLevel_28 c_13 (by decide) (by decide) (by decide) (by decide) ?_
          refine v_aload_n C dX1_nextLevel_77 rfl (lv_at hl 2 rfl) ?_
          refine v_getU hne C iX1_nextLevel_X2 hj rfl rfl (j := 4) rfl (by decide) rfl (C.w 2 rfl) dX1_nextLevel_78 ?_
          refine v_aload_n C dX1_nextLevel_81 rfl (lv_at hl 1 rfl) ?_
          refine v_getF C iX1_nextLevel_X1 hi rfl rfl (j := 2) rfl (by decide) rfl (C.w 3 rfl) dX1_nextLevel_82 ?_
          refine v_icmp_lt (tgt := 92) C dX1_nextLevel_85 (by decide) (fun c_14 => ?_) (fun c_14 => ?_)
          · refine v_iconst (v := 0) C dX1_nextLevel_92 (by decide) ?_
            exact hret _ _ _ _ (Eq.symm ((if_neg c_1).trans ((if_neg c_10).trans ((if_neg c_11).trans ((if_pos c_13).trans ((if_pos c_14).trans rfl)))))) rfl dX1_nextLevel_93
          · refine v_iconst (v := 1) C dX1_nextLevel_88 (by decide) ?_
            refine v_goto (tgt := 93) C dX1_nextLevel_89 (by decide) ?_
            exact hret _ _ _ _ (Eq.symm ((if_neg c_1).trans ((if_neg c_10).trans ((if_neg c_11).trans ((if_pos c_13).trans ((if_neg c_14).trans rfl)))))) rfl dX1_nextLevel_93
        · refine v_by (v := 3) (fun c_15 => ?_) (fun c_15 => ?_)
          · refine v_tabIn (off := 66) (tgt := 94) C dX1_nextLevel_28 c_15 (by decide) (by decide) (by decide) (by decide) ?_
            refine v_iload_n C dX1_nextLevel_94 rfl (lv_at hl 0 rfl) ?_
            refine v_if_eq (tgt := 107) C dX1_nextLevel_95 (by decide) (fun _ => ?_) (fun h => absurd h (by decide))
            refine v_aload_n C dX1_nextLevel_107 rfl (lv_at hl 1 rfl) ?_
            refine v_getF C iX1_nextLevel_X1 hi rfl rfl (j := 3) rfl (by decide) rfl (C.w 5 rfl) dX1_nextLevel_108 ?_
            exact hret _ _ _ _ (Eq.symm ((if_neg c_1).trans ((if_neg c_10).trans ((if_neg c_11).trans ((if_neg c_13).trans ((if_pos c_15).trans rfl)))))) rfl dX1_nextLevel_111
          · refine v_by (v := 4) (fun c_17 => ?_) (fun c_17 => ?_)
            · refine v_tabIn (off := 84) (tgt := 112) C dX1_nextLevel_28 c_17 (by decide) (by decide) (by decide) (by decide) ?_
              refine v_iload_n C dX1_nextLevel_112 rfl (lv_at hl 0 rfl) ?_
              refine v_if_eq (tgt := 120) C dX1_nextLevel_113 (by decide) (fun _ => ?_) (fun h => absurd h (by decide))
              refine v_aload_n C dX1_nextLevel_120 rfl (lv_at hl 1 rfl) ?_
              refine v_getF C iX1_nextLevel_X1 hi rfl rfl (j := 3) rfl (by decide) rfl (C.w 5 rfl) dX1_nextLevel_121 ?_
              exact hret _ _ _ _ (Eq.symm ((if_neg c_1).trans ((if_neg c_10).trans ((if_neg c_11).trans ((if_neg c_13).trans ((if_neg c_15).trans ((if_pos c_17).trans rfl))))))) rfl dX1_nextLevel_124
            · refine v_tabOut (tgt := 125) C dX1_nextLevel_28 (by have h0 := lv_neT (a := 1) c_11 (by decide); have h1 := lv_neT (a := 2) c_13 (by decide); have h2 := lv_neT (a := 3) c_15 (by decide); have h3 := lv_neT (a := 4) c_17 (by decide); omega) (by decide) ?_
              refine v_iconst (v := 0) C dX1_nextLevel_125 (by decide) ?_
              exact hret _ _ _ _ (Eq.symm ((if_neg c_1).trans ((if_neg c_10).trans ((if_neg c_11).trans ((if_neg c_13).trans ((if_neg c_15).trans ((if_neg c_17).trans rfl))))))) rfl dX1_nextLevel_126
    · refine v_iconst (v := 1) C dX1_nextLevel_18 (by decide) ?_
      refine v_goto (tgt := 23) C dX1_nextLevel_19 (by decide) ?_
      refine v_istore_n (lv' := [(2, _), (0, _), (1, _)]) C dX1_nextLevel_23 rfl hl (by decide) rfl (fun ls hl => ?_)
      refine v_aload_n C dX1_nextLevel_24 rfl (lv_at hl 1 rfl) ?_
      refine v_getF C iX1_nextLevel_X1 hi rfl rfl (j := 1) rfl (by decide) rfl (C.w 4 rfl) dX1_nextLevel_25 ?_
      refine v_by (v := 1) (fun c_19 => ?_) (fun c_19 => ?_)
      · refine v_tabIn (off := 32) (tgt := 60) C dX1_nextLevel_28 c_19 (by decide) (by decide) (by decide) (by decide) ?_
        refine v_aload_n C dX1_nextLevel_60 rfl (lv_at hl 2 rfl) ?_
        refine v_getU hne C iX1_nextLevel_X2 hj rfl rfl (j := 4) rfl (by decide) rfl (C.w 2 rfl) dX1_nextLevel_61 ?_
        refine v_aload_n C dX1_nextLevel_64 rfl (lv_at hl 1 rfl) ?_
        refine v_getF C iX1_nextLevel_X1 hi rfl rfl (j := 2) rfl (by decide) rfl (C.w 3 rfl) dX1_nextLevel_65 ?_
        refine v_icmp_ge (tgt := 75) C dX1_nextLevel_68 (by decide) (fun c_20 => ?_) (fun c_20 => ?_)
        · refine v_iconst (v := 0) C dX1_nextLevel_75 (by decide) ?_
          exact hret _ _ _ _ (Eq.symm ((if_neg c_1).trans ((if_pos c_10).trans ((if_pos c_19).trans ((if_pos c_20).trans rfl))))) rfl dX1_nextLevel_76
        · refine v_iconst (v := 1) C dX1_nextLevel_71 (by decide) ?_
          refine v_goto (tgt := 76) C dX1_nextLevel_72 (by decide) ?_
          exact hret _ _ _ _ (Eq.symm ((if_neg c_1).trans ((if_pos c_10).trans ((if_pos c_19).trans ((if_neg c_20).trans rfl))))) rfl dX1_nextLevel_76
      · refine v_by (v := 2) (fun c_21 => ?_) (fun c_21 => ?_)
        · refine v_tabIn (off := 49) (tgt := 77) C dX1_nextLevel_28 c_21 (by decide) (by decide) (by decide) (by decide) ?_
          refine v_aload_n C dX1_nextLevel_77 rfl (lv_at hl 2 rfl) ?_
          refine v_getU hne C iX1_nextLevel_X2 hj rfl rfl (j := 4) rfl (by decide) rfl (C.w 2 rfl) dX1_nextLevel_78 ?_
          refine v_aload_n C dX1_nextLevel_81 rfl (lv_at hl 1 rfl) ?_
          refine v_getF C iX1_nextLevel_X1 hi rfl rfl (j := 2) rfl (by decide) rfl (C.w 3 rfl) dX1_nextLevel_82 ?_
          refine v_icmp_lt (tgt := 92) C dX1_nextLevel_85 (by decide) (fun c_22 => ?_) (fun c_22 => ?_)
          · refine v_iconst (v := 0) C dX1_nextLevel_92 (by decide) ?_
            exact hret _ _ _ _ (Eq.symm ((if_neg c_1).trans ((if_pos c_10).trans ((if_neg c_19).trans ((if_pos c_21).trans ((if_pos c_22).trans rfl)))))) rfl dX1_nextLevel_93
          · refine v_iconst (v := 1) C dX1_nextLevel_88 (by decide) ?_
            refine v_goto (tgt := 93) C dX1_nextLevel_89 (by decide) ?_
            exact hret _ _ _ _ (Eq.symm ((if_neg c_1).trans ((if_pos c_10).trans ((if_neg c_19).trans ((if_pos c_21).trans ((if_neg c_22).trans rfl)))))) rfl dX1_nextLevel_93
        · refine v_by (v := 3) (fun c_23 => ?_) (fun c_23 => ?_)
          · refine v_tabIn (off := 66) (tgt := 94) C dX1_nextLevel_28 c_23 (by decide) (by decide) (by decide) (by decide) ?_
            refine v_iload_n C dX1_nextLevel_94 rfl (lv_at hl 0 rfl) ?_
            refine v_if_eq (tgt := 107) C dX1_nextLevel_95 (by decide) (fun h => absurd h (by decide)) (fun _ => ?_)
            refine v_iconst (v := 1) C dX1_nextLevel_98 (by decide) ?_
            refine v_aload_n C dX1_nextLevel_99 rfl (lv_at hl 1 rfl) ?_
            refine v_getF C iX1_nextLevel_X1 hi rfl rfl (j := 3) rfl (by decide) rfl (C.w 5 rfl) dX1_nextLevel_100 ?_
            refine v_isub C dX1_nextLevel_103 ?_
            refine v_goto (tgt := 111) C dX1_nextLevel_104 (by decide) ?_
            exact hret _ _ _ _ (Eq.symm ((if_neg c_1).trans ((if_pos c_10).trans ((if_neg c_19).trans ((if_neg c_21).trans ((if_pos c_23).trans rfl)))))) rfl dX1_nextLevel_111
          · refine v_by (v := 4) (fun c_25 => ?_) (fun c_25 => ?_)
            · refine v_tabIn (off := 84) (tgt := 112) C dX1_nextLevel_28 c_25 (by decide) (by decide) (by decide) (by decide) ?_
              refine v_iload_n C dX1_nextLevel_112 rfl (lv_at hl 0 rfl) ?_
              refine v_if_eq (tgt := 120) C dX1_nextLevel_113 (by decide) (fun h => absurd h (by decide)) (fun _ => ?_)
              refine v_iconst (v := 1) C dX1_nextLevel_116 (by decide) ?_
              refine v_goto (tgt := 124) C dX1_nextLevel_117 (by decide) ?_
              exact hret _ _ _ _ (Eq.symm ((if_neg c_1).trans ((if_pos c_10).trans ((if_neg c_19).trans ((if_neg c_21).trans ((if_neg c_23).trans ((if_pos c_25).trans rfl))))))) rfl dX1_nextLevel_124
            · refine v_tabOut (tgt := 125) C dX1_nextLevel_28 (by have h0 := lv_neT (a := 1) c_19 (by decide); have h1 := lv_neT (a := 2) c_21 (by decide); have h2 := lv_neT (a := 3) c_23 (by decide); have h3 := lv_neT (a := 4) c_25 (by decide); omega) (by decide) ?_
              refine v_iconst (v := 0) C dX1_nextLevel_125 (by decide) ?_
              exact hret _ _ _ _ (Eq.symm ((if_neg c_1).trans ((if_pos c_10).trans ((if_neg c_19).trans ((if_neg c_21).trans ((if_neg c_23).trans ((if_neg c_25).trans rfl))))))) rfl dX1_nextLevel_126
theorem iX1_follow_X1 : ∀ w ∈ wsX10, w ∈ wsX1_follow := fun _ h => (List.mem_cons_of_mem _ (List.mem_append_left _ (List.mem_append_right _ h)))
theorem hv_X1_follow : yX1_follow.cls = RX1 ∧ yX1_follow.cls ≠ "java/lang/invoke/MethodHandle" ∧ yX1_follow.cls ≠ "java/lang/invoke/VarHandle" ∧ (parseMethodDescriptor yX1_follow.desc).map (fun d => d.parameters.length) = some 1 := by decide +kernel
def X1_follow_s (b : Nat → Int32) (f : Nat → Int32) : Nat → Int32 :=
  let x1 := f 3
  let t2 := upd f 3 (X1_nextLevel_r b f)
  if t2 3 = x1 then
    let t4 := upd t2 4 (if 99 < (t2 4) + 1 then 99 else (t2 4) + 1)
    t4
  else
    let t3 := upd t2 4 1
    t3
set_option maxHeartbeats 4000000 in
set_option maxRecDepth 100000 in
theorem c_X1_follow (l : Launch) (g : ct_G) (t : ct_St) (i : Nat) (hi : shG[i]? = some (.inr (.inr (1, fsX1)))) (f : Nat → Int32) (j : Nat) (hj : shG[j]? = some (.inr (.inr (2, fsX2)))) (hne : j ≠ i) : MV l g shG yX1_follow wsX1_follow (rmd 1) [.ref (g.2.1 i), .ref (g.2.1 j)] (ur t i f) (ur t i (X1_follow_s (t j) f)) := by
  refine MV.of (own := RX1) (cc := cX1_follow) (maxL := 3) rfl (by decide) rfl (Nat.le_of_ble_eq_true rfl) (fun p e s m args below meth cd A Q C hret ls hl => ?_)
  have hl : lv_has ls 3 [(0, .ref (g.2.1 i)), (1, .ref (g.2.1 j))] := hl
  refine v_aload_n C dX1_follow_0 rfl (lv_at hl 0 rfl) ?_
  refine v_getF C iX1_follow_X1 hi rfl rfl (j := 3) rfl (by decide) rfl (C.w 1 rfl) dX1_follow_1 ?_
  refine v_istore_n (lv' := [(2, _), (0, _), (1, _)]) C dX1_follow_4 rfl hl (by decide) rfl (fun ls hl => ?_)
  refine v_aload_n C dX1_follow_5 rfl (lv_at hl 1 rfl) ?_
  refine v_aload_n C dX1_follow_6 rfl (lv_at hl 1 rfl) ?_
  refine v_aload_n C dX1_follow_7 rfl (lv_at hl 2 rfl) ?_
  refine v_calli C (c_X1_nextLevel l g _ _ hi _ _ hj hne) (cwV 1 C.2.2.2.2.1 gX1_follow_X1_nextLevel rfl rfl rfl hv_X1_nextLevel ⟨Nat.le_of_ble_eq_true rfl, Nat.le_of_ble_eq_true rfl⟩) hi rfl rfl rfl rfl hl.1 rfl (Nat.le_of_ble_eq_true rfl) dX1_follow_8 ⟨Nat.le_refl _, Nat.le_refl _⟩ ?_
  refine v_putF C iX1_follow_X1 tyX1 tyX1_ok nmX1 hi rfl rfl (j := 3) rfl (by decide) rfl (C.w 1 rfl) rfl rfl rfl dX1_follow_11 ?_
  refine v_aload_n C dX1_follow_14 rfl (lv_at hl 1 rfl) ?_
  refine v_aload_n C dX1_follow_15 rfl (lv_at hl 1 rfl) ?_
  refine v_getF C iX1_follow_X1 hi rfl rfl (j := 3) rfl (by decide) rfl (C.w 1 rfl) dX1_follow_16 ?_
  refine v_iload_n C dX1_follow_19 rfl (lv_at hl 0 rfl) ?_
  refine v_icmp_ne (tgt := 37) C dX1_follow_20 (by decide) (fun c_1 => ?_) (fun c_1 => ?_)
  · refine v_iconst (v := 1) C dX1_follow_37 (by decide) ?_
    refine v_putF C iX1_follow_X1 tyX1 tyX1_ok nmX1 hi rfl rfl (j := 4) rfl (by decide) rfl (C.w 2 rfl) rfl rfl rfl dX1_follow_38 ?_
    exact hret _ _ _ (congrArg (ur _ _) (Eq.symm ((if_neg c_1).trans rfl))) dX1_follow_41
  · refine v_aload_n C dX1_follow_23 rfl (lv_at hl 1 rfl) ?_
    refine v_getF C iX1_follow_X1 hi rfl rfl (j := 4) rfl (by decide) rfl (C.w 2 rfl) dX1_follow_24 ?_
    refine v_iconst (v := 1) C dX1_follow_27 (by decide) ?_
    refine v_iadd C dX1_follow_28 ?_
    refine v_bipush (v := 99) C dX1_follow_29 (by decide) ?_
    refine v_min C (C.w 3 rfl) (C.w 4 rfl) (C.w 5 rfl) (C.w 6 rfl) hl.1 (Nat.le_of_ble_eq_true rfl) (Nat.le_of_ble_eq_true rfl) ⟨Nat.le_of_ble_eq_true rfl, Nat.le_of_ble_eq_true rfl⟩ dX1_follow_31 ?_
    refine v_goto (tgt := 38) C dX1_follow_34 (by decide) ?_
    refine v_putF C iX1_follow_X1 tyX1 tyX1_ok nmX1 hi rfl rfl (j := 4) rfl (by decide) rfl (C.w 2 rfl) rfl rfl rfl dX1_follow_38 ?_
    exact hret _ _ _ (congrArg (ur _ _) (Eq.symm ((if_pos c_1).trans rfl))) dX1_follow_41
theorem iX1_outputsOn_X1 : ∀ w ∈ wsX10, w ∈ wsX1_outputsOn := fun _ h => (List.mem_cons_of_mem _ (List.mem_append_right _ h))
theorem hv_X1_outputsOn : yX1_outputsOn.cls = RX1 ∧ yX1_outputsOn.cls ≠ "java/lang/invoke/MethodHandle" ∧ yX1_outputsOn.cls ≠ "java/lang/invoke/VarHandle" ∧ (parseMethodDescriptor yX1_outputsOn.desc).map (fun d => d.parameters.length) = some 1 := by decide +kernel
def X1_outputsOn_r (a1 : Int32) (f : Nat → Int32) : Int32 :=
  if f 1 = 0 then
    0
  else
    if a1 = 0 then
      if f 5 < f 4 then
        if f 3 = 1 then
          1
        else
          2
      else
        0
    else
      0
set_option maxHeartbeats 4000000 in
set_option maxRecDepth 100000 in
theorem c_X1_outputsOn (l : Launch) (g : ct_G) (t : ct_St) (i : Nat) (hi : shG[i]? = some (.inr (.inr (1, fsX1)))) (f : Nat → Int32) (a1 : Int32) : MI l g shG yX1_outputsOn wsX1_outputsOn (rmd 0) [.ref (g.2.1 i), .int a1] (ur t i f) (X1_outputsOn_r a1 f) (ur t i f) := by
  refine MI.of (own := RX1) (cc := cX1_outputsOn) (maxL := 2) rfl (by decide) rfl (Nat.le_of_ble_eq_true rfl) (fun p e s m args below meth cd A Q C hret ls hl => ?_)
  have hl : lv_has ls 2 [(0, .ref (g.2.1 i)), (1, .int a1)] := hl
  refine v_aload_n C dX1_outputsOn_0 rfl (lv_at hl 0 rfl) ?_
  refine v_getF C iX1_outputsOn_X1 hi rfl rfl (j := 1) rfl (by decide) rfl (C.w 1 rfl) dX1_outputsOn_1 ?_
  refine v_if_eq (tgt := 22) C dX1_outputsOn_4 (by decide) (fun c_1 => ?_) (fun c_1 => ?_)
  · refine v_iconst (v := 0) C dX1_outputsOn_22 (by decide) ?_
    exact hret _ _ _ _ (Eq.symm ((if_pos c_1).trans rfl)) rfl dX1_outputsOn_23
  · refine v_iload_n C dX1_outputsOn_7 rfl (lv_at hl 1 rfl) ?_
    refine v_if_ne (tgt := 22) C dX1_outputsOn_8 (by decide) (fun c_2 => ?_) (fun c_2 => ?_)
    · refine v_iconst (v := 0) C dX1_outputsOn_22 (by decide) ?_
      exact hret _ _ _ _ (Eq.symm ((if_neg c_1).trans ((if_neg c_2).trans rfl))) rfl dX1_outputsOn_23
    · refine v_aload_n C dX1_outputsOn_11 rfl (lv_at hl 0 rfl) ?_
      refine v_getF C iX1_outputsOn_X1 hi rfl rfl (j := 4) rfl (by decide) rfl (C.w 2 rfl) dX1_outputsOn_12 ?_
      refine v_aload_n C dX1_outputsOn_15 rfl (lv_at hl 0 rfl) ?_
      refine v_getF C iX1_outputsOn_X1 hi rfl rfl (j := 5) rfl (by decide) rfl (C.w 3 rfl) dX1_outputsOn_16 ?_
      refine v_icmp_gt (tgt := 24) C dX1_outputsOn_19 (by decide) (fun c_3 => ?_) (fun c_3 => ?_)
      · refine v_aload_n C dX1_outputsOn_24 rfl (lv_at hl 0 rfl) ?_
        refine v_getF C iX1_outputsOn_X1 hi rfl rfl (j := 3) rfl (by decide) rfl (C.w 4 rfl) dX1_outputsOn_25 ?_
        refine v_iconst (v := 1) C dX1_outputsOn_28 (by decide) ?_
        refine v_icmp_ne (tgt := 36) C dX1_outputsOn_29 (by decide) (fun c_4 => ?_) (fun c_4 => ?_)
        · refine v_iconst (v := 2) C dX1_outputsOn_36 (by decide) ?_
          exact hret _ _ _ _ (Eq.symm ((if_neg c_1).trans ((if_pos c_2).trans ((if_pos c_3).trans ((if_neg c_4).trans rfl))))) rfl dX1_outputsOn_37
        · refine v_iconst (v := 1) C dX1_outputsOn_32 (by decide) ?_
          refine v_goto (tgt := 37) C dX1_outputsOn_33 (by decide) ?_
          exact hret _ _ _ _ (Eq.symm ((if_neg c_1).trans ((if_pos c_2).trans ((if_pos c_3).trans ((if_pos c_4).trans rfl))))) rfl dX1_outputsOn_37
      · refine v_iconst (v := 0) C dX1_outputsOn_22 (by decide) ?_
        exact hret _ _ _ _ (Eq.symm ((if_neg c_1).trans ((if_pos c_2).trans ((if_neg c_3).trans rfl)))) rfl dX1_outputsOn_23
theorem iX1_pinLevel_X1 : ∀ w ∈ wsX10, w ∈ wsX1_pinLevel := fun _ h => (List.mem_cons_of_mem _ (List.mem_append_right _ h))
theorem hv_X1_pinLevel : yX1_pinLevel.cls = RX1 ∧ yX1_pinLevel.cls ≠ "java/lang/invoke/MethodHandle" ∧ yX1_pinLevel.cls ≠ "java/lang/invoke/VarHandle" ∧ (parseMethodDescriptor yX1_pinLevel.desc).map (fun d => d.parameters.length) = some 2 := by decide +kernel
def X1_pinLevel_r (a1 : Int32) (a2 : Int32) (f : Nat → Int32) : Int32 :=
  if a2 = 0 then
    let x1 := (X1_outputsOn_r 0 f) ^^^ (f 6)
    (x1 >>> (a1 &&& 31)) &&& 1
  else
    let x2 := f 7
    (x2 >>> (a1 &&& 31)) &&& 1
set_option maxHeartbeats 4000000 in
set_option maxRecDepth 100000 in
theorem c_X1_pinLevel (l : Launch) (g : ct_G) (t : ct_St) (i : Nat) (hi : shG[i]? = some (.inr (.inr (1, fsX1)))) (f : Nat → Int32) (a1 : Int32) (a2 : Int32) : MI l g shG yX1_pinLevel wsX1_pinLevel (rmd 1) [.ref (g.2.1 i), .int a1, .int a2] (ur t i f) (X1_pinLevel_r a1 a2 f) (ur t i f) := by
  refine MI.of (own := RX1) (cc := cX1_pinLevel) (maxL := 4) rfl (by decide) rfl (Nat.le_of_ble_eq_true rfl) (fun p e s m args below meth cd A Q C hret ls hl => ?_)
  have hl : lv_has ls 4 [(0, .ref (g.2.1 i)), (1, .int a1), (2, .int a2)] := hl
  refine v_iload_n C dX1_pinLevel_0 rfl (lv_at hl 2 rfl) ?_
  refine v_if_eq (tgt := 11) C dX1_pinLevel_1 (by decide) (fun c_1 => ?_) (fun c_1 => ?_)
  · refine v_aload_n C dX1_pinLevel_11 rfl (lv_at hl 0 rfl) ?_
    refine v_iconst (v := 0) C dX1_pinLevel_12 (by decide) ?_
    refine v_calli C (c_X1_outputsOn l g _ _ hi _ _) (cwV 1 C.2.2.2.2.1 gX1_pinLevel_X1_outputsOn rfl rfl rfl hv_X1_outputsOn ⟨Nat.le_of_ble_eq_true rfl, Nat.le_of_ble_eq_true rfl⟩) hi rfl rfl rfl rfl hl.1 rfl (Nat.le_of_ble_eq_true rfl) dX1_pinLevel_13 ⟨Nat.le_refl _, Nat.le_refl _⟩ ?_
    refine v_aload_n C dX1_pinLevel_16 rfl (lv_at hl 0 rfl) ?_
    refine v_getF C iX1_pinLevel_X1 hi rfl rfl (j := 6) rfl (by decide) rfl (C.w 2 rfl) dX1_pinLevel_17 ?_
    refine v_ixor C dX1_pinLevel_20 ?_
    refine v_istore_n (lv' := [(3, _), (0, _), (1, _), (2, _)]) C dX1_pinLevel_21 rfl hl (by decide) rfl (fun ls hl => ?_)
    refine v_iload_n C dX1_pinLevel_22 rfl (lv_at hl 0 rfl) ?_
    refine v_iload_n C dX1_pinLevel_23 rfl (lv_at hl 2 rfl) ?_
    refine v_ishr C dX1_pinLevel_24 ?_
    refine v_iconst (v := 1) C dX1_pinLevel_25 (by decide) ?_
    refine v_iand C dX1_pinLevel_26 ?_
    exact hret _ _ _ _ (Eq.symm ((if_pos c_1).trans rfl)) rfl dX1_pinLevel_27
  · refine v_aload_n C dX1_pinLevel_4 rfl (lv_at hl 0 rfl) ?_
    refine v_getF C iX1_pinLevel_X1 hi rfl rfl (j := 7) rfl (by decide) rfl (C.w 1 rfl) dX1_pinLevel_5 ?_
    refine v_goto (tgt := 21) C dX1_pinLevel_8 (by decide) ?_
    refine v_istore_n (lv' := [(3, _), (0, _), (1, _), (2, _)]) C dX1_pinLevel_21 rfl hl (by decide) rfl (fun ls hl => ?_)
    refine v_iload_n C dX1_pinLevel_22 rfl (lv_at hl 0 rfl) ?_
    refine v_iload_n C dX1_pinLevel_23 rfl (lv_at hl 2 rfl) ?_
    refine v_ishr C dX1_pinLevel_24 ?_
    refine v_iconst (v := 1) C dX1_pinLevel_25 (by decide) ?_
    refine v_iand C dX1_pinLevel_26 ?_
    exact hret _ _ _ _ (Eq.symm ((if_neg c_1).trans rfl)) rfl dX1_pinLevel_27
theorem iX1_tell_X1 : ∀ w ∈ wsX10, w ∈ wsX1_tell := fun _ h => (List.mem_cons_of_mem _ (List.mem_append_right _ h))
theorem hv_X1_tell : yX1_tell.cls = RX1 ∧ yX1_tell.cls ≠ "java/lang/invoke/MethodHandle" ∧ yX1_tell.cls ≠ "java/lang/invoke/VarHandle" ∧ (parseMethodDescriptor yX1_tell.desc).map (fun d => d.parameters.length) = some 2 := by decide +kernel
def X1_tell_r (a1 : Int32) (a2 : Int32) (f : Nat → Int32) : Int32 :=
  if a1 = 0 then
    f 0
  else
    if a1 = 1 then
      f 1
    else
      if a1 = 2 then
        f 2
      else
        if a1 = 3 then
          f 3
        else
          if a1 = 4 then
            f 4
          else
            if a1 = 5 then
              f 5
            else
              if a1 = 6 then
                f 6
              else
                if a1 = 7 then
                  f 7
                else
                  if a1 = 8 then
                    X1_outputsOn_r a2 f
                  else
                    (-2)
set_option maxHeartbeats 4000000 in
set_option maxRecDepth 100000 in
theorem c_X1_tell (l : Launch) (g : ct_G) (t : ct_St) (i : Nat) (hi : shG[i]? = some (.inr (.inr (1, fsX1)))) (f : Nat → Int32) (a1 : Int32) (a2 : Int32) : MI l g shG yX1_tell wsX1_tell (rmd 1) [.ref (g.2.1 i), .int a1, .int a2] (ur t i f) (X1_tell_r a1 a2 f) (ur t i f) := by
  refine MI.of (own := RX1) (cc := cX1_tell) (maxL := 3) rfl (by decide) rfl (Nat.le_of_ble_eq_true rfl) (fun p e s m args below meth cd A Q C hret ls hl => ?_)
  have hl : lv_has ls 3 [(0, .ref (g.2.1 i)), (1, .int a1), (2, .int a2)] := hl
  refine v_iload_n C dX1_tell_0 rfl (lv_at hl 1 rfl) ?_
  refine v_by (v := 0) (fun c_1 => ?_) (fun c_1 => ?_)
  · refine v_tabIn (off := 51) (tgt := 52) C dX1_tell_1 c_1 (by decide) (by decide) (by decide) (by decide) ?_
    refine v_aload_n C dX1_tell_52 rfl (lv_at hl 0 rfl) ?_
    refine v_getF C iX1_tell_X1 hi rfl rfl (j := 0) rfl (by decide) rfl (C.w 1 rfl) dX1_tell_53 ?_
    exact hret _ _ _ _ (Eq.symm ((if_pos c_1).trans rfl)) rfl dX1_tell_56
  · refine v_by (v := 1) (fun c_2 => ?_) (fun c_2 => ?_)
    · refine v_tabIn (off := 56) (tgt := 57) C dX1_tell_1 c_2 (by decide) (by decide) (by decide) (by decide) ?_
      refine v_aload_n C dX1_tell_57 rfl (lv_at hl 0 rfl) ?_
      refine v_getF C iX1_tell_X1 hi rfl rfl (j := 1) rfl (by decide) rfl (C.w 2 rfl) dX1_tell_58 ?_
      exact hret _ _ _ _ (Eq.symm ((if_neg c_1).trans ((if_pos c_2).trans rfl))) rfl dX1_tell_61
    · refine v_by (v := 2) (fun c_3 => ?_) (fun c_3 => ?_)
      · refine v_tabIn (off := 61) (tgt := 62) C dX1_tell_1 c_3 (by decide) (by decide) (by decide) (by decide) ?_
        refine v_aload_n C dX1_tell_62 rfl (lv_at hl 0 rfl) ?_
        refine v_getF C iX1_tell_X1 hi rfl rfl (j := 2) rfl (by decide) rfl (C.w 3 rfl) dX1_tell_63 ?_
        exact hret _ _ _ _ (Eq.symm ((if_neg c_1).trans ((if_neg c_2).trans ((if_pos c_3).trans rfl)))) rfl dX1_tell_66
      · refine v_by (v := 3) (fun c_4 => ?_) (fun c_4 => ?_)
        · refine v_tabIn (off := 66) (tgt := 67) C dX1_tell_1 c_4 (by decide) (by decide) (by decide) (by decide) ?_
          refine v_aload_n C dX1_tell_67 rfl (lv_at hl 0 rfl) ?_
          refine v_getF C iX1_tell_X1 hi rfl rfl (j := 3) rfl (by decide) rfl (C.w 4 rfl) dX1_tell_68 ?_
          exact hret _ _ _ _ (Eq.symm ((if_neg c_1).trans ((if_neg c_2).trans ((if_neg c_3).trans ((if_pos c_4).trans rfl))))) rfl dX1_tell_71
        · refine v_by (v := 4) (fun c_5 => ?_) (fun c_5 => ?_)
          · refine v_tabIn (off := 71) (tgt := 72) C dX1_tell_1 c_5 (by decide) (by decide) (by decide) (by decide) ?_
            refine v_aload_n C dX1_tell_72 rfl (lv_at hl 0 rfl) ?_
            refine v_getF C iX1_tell_X1 hi rfl rfl (j := 4) rfl (by decide) rfl (C.w 5 rfl) dX1_tell_73 ?_
            exact hret _ _ _ _ (Eq.symm ((if_neg c_1).trans ((if_neg c_2).trans ((if_neg c_3).trans ((if_neg c_4).trans ((if_pos c_5).trans rfl)))))) rfl dX1_tell_76
          · refine v_by (v := 5) (fun c_6 => ?_) (fun c_6 => ?_)
            · refine v_tabIn (off := 76) (tgt := 77) C dX1_tell_1 c_6 (by decide) (by decide) (by decide) (by decide) ?_
              refine v_aload_n C dX1_tell_77 rfl (lv_at hl 0 rfl) ?_
              refine v_getF C iX1_tell_X1 hi rfl rfl (j := 5) rfl (by decide) rfl (C.w 6 rfl) dX1_tell_78 ?_
              exact hret _ _ _ _ (Eq.symm ((if_neg c_1).trans ((if_neg c_2).trans ((if_neg c_3).trans ((if_neg c_4).trans ((if_neg c_5).trans ((if_pos c_6).trans rfl))))))) rfl dX1_tell_81
            · refine v_by (v := 6) (fun c_7 => ?_) (fun c_7 => ?_)
              · refine v_tabIn (off := 81) (tgt := 82) C dX1_tell_1 c_7 (by decide) (by decide) (by decide) (by decide) ?_
                refine v_aload_n C dX1_tell_82 rfl (lv_at hl 0 rfl) ?_
                refine v_getF C iX1_tell_X1 hi rfl rfl (j := 6) rfl (by decide) rfl (C.w 7 rfl) dX1_tell_83 ?_
                exact hret _ _ _ _ (Eq.symm ((if_neg c_1).trans ((if_neg c_2).trans ((if_neg c_3).trans ((if_neg c_4).trans ((if_neg c_5).trans ((if_neg c_6).trans ((if_pos c_7).trans rfl)))))))) rfl dX1_tell_86
              · refine v_by (v := 7) (fun c_8 => ?_) (fun c_8 => ?_)
                · refine v_tabIn (off := 86) (tgt := 87) C dX1_tell_1 c_8 (by decide) (by decide) (by decide) (by decide) ?_
                  refine v_aload_n C dX1_tell_87 rfl (lv_at hl 0 rfl) ?_
                  refine v_getF C iX1_tell_X1 hi rfl rfl (j := 7) rfl (by decide) rfl (C.w 8 rfl) dX1_tell_88 ?_
                  exact hret _ _ _ _ (Eq.symm ((if_neg c_1).trans ((if_neg c_2).trans ((if_neg c_3).trans ((if_neg c_4).trans ((if_neg c_5).trans ((if_neg c_6).trans ((if_neg c_7).trans ((if_pos c_8).trans rfl))))))))) rfl dX1_tell_91
                · refine v_by (v := 8) (fun c_9 => ?_) (fun c_9 => ?_)
                  · refine v_tabIn (off := 91) (tgt := 92) C dX1_tell_1 c_9 (by decide) (by decide) (by decide) (by decide) ?_
                    refine v_aload_n C dX1_tell_92 rfl (lv_at hl 0 rfl) ?_
                    refine v_iload_n C dX1_tell_93 rfl (lv_at hl 2 rfl) ?_
                    refine v_calli C (c_X1_outputsOn l g _ _ hi _ _) (cwV 1 C.2.2.2.2.1 gX1_tell_X1_outputsOn rfl rfl rfl hv_X1_outputsOn ⟨Nat.le_of_ble_eq_true rfl, Nat.le_of_ble_eq_true rfl⟩) hi rfl rfl rfl rfl hl.1 rfl (Nat.le_of_ble_eq_true rfl) dX1_tell_94 ⟨Nat.le_refl _, Nat.le_refl _⟩ ?_
                    exact hret _ _ _ _ (Eq.symm ((if_neg c_1).trans ((if_neg c_2).trans ((if_neg c_3).trans ((if_neg c_4).trans ((if_neg c_5).trans ((if_neg c_6).trans ((if_neg c_7).trans ((if_neg c_8).trans ((if_pos c_9).trans rfl)))))))))) rfl dX1_tell_97
                  · refine v_tabOut (tgt := 98) C dX1_tell_1 (by have h0 := lv_neT (a := 0) c_1 (by decide); have h1 := lv_neT (a := 1) c_2 (by decide); have h2 := lv_neT (a := 2) c_3 (by decide); have h3 := lv_neT (a := 3) c_4 (by decide); have h4 := lv_neT (a := 4) c_5 (by decide); have h5 := lv_neT (a := 5) c_6 (by decide); have h6 := lv_neT (a := 6) c_7 (by decide); have h7 := lv_neT (a := 7) c_8 (by decide); have h8 := lv_neT (a := 8) c_9 (by decide); omega) (by decide) ?_
                    refine v_bipush (v := (-2)) C dX1_tell_98 (by decide) ?_
                    exact hret _ _ _ _ (Eq.symm ((if_neg c_1).trans ((if_neg c_2).trans ((if_neg c_3).trans ((if_neg c_4).trans ((if_neg c_5).trans ((if_neg c_6).trans ((if_neg c_7).trans ((if_neg c_8).trans ((if_neg c_9).trans rfl)))))))))) rfl dX1_tell_100
theorem iX2_setUp_X2 : ∀ w ∈ wsX20, w ∈ wsX2_setUp := fun _ h => (List.mem_cons_of_mem _ (List.mem_append_right _ h))
theorem hv_X2_setUp : yX2_setUp.cls = RX2 ∧ yX2_setUp.cls ≠ "java/lang/invoke/MethodHandle" ∧ yX2_setUp.cls ≠ "java/lang/invoke/VarHandle" ∧ (parseMethodDescriptor yX2_setUp.desc).map (fun d => d.parameters.length) = some 3 := by decide +kernel
def X2_setUp_s (a1 : Int32) (a2 : Int32) (a3 : Int32) (f : Nat → Int32) : Nat → Int32 :=
  let t1 := upd f 0 a1
  let t2 := upd t1 1 a2
  let t3 := upd t2 2 a3
  let t4 := upd t3 4 0
  let t5 := upd t4 5 0
  let t6 := upd t5 6 1
  let t7 := upd t6 7 0
  let t8 := upd t7 8 (-9)
  t8
set_option maxHeartbeats 4000000 in
set_option maxRecDepth 100000 in
theorem c_X2_setUp (l : Launch) (g : ct_G) (t : ct_St) (i : Nat) (hi : shG[i]? = some (.inr (.inr (2, fsX2)))) (f : Nat → Int32) (a1 : Int32) (a2 : Int32) (a3 : Int32) : MV l g shG yX2_setUp wsX2_setUp (rmd 0) [.ref (g.2.1 i), .int a1, .int a2, .int a3] (ur t i f) (ur t i (X2_setUp_s a1 a2 a3 f)) := by
  refine MV.of (own := RX2) (cc := cX2_setUp) (maxL := 4) rfl (by decide) rfl (Nat.le_of_ble_eq_true rfl) (fun p e s m args below meth cd A Q C hret ls hl => ?_)
  have hl : lv_has ls 4 [(0, .ref (g.2.1 i)), (1, .int a1), (2, .int a2), (3, .int a3)] := hl
  refine v_aload_n C dX2_setUp_0 rfl (lv_at hl 0 rfl) ?_
  refine v_iload_n C dX2_setUp_1 rfl (lv_at hl 1 rfl) ?_
  refine v_putF C iX2_setUp_X2 tyX2 tyX2_ok nmX2 hi rfl rfl (j := 0) rfl (by decide) rfl (C.w 1 rfl) rfl rfl rfl dX2_setUp_2 ?_
  refine v_aload_n C dX2_setUp_5 rfl (lv_at hl 0 rfl) ?_
  refine v_iload_n C dX2_setUp_6 rfl (lv_at hl 2 rfl) ?_
  refine v_putF C iX2_setUp_X2 tyX2 tyX2_ok nmX2 hi rfl rfl (j := 1) rfl (by decide) rfl (C.w 2 rfl) rfl rfl rfl dX2_setUp_7 ?_
  refine v_aload_n C dX2_setUp_10 rfl (lv_at hl 0 rfl) ?_
  refine v_iload_n C dX2_setUp_11 rfl (lv_at hl 3 rfl) ?_
  refine v_putF C iX2_setUp_X2 tyX2 tyX2_ok nmX2 hi rfl rfl (j := 2) rfl (by decide) rfl (C.w 3 rfl) rfl rfl rfl dX2_setUp_12 ?_
  refine v_aload_n C dX2_setUp_15 rfl (lv_at hl 0 rfl) ?_
  refine v_iconst (v := 0) C dX2_setUp_16 (by decide) ?_
  refine v_putF C iX2_setUp_X2 tyX2 tyX2_ok nmX2 hi rfl rfl (j := 4) rfl (by decide) rfl (C.w 4 rfl) rfl rfl rfl dX2_setUp_17 ?_
  refine v_aload_n C dX2_setUp_20 rfl (lv_at hl 0 rfl) ?_
  refine v_iconst (v := 0) C dX2_setUp_21 (by decide) ?_
  refine v_putF C iX2_setUp_X2 tyX2 tyX2_ok nmX2 hi rfl rfl (j := 5) rfl (by decide) rfl (C.w 5 rfl) rfl rfl rfl dX2_setUp_22 ?_
  refine v_aload_n C dX2_setUp_25 rfl (lv_at hl 0 rfl) ?_
  refine v_iconst (v := 1) C dX2_setUp_26 (by decide) ?_
  refine v_putF C iX2_setUp_X2 tyX2 tyX2_ok nmX2 hi rfl rfl (j := 6) rfl (by decide) rfl (C.w 6 rfl) rfl rfl rfl dX2_setUp_27 ?_
  refine v_aload_n C dX2_setUp_30 rfl (lv_at hl 0 rfl) ?_
  refine v_iconst (v := 0) C dX2_setUp_31 (by decide) ?_
  refine v_putF C iX2_setUp_X2 tyX2 tyX2_ok nmX2 hi rfl rfl (j := 7) rfl (by decide) rfl (C.w 7 rfl) rfl rfl rfl dX2_setUp_32 ?_
  refine v_aload_n C dX2_setUp_35 rfl (lv_at hl 0 rfl) ?_
  refine v_bipush (v := (-9)) C dX2_setUp_36 (by decide) ?_
  refine v_putF C iX2_setUp_X2 tyX2 tyX2_ok nmX2 hi rfl rfl (j := 8) rfl (by decide) rfl (C.w 8 rfl) rfl rfl rfl dX2_setUp_38 ?_
  exact hret _ _ _ rfl dX2_setUp_41
theorem iX2_goOver_X2 : ∀ w ∈ wsX20, w ∈ wsX2_goOver := fun _ h => (List.mem_cons_of_mem _ (List.mem_append_right _ h))
theorem hv_X2_goOver : yX2_goOver.cls = RX2 ∧ yX2_goOver.cls ≠ "java/lang/invoke/MethodHandle" ∧ yX2_goOver.cls ≠ "java/lang/invoke/VarHandle" ∧ (parseMethodDescriptor yX2_goOver.desc).map (fun d => d.parameters.length) = some 0 := by decide +kernel
def X2_goOver_s (f : Nat → Int32) : Nat → Int32 :=
  let t1 := upd f 9 1
  let t2 := upd t1 7 ((t1 7) + 1)
  t2
set_option maxHeartbeats 4000000 in
set_option maxRecDepth 100000 in
theorem c_X2_goOver (l : Launch) (g : ct_G) (t : ct_St) (i : Nat) (hi : shG[i]? = some (.inr (.inr (2, fsX2)))) (f : Nat → Int32) : MV l g shG yX2_goOver wsX2_goOver (rmd 0) [.ref (g.2.1 i)] (ur t i f) (ur t i (X2_goOver_s f)) := by
  refine MV.of (own := RX2) (cc := cX2_goOver) (maxL := 1) rfl (by decide) rfl (Nat.le_of_ble_eq_true rfl) (fun p e s m args below meth cd A Q C hret ls hl => ?_)
  have hl : lv_has ls 1 [(0, .ref (g.2.1 i))] := hl
  refine v_aload_n C dX2_goOver_0 rfl (lv_at hl 0 rfl) ?_
  refine v_iconst (v := 1) C dX2_goOver_1 (by decide) ?_
  refine v_putF C iX2_goOver_X2 tyX2 tyX2_ok nmX2 hi rfl rfl (j := 9) rfl (by decide) rfl (C.w 1 rfl) rfl rfl rfl dX2_goOver_2 ?_
  refine v_aload_n C dX2_goOver_5 rfl (lv_at hl 0 rfl) ?_
  refine v_dup C dX2_goOver_6 rfl ?_
  refine v_getF C iX2_goOver_X2 hi rfl rfl (j := 7) rfl (by decide) rfl (C.w 2 rfl) dX2_goOver_7 ?_
  refine v_iconst (v := 1) C dX2_goOver_10 (by decide) ?_
  refine v_iadd C dX2_goOver_11 ?_
  refine v_putF C iX2_goOver_X2 tyX2 tyX2_ok nmX2 hi rfl rfl (j := 7) rfl (by decide) rfl (C.w 2 rfl) rfl rfl rfl dX2_goOver_12 ?_
  exact hret _ _ _ rfl dX2_goOver_15
theorem iX2_takeWaitingTop_X2 : ∀ w ∈ wsX20, w ∈ wsX2_takeWaitingTop := fun _ h => (List.mem_cons_of_mem _ (List.mem_append_right _ h))
theorem hv_X2_takeWaitingTop : yX2_takeWaitingTop.cls = RX2 ∧ yX2_takeWaitingTop.cls ≠ "java/lang/invoke/MethodHandle" ∧ yX2_takeWaitingTop.cls ≠ "java/lang/invoke/VarHandle" ∧ (parseMethodDescriptor yX2_takeWaitingTop.desc).map (fun d => d.parameters.length) = some 0 := by decide +kernel
def X2_takeWaitingTop_s (f : Nat → Int32) : Nat → Int32 :=
  if f 8 = (-9) then
    f
  else
    let t1 := upd f 1 (f 8)
    let t2 := upd t1 8 (-9)
    t2
set_option maxHeartbeats 4000000 in
set_option maxRecDepth 100000 in
theorem c_X2_takeWaitingTop (l : Launch) (g : ct_G) (t : ct_St) (i : Nat) (hi : shG[i]? = some (.inr (.inr (2, fsX2)))) (f : Nat → Int32) : MV l g shG yX2_takeWaitingTop wsX2_takeWaitingTop (rmd 0) [.ref (g.2.1 i)] (ur t i f) (ur t i (X2_takeWaitingTop_s f)) := by
  refine MV.of (own := RX2) (cc := cX2_takeWaitingTop) (maxL := 1) rfl (by decide) rfl (Nat.le_of_ble_eq_true rfl) (fun p e s m args below meth cd A Q C hret ls hl => ?_)
  have hl : lv_has ls 1 [(0, .ref (g.2.1 i))] := hl
  refine v_aload_n C dX2_takeWaitingTop_0 rfl (lv_at hl 0 rfl) ?_
  refine v_getF C iX2_takeWaitingTop_X2 hi rfl rfl (j := 8) rfl (by decide) rfl (C.w 1 rfl) dX2_takeWaitingTop_1 ?_
  refine v_bipush (v := (-9)) C dX2_takeWaitingTop_4 (by decide) ?_
  refine v_icmp_eq (tgt := 23) C dX2_takeWaitingTop_6 (by decide) (fun c_1 => ?_) (fun c_1 => ?_)
  · exact hret _ _ _ (congrArg (ur _ _) (Eq.symm ((if_pos c_1).trans rfl))) dX2_takeWaitingTop_23
  · refine v_aload_n C dX2_takeWaitingTop_9 rfl (lv_at hl 0 rfl) ?_
    refine v_aload_n C dX2_takeWaitingTop_10 rfl (lv_at hl 0 rfl) ?_
    refine v_getF C iX2_takeWaitingTop_X2 hi rfl rfl (j := 8) rfl (by decide) rfl (C.w 1 rfl) dX2_takeWaitingTop_11 ?_
    refine v_putF C iX2_takeWaitingTop_X2 tyX2 tyX2_ok nmX2 hi rfl rfl (j := 1) rfl (by decide) rfl (C.w 2 rfl) rfl rfl rfl dX2_takeWaitingTop_14 ?_
    refine v_aload_n C dX2_takeWaitingTop_17 rfl (lv_at hl 0 rfl) ?_
    refine v_bipush (v := (-9)) C dX2_takeWaitingTop_18 (by decide) ?_
    refine v_putF C iX2_takeWaitingTop_X2 tyX2 tyX2_ok nmX2 hi rfl rfl (j := 8) rfl (by decide) rfl (C.w 1 rfl) rfl rfl rfl dX2_takeWaitingTop_20 ?_
    exact hret _ _ _ (congrArg (ur _ _) (Eq.symm ((if_neg c_1).trans rfl))) dX2_takeWaitingTop_23
theorem iX2_stepUp_X2 : ∀ w ∈ wsX20, w ∈ wsX2_stepUp := fun _ h => (List.mem_cons_of_mem _ (List.mem_append_right _ h))
theorem hv_X2_stepUp : yX2_stepUp.cls = RX2 ∧ yX2_stepUp.cls ≠ "java/lang/invoke/MethodHandle" ∧ yX2_stepUp.cls ≠ "java/lang/invoke/VarHandle" ∧ (parseMethodDescriptor yX2_stepUp.desc).map (fun d => d.parameters.length) = some 0 := by decide +kernel
def X2_stepUp_s (f : Nat → Int32) : Nat → Int32 :=
  if f 4 = f 1 then
    let t2 := X2_goOver_s f
    let t3 := X2_takeWaitingTop_s t2
    let t4 := upd t3 4 0
    t4
  else
    let t1 := upd f 4 ((f 4) + 1)
    t1
set_option maxHeartbeats 4000000 in
set_option maxRecDepth 100000 in
theorem c_X2_stepUp (l : Launch) (g : ct_G) (t : ct_St) (i : Nat) (hi : shG[i]? = some (.inr (.inr (2, fsX2)))) (f : Nat → Int32) : MV l g shG yX2_stepUp wsX2_stepUp (rmd 1) [.ref (g.2.1 i)] (ur t i f) (ur t i (X2_stepUp_s f)) := by
  refine MV.of (own := RX2) (cc := cX2_stepUp) (maxL := 1) rfl (by decide) rfl (Nat.le_of_ble_eq_true rfl) (fun p e s m args below meth cd A Q C hret ls hl => ?_)
  have hl : lv_has ls 1 [(0, .ref (g.2.1 i))] := hl
  refine v_aload_n C dX2_stepUp_0 rfl (lv_at hl 0 rfl) ?_
  refine v_getF C iX2_stepUp_X2 hi rfl rfl (j := 4) rfl (by decide) rfl (C.w 1 rfl) dX2_stepUp_1 ?_
  refine v_aload_n C dX2_stepUp_4 rfl (lv_at hl 0 rfl) ?_
  refine v_getF C iX2_stepUp_X2 hi rfl rfl (j := 1) rfl (by decide) rfl (C.w 2 rfl) dX2_stepUp_5 ?_
  refine v_icmp_ne (tgt := 27) C dX2_stepUp_8 (by decide) (fun c_1 => ?_) (fun c_1 => ?_)
  · refine v_aload_n C dX2_stepUp_27 rfl (lv_at hl 0 rfl) ?_
    refine v_dup C dX2_stepUp_28 rfl ?_
    refine v_getF C iX2_stepUp_X2 hi rfl rfl (j := 4) rfl (by decide) rfl (C.w 1 rfl) dX2_stepUp_29 ?_
    refine v_iconst (v := 1) C dX2_stepUp_32 (by decide) ?_
    refine v_iadd C dX2_stepUp_33 ?_
    refine v_putF C iX2_stepUp_X2 tyX2 tyX2_ok nmX2 hi rfl rfl (j := 4) rfl (by decide) rfl (C.w 1 rfl) rfl rfl rfl dX2_stepUp_34 ?_
    exact hret _ _ _ (congrArg (ur _ _) (Eq.symm ((if_neg c_1).trans rfl))) dX2_stepUp_37
  · refine v_aload_n C dX2_stepUp_11 rfl (lv_at hl 0 rfl) ?_
    refine v_callv C (c_X2_goOver l g _ _ hi _) (cwV 0 C.2.2.2.2.1 gX2_stepUp_X2_goOver rfl rfl rfl hv_X2_goOver ⟨Nat.le_of_ble_eq_true rfl, Nat.le_of_ble_eq_true rfl⟩) hi rfl rfl rfl rfl hl.1 rfl (Nat.le_of_ble_eq_true rfl) dX2_stepUp_12 ⟨Nat.le_refl _, Nat.le_refl _⟩ ?_
    refine v_aload_n C dX2_stepUp_15 rfl (lv_at hl 0 rfl) ?_
    refine v_callv C (c_X2_takeWaitingTop l g _ _ hi _) (cwV 0 C.2.2.2.2.1 gX2_stepUp_X2_takeWaitingTop rfl rfl rfl hv_X2_takeWaitingTop ⟨Nat.le_of_ble_eq_true rfl, Nat.le_of_ble_eq_true rfl⟩) hi rfl rfl rfl rfl hl.1 rfl (Nat.le_of_ble_eq_true rfl) dX2_stepUp_16 ⟨Nat.le_refl _, Nat.le_refl _⟩ ?_
    refine v_aload_n C dX2_stepUp_19 rfl (lv_at hl 0 rfl) ?_
    refine v_iconst (v := 0) C dX2_stepUp_20 (by decide) ?_
    refine v_putF C iX2_stepUp_X2 tyX2 tyX2_ok nmX2 hi rfl rfl (j := 4) rfl (by decide) rfl (C.w 1 rfl) rfl rfl rfl dX2_stepUp_21 ?_
    refine v_goto (tgt := 37) C dX2_stepUp_24 (by decide) ?_
    exact hret _ _ _ (congrArg (ur _ _) (Eq.symm ((if_pos c_1).trans rfl))) dX2_stepUp_37
theorem iX2_stepDown_X2 : ∀ w ∈ wsX20, w ∈ wsX2_stepDown := fun _ h => (List.mem_cons_of_mem _ (List.mem_append_right _ h))
theorem hv_X2_stepDown : yX2_stepDown.cls = RX2 ∧ yX2_stepDown.cls ≠ "java/lang/invoke/MethodHandle" ∧ yX2_stepDown.cls ≠ "java/lang/invoke/VarHandle" ∧ (parseMethodDescriptor yX2_stepDown.desc).map (fun d => d.parameters.length) = some 0 := by decide +kernel
def X2_stepDown_s (f : Nat → Int32) : Nat → Int32 :=
  if f 4 = 0 then
    let t2 := X2_goOver_s f
    let t3 := X2_takeWaitingTop_s t2
    let t4 := upd t3 4 (t3 1)
    t4
  else
    let t1 := upd f 4 ((f 4) - 1)
    t1
set_option maxHeartbeats 4000000 in
set_option maxRecDepth 100000 in
theorem c_X2_stepDown (l : Launch) (g : ct_G) (t : ct_St) (i : Nat) (hi : shG[i]? = some (.inr (.inr (2, fsX2)))) (f : Nat → Int32) : MV l g shG yX2_stepDown wsX2_stepDown (rmd 1) [.ref (g.2.1 i)] (ur t i f) (ur t i (X2_stepDown_s f)) := by
  refine MV.of (own := RX2) (cc := cX2_stepDown) (maxL := 1) rfl (by decide) rfl (Nat.le_of_ble_eq_true rfl) (fun p e s m args below meth cd A Q C hret ls hl => ?_)
  have hl : lv_has ls 1 [(0, .ref (g.2.1 i))] := hl
  refine v_aload_n C dX2_stepDown_0 rfl (lv_at hl 0 rfl) ?_
  refine v_getF C iX2_stepDown_X2 hi rfl rfl (j := 4) rfl (by decide) rfl (C.w 1 rfl) dX2_stepDown_1 ?_
  refine v_if_ne (tgt := 26) C dX2_stepDown_4 (by decide) (fun c_1 => ?_) (fun c_1 => ?_)
  · refine v_aload_n C dX2_stepDown_26 rfl (lv_at hl 0 rfl) ?_
    refine v_dup C dX2_stepDown_27 rfl ?_
    refine v_getF C iX2_stepDown_X2 hi rfl rfl (j := 4) rfl (by decide) rfl (C.w 1 rfl) dX2_stepDown_28 ?_
    refine v_iconst (v := 1) C dX2_stepDown_31 (by decide) ?_
    refine v_isub C dX2_stepDown_32 ?_
    refine v_putF C iX2_stepDown_X2 tyX2 tyX2_ok nmX2 hi rfl rfl (j := 4) rfl (by decide) rfl (C.w 1 rfl) rfl rfl rfl dX2_stepDown_33 ?_
    exact hret _ _ _ (congrArg (ur _ _) (Eq.symm ((if_neg c_1).trans rfl))) dX2_stepDown_36
  · refine v_aload_n C dX2_stepDown_7 rfl (lv_at hl 0 rfl) ?_
    refine v_callv C (c_X2_goOver l g _ _ hi _) (cwV 0 C.2.2.2.2.1 gX2_stepDown_X2_goOver rfl rfl rfl hv_X2_goOver ⟨Nat.le_of_ble_eq_true rfl, Nat.le_of_ble_eq_true rfl⟩) hi rfl rfl rfl rfl hl.1 rfl (Nat.le_of_ble_eq_true rfl) dX2_stepDown_8 ⟨Nat.le_refl _, Nat.le_refl _⟩ ?_
    refine v_aload_n C dX2_stepDown_11 rfl (lv_at hl 0 rfl) ?_
    refine v_callv C (c_X2_takeWaitingTop l g _ _ hi _) (cwV 0 C.2.2.2.2.1 gX2_stepDown_X2_takeWaitingTop rfl rfl rfl hv_X2_takeWaitingTop ⟨Nat.le_of_ble_eq_true rfl, Nat.le_of_ble_eq_true rfl⟩) hi rfl rfl rfl rfl hl.1 rfl (Nat.le_of_ble_eq_true rfl) dX2_stepDown_12 ⟨Nat.le_refl _, Nat.le_refl _⟩ ?_
    refine v_aload_n C dX2_stepDown_15 rfl (lv_at hl 0 rfl) ?_
    refine v_aload_n C dX2_stepDown_16 rfl (lv_at hl 0 rfl) ?_
    refine v_getF C iX2_stepDown_X2 hi rfl rfl (j := 1) rfl (by decide) rfl (C.w 2 rfl) dX2_stepDown_17 ?_
    refine v_putF C iX2_stepDown_X2 tyX2 tyX2_ok nmX2 hi rfl rfl (j := 4) rfl (by decide) rfl (C.w 1 rfl) rfl rfl rfl dX2_stepDown_20 ?_
    refine v_goto (tgt := 36) C dX2_stepDown_23 (by decide) ?_
    exact hret _ _ _ (congrArg (ur _ _) (Eq.symm ((if_pos c_1).trans rfl))) dX2_stepDown_36
theorem iX2_stepBothWays_X2 : ∀ w ∈ wsX20, w ∈ wsX2_stepBothWays := fun _ h => (List.mem_cons_of_mem _ (List.mem_append_right _ h))
theorem hv_X2_stepBothWays : yX2_stepBothWays.cls = RX2 ∧ yX2_stepBothWays.cls ≠ "java/lang/invoke/MethodHandle" ∧ yX2_stepBothWays.cls ≠ "java/lang/invoke/VarHandle" ∧ (parseMethodDescriptor yX2_stepBothWays.desc).map (fun d => d.parameters.length) = some 0 := by decide +kernel
def X2_stepBothWays_s (f : Nat → Int32) : Nat → Int32 :=
  if f 6 = 1 then
    if f 4 = f 1 then
      let t15 := X2_goOver_s f
      let t16 := upd t15 6 0
      if t16 6 = 1 then
        let t18 := upd t16 4 ((t16 4) + 1)
        t18
      else
        let t17 := upd t16 4 ((t16 4) + (-1))
        t17
    else
      if f 6 = 0 then
        if f 4 = 0 then
          let t10 := X2_goOver_s f
          let t11 := upd t10 6 1
          let t12 := X2_takeWaitingTop_s t11
          if t12 6 = 1 then
            let t14 := upd t12 4 ((t12 4) + 1)
            t14
          else
            let t13 := upd t12 4 ((t12 4) + (-1))
            t13
        else
          let t9 := upd f 4 ((f 4) + 1)
          t9
      else
        let t8 := upd f 4 ((f 4) + 1)
        t8
  else
    if f 6 = 0 then
      if f 4 = 0 then
        let t3 := X2_goOver_s f
        let t4 := upd t3 6 1
        let t5 := X2_takeWaitingTop_s t4
        if t5 6 = 1 then
          let t7 := upd t5 4 ((t5 4) + 1)
          t7
        else
          let t6 := upd t5 4 ((t5 4) + (-1))
          t6
      else
        let t2 := upd f 4 ((f 4) + (-1))
        t2
    else
      let t1 := upd f 4 ((f 4) + (-1))
      t1
set_option maxHeartbeats 4000000 in
set_option maxRecDepth 100000 in
theorem c_X2_stepBothWays (l : Launch) (g : ct_G) (t : ct_St) (i : Nat) (hi : shG[i]? = some (.inr (.inr (2, fsX2)))) (f : Nat → Int32) : MV l g shG yX2_stepBothWays wsX2_stepBothWays (rmd 1) [.ref (g.2.1 i)] (ur t i f) (ur t i (X2_stepBothWays_s f)) := by
  refine MV.of (own := RX2) (cc := cX2_stepBothWays) (maxL := 1) rfl (by decide) rfl (Nat.le_of_ble_eq_true rfl) (fun p e s m args below meth cd A Q C hret ls hl => ?_)
  have hl : lv_has ls 1 [(0, .ref (g.2.1 i))] := hl
  refine v_aload_n C dX2_stepBothWays_0 rfl (lv_at hl 0 rfl) ?_
  refine v_getF C iX2_stepBothWays_X2 hi rfl rfl (j := 6) rfl (by decide) rfl (C.w 1 rfl) dX2_stepBothWays_1 ?_
  refine v_iconst (v := 1) C dX2_stepBothWays_4 (by decide) ?_
  refine v_icmp_ne (tgt := 31) C dX2_stepBothWays_5 (by decide) (fun c_1 => ?_) (fun c_1 => ?_)
  · refine v_aload_n C dX2_stepBothWays_31 rfl (lv_at hl 0 rfl) ?_
    refine v_getF C iX2_stepBothWays_X2 hi rfl rfl (j := 6) rfl (by decide) rfl (C.w 1 rfl) dX2_stepBothWays_32 ?_
    refine v_if_ne (tgt := 58) C dX2_stepBothWays_35 (by decide) (fun c_2 => ?_) (fun c_2 => ?_)
    · refine v_aload_n C dX2_stepBothWays_58 rfl (lv_at hl 0 rfl) ?_
      refine v_dup C dX2_stepBothWays_59 rfl ?_
      refine v_getF C iX2_stepBothWays_X2 hi rfl rfl (j := 4) rfl (by decide) rfl (C.w 2 rfl) dX2_stepBothWays_60 ?_
      refine v_aload_n C dX2_stepBothWays_63 rfl (lv_at hl 0 rfl) ?_
      refine v_getF C iX2_stepBothWays_X2 hi rfl rfl (j := 6) rfl (by decide) rfl (C.w 1 rfl) dX2_stepBothWays_64 ?_
      refine v_iconst (v := 1) C dX2_stepBothWays_67 (by decide) ?_
      refine v_icmp_ne (tgt := 75) C dX2_stepBothWays_68 (by decide) (fun _ => ?_) (fun h => absurd h (c_1))
      refine v_iconst (v := (-1)) C dX2_stepBothWays_75 (by decide) ?_
      refine v_iadd C dX2_stepBothWays_76 ?_
      refine v_putF C iX2_stepBothWays_X2 tyX2 tyX2_ok nmX2 hi rfl rfl (j := 4) rfl (by decide) rfl (C.w 2 rfl) rfl rfl rfl dX2_stepBothWays_77 ?_
      exact hret _ _ _ (congrArg (ur _ _) (Eq.symm ((if_neg c_1).trans ((if_neg c_2).trans rfl)))) dX2_stepBothWays_80
    · refine v_aload_n C dX2_stepBothWays_38 rfl (lv_at hl 0 rfl) ?_
      refine v_getF C iX2_stepBothWays_X2 hi rfl rfl (j := 4) rfl (by decide) rfl (C.w 2 rfl) dX2_stepBothWays_39 ?_
      refine v_if_ne (tgt := 58) C dX2_stepBothWays_42 (by decide) (fun c_4 => ?_) (fun c_4 => ?_)
      · refine v_aload_n C dX2_stepBothWays_58 rfl (lv_at hl 0 rfl) ?_
        refine v_dup C dX2_stepBothWays_59 rfl ?_
        refine v_getF C iX2_stepBothWays_X2 hi rfl rfl (j := 4) rfl (by decide) rfl (C.w 2 rfl) dX2_stepBothWays_60 ?_
        refine v_aload_n C dX2_stepBothWays_63 rfl (lv_at hl 0 rfl) ?_
        refine v_getF C iX2_stepBothWays_X2 hi rfl rfl (j := 6) rfl (by decide) rfl (C.w 1 rfl) dX2_stepBothWays_64 ?_
        refine v_iconst (v := 1) C dX2_stepBothWays_67 (by decide) ?_
        refine v_icmp_ne (tgt := 75) C dX2_stepBothWays_68 (by decide) (fun _ => ?_) (fun h => absurd h (c_1))
        refine v_iconst (v := (-1)) C dX2_stepBothWays_75 (by decide) ?_
        refine v_iadd C dX2_stepBothWays_76 ?_
        refine v_putF C iX2_stepBothWays_X2 tyX2 tyX2_ok nmX2 hi rfl rfl (j := 4) rfl (by decide) rfl (C.w 2 rfl) rfl rfl rfl dX2_stepBothWays_77 ?_
        exact hret _ _ _ (congrArg (ur _ _) (Eq.symm ((if_neg c_1).trans ((if_pos c_2).trans ((if_neg c_4).trans rfl))))) dX2_stepBothWays_80
      · refine v_aload_n C dX2_stepBothWays_45 rfl (lv_at hl 0 rfl) ?_
        refine v_callv C (c_X2_goOver l g _ _ hi _) (cwV 0 C.2.2.2.2.1 gX2_stepBothWays_X2_goOver rfl rfl rfl hv_X2_goOver ⟨Nat.le_of_ble_eq_true rfl, Nat.le_of_ble_eq_true rfl⟩) hi rfl rfl rfl rfl hl.1 rfl (Nat.le_of_ble_eq_true rfl) dX2_stepBothWays_46 ⟨Nat.le_refl _, Nat.le_refl _⟩ ?_
        refine v_aload_n C dX2_stepBothWays_49 rfl (lv_at hl 0 rfl) ?_
        refine v_iconst (v := 1) C dX2_stepBothWays_50 (by decide) ?_
        refine v_putF C iX2_stepBothWays_X2 tyX2 tyX2_ok nmX2 hi rfl rfl (j := 6) rfl (by decide) rfl (C.w 1 rfl) rfl rfl rfl dX2_stepBothWays_51 ?_
        refine v_aload_n C dX2_stepBothWays_54 rfl (lv_at hl 0 rfl) ?_
        refine v_callv C (c_X2_takeWaitingTop l g _ _ hi _) (cwV 0 C.2.2.2.2.1 gX2_stepBothWays_X2_takeWaitingTop rfl rfl rfl hv_X2_takeWaitingTop ⟨Nat.le_of_ble_eq_true rfl, Nat.le_of_ble_eq_true rfl⟩) hi rfl rfl rfl rfl hl.1 rfl (Nat.le_of_ble_eq_true rfl) dX2_stepBothWays_55 ⟨Nat.le_refl _, Nat.le_refl _⟩ ?_
        refine v_aload_n C dX2_stepBothWays_58 rfl (lv_at hl 0 rfl) ?_
        refine v_dup C dX2_stepBothWays_59 rfl ?_
        refine v_getF C iX2_stepBothWays_X2 hi rfl rfl (j := 4) rfl (by decide) rfl (C.w 2 rfl) dX2_stepBothWays_60 ?_
        refine v_aload_n C dX2_stepBothWays_63 rfl (lv_at hl 0 rfl) ?_
        refine v_getF C iX2_stepBothWays_X2 hi rfl rfl (j := 6) rfl (by decide) rfl (C.w 1 rfl) dX2_stepBothWays_64 ?_
        refine v_iconst (v := 1) C dX2_stepBothWays_67 (by decide) ?_
        refine v_icmp_ne (tgt := 75) C dX2_stepBothWays_68 (by decide) (fun c_6 => ?_) (fun c_6 => ?_)
        · refine v_iconst (v := (-1)) C dX2_stepBothWays_75 (by decide) ?_
          refine v_iadd C dX2_stepBothWays_76 ?_
          refine v_putF C iX2_stepBothWays_X2 tyX2 tyX2_ok nmX2 hi rfl rfl (j := 4) rfl (by decide) rfl (C.w 2 rfl) rfl rfl rfl dX2_stepBothWays_77 ?_
          exact hret _ _ _ (congrArg (ur _ _) (Eq.symm ((if_neg c_1).trans ((if_pos c_2).trans ((if_pos c_4).trans ((if_neg c_6).trans rfl)))))) dX2_stepBothWays_80
        · refine v_iconst (v := 1) C dX2_stepBothWays_71 (by decide) ?_
          refine v_goto (tgt := 76) C dX2_stepBothWays_72 (by decide) ?_
          refine v_iadd C dX2_stepBothWays_76 ?_
          refine v_putF C iX2_stepBothWays_X2 tyX2 tyX2_ok nmX2 hi rfl rfl (j := 4) rfl (by decide) rfl (C.w 2 rfl) rfl rfl rfl dX2_stepBothWays_77 ?_
          exact hret _ _ _ (congrArg (ur _ _) (Eq.symm ((if_neg c_1).trans ((if_pos c_2).trans ((if_pos c_4).trans ((if_pos c_6).trans rfl)))))) dX2_stepBothWays_80
  · refine v_aload_n C dX2_stepBothWays_8 rfl (lv_at hl 0 rfl) ?_
    refine v_getF C iX2_stepBothWays_X2 hi rfl rfl (j := 4) rfl (by decide) rfl (C.w 2 rfl) dX2_stepBothWays_9 ?_
    refine v_aload_n C dX2_stepBothWays_12 rfl (lv_at hl 0 rfl) ?_
    refine v_getF C iX2_stepBothWays_X2 hi rfl rfl (j := 1) rfl (by decide) rfl (C.w 3 rfl) dX2_stepBothWays_13 ?_
    refine v_icmp_ne (tgt := 31) C dX2_stepBothWays_16 (by decide) (fun c_7 => ?_) (fun c_7 => ?_)
    · refine v_aload_n C dX2_stepBothWays_31 rfl (lv_at hl 0 rfl) ?_
      refine v_getF C iX2_stepBothWays_X2 hi rfl rfl (j := 6) rfl (by decide) rfl (C.w 1 rfl) dX2_stepBothWays_32 ?_
      refine v_if_ne (tgt := 58) C dX2_stepBothWays_35 (by decide) (fun c_8 => ?_) (fun c_8 => ?_)
      · refine v_aload_n C dX2_stepBothWays_58 rfl (lv_at hl 0 rfl) ?_
        refine v_dup C dX2_stepBothWays_59 rfl ?_
        refine v_getF C iX2_stepBothWays_X2 hi rfl rfl (j := 4) rfl (by decide) rfl (C.w 2 rfl) dX2_stepBothWays_60 ?_
        refine v_aload_n C dX2_stepBothWays_63 rfl (lv_at hl 0 rfl) ?_
        refine v_getF C iX2_stepBothWays_X2 hi rfl rfl (j := 6) rfl (by decide) rfl (C.w 1 rfl) dX2_stepBothWays_64 ?_
        refine v_iconst (v := 1) C dX2_stepBothWays_67 (by decide) ?_
        refine v_icmp_ne (tgt := 75) C dX2_stepBothWays_68 (by decide) (fun h => absurd (c_1) h) (fun _ => ?_)
        refine v_iconst (v := 1) C dX2_stepBothWays_71 (by decide) ?_
        refine v_goto (tgt := 76) C dX2_stepBothWays_72 (by decide) ?_
        refine v_iadd C dX2_stepBothWays_76 ?_
        refine v_putF C iX2_stepBothWays_X2 tyX2 tyX2_ok nmX2 hi rfl rfl (j := 4) rfl (by decide) rfl (C.w 2 rfl) rfl rfl rfl dX2_stepBothWays_77 ?_
        exact hret _ _ _ (congrArg (ur _ _) (Eq.symm ((if_pos c_1).trans ((if_neg c_7).trans ((if_neg c_8).trans rfl))))) dX2_stepBothWays_80
      · refine v_aload_n C dX2_stepBothWays_38 rfl (lv_at hl 0 rfl) ?_
        refine v_getF C iX2_stepBothWays_X2 hi rfl rfl (j := 4) rfl (by decide) rfl (C.w 2 rfl) dX2_stepBothWays_39 ?_
        refine v_if_ne (tgt := 58) C dX2_stepBothWays_42 (by decide) (fun c_10 => ?_) (fun c_10 => ?_)
        · refine v_aload_n C dX2_stepBothWays_58 rfl (lv_at hl 0 rfl) ?_
          refine v_dup C dX2_stepBothWays_59 rfl ?_
          refine v_getF C iX2_stepBothWays_X2 hi rfl rfl (j := 4) rfl (by decide) rfl (C.w 2 rfl) dX2_stepBothWays_60 ?_
          refine v_aload_n C dX2_stepBothWays_63 rfl (lv_at hl 0 rfl) ?_
          refine v_getF C iX2_stepBothWays_X2 hi rfl rfl (j := 6) rfl (by decide) rfl (C.w 1 rfl) dX2_stepBothWays_64 ?_
          refine v_iconst (v := 1) C dX2_stepBothWays_67 (by decide) ?_
          refine v_icmp_ne (tgt := 75) C dX2_stepBothWays_68 (by decide) (fun h => absurd (c_1) h) (fun _ => ?_)
          refine v_iconst (v := 1) C dX2_stepBothWays_71 (by decide) ?_
          refine v_goto (tgt := 76) C dX2_stepBothWays_72 (by decide) ?_
          refine v_iadd C dX2_stepBothWays_76 ?_
          refine v_putF C iX2_stepBothWays_X2 tyX2 tyX2_ok nmX2 hi rfl rfl (j := 4) rfl (by decide) rfl (C.w 2 rfl) rfl rfl rfl dX2_stepBothWays_77 ?_
          exact hret _ _ _ (congrArg (ur _ _) (Eq.symm ((if_pos c_1).trans ((if_neg c_7).trans ((if_pos c_8).trans ((if_neg c_10).trans rfl)))))) dX2_stepBothWays_80
        · refine v_aload_n C dX2_stepBothWays_45 rfl (lv_at hl 0 rfl) ?_
          refine v_callv C (c_X2_goOver l g _ _ hi _) (cwV 0 C.2.2.2.2.1 gX2_stepBothWays_X2_goOver rfl rfl rfl hv_X2_goOver ⟨Nat.le_of_ble_eq_true rfl, Nat.le_of_ble_eq_true rfl⟩) hi rfl rfl rfl rfl hl.1 rfl (Nat.le_of_ble_eq_true rfl) dX2_stepBothWays_46 ⟨Nat.le_refl _, Nat.le_refl _⟩ ?_
          refine v_aload_n C dX2_stepBothWays_49 rfl (lv_at hl 0 rfl) ?_
          refine v_iconst (v := 1) C dX2_stepBothWays_50 (by decide) ?_
          refine v_putF C iX2_stepBothWays_X2 tyX2 tyX2_ok nmX2 hi rfl rfl (j := 6) rfl (by decide) rfl (C.w 1 rfl) rfl rfl rfl dX2_stepBothWays_51 ?_
          refine v_aload_n C dX2_stepBothWays_54 rfl (lv_at hl 0 rfl) ?_
          refine v_callv C (c_X2_takeWaitingTop l g _ _ hi _) (cwV 0 C.2.2.2.2.1 gX2_stepBothWays_X2_takeWaitingTop rfl rfl rfl hv_X2_takeWaitingTop ⟨Nat.le_of_ble_eq_true rfl, Nat.le_of_ble_eq_true rfl⟩) hi rfl rfl rfl rfl hl.1 rfl (Nat.le_of_ble_eq_true rfl) dX2_stepBothWays_55 ⟨Nat.le_refl _, Nat.le_refl _⟩ ?_
          refine v_aload_n C dX2_stepBothWays_58 rfl (lv_at hl 0 rfl) ?_
          refine v_dup C dX2_stepBothWays_59 rfl ?_
          refine v_getF C iX2_stepBothWays_X2 hi rfl rfl (j := 4) rfl (by decide) rfl (C.w 2 rfl) dX2_stepBothWays_60 ?_
          refine v_aload_n C dX2_stepBothWays_63 rfl (lv_at hl 0 rfl) ?_
          refine v_getF C iX2_stepBothWays_X2 hi rfl rfl (j := 6) rfl (by decide) rfl (C.w 1 rfl) dX2_stepBothWays_64 ?_
          refine v_iconst (v := 1) C dX2_stepBothWays_67 (by decide) ?_
          refine v_icmp_ne (tgt := 75) C dX2_stepBothWays_68 (by decide) (fun c_12 => ?_) (fun c_12 => ?_)
          · refine v_iconst (v := (-1)) C dX2_stepBothWays_75 (by decide) ?_
            refine v_iadd C dX2_stepBothWays_76 ?_
            refine v_putF C iX2_stepBothWays_X2 tyX2 tyX2_ok nmX2 hi rfl rfl (j := 4) rfl (by decide) rfl (C.w 2 rfl) rfl rfl rfl dX2_stepBothWays_77 ?_
            exact hret _ _ _ (congrArg (ur _ _) (Eq.symm ((if_pos c_1).trans ((if_neg c_7).trans ((if_pos c_8).trans ((if_pos c_10).trans ((if_neg c_12).trans rfl))))))) dX2_stepBothWays_80
          · refine v_iconst (v := 1) C dX2_stepBothWays_71 (by decide) ?_
            refine v_goto (tgt := 76) C dX2_stepBothWays_72 (by decide) ?_
            refine v_iadd C dX2_stepBothWays_76 ?_
            refine v_putF C iX2_stepBothWays_X2 tyX2 tyX2_ok nmX2 hi rfl rfl (j := 4) rfl (by decide) rfl (C.w 2 rfl) rfl rfl rfl dX2_stepBothWays_77 ?_
            exact hret _ _ _ (congrArg (ur _ _) (Eq.symm ((if_pos c_1).trans ((if_neg c_7).trans ((if_pos c_8).trans ((if_pos c_10).trans ((if_pos c_12).trans rfl))))))) dX2_stepBothWays_80
    · refine v_aload_n C dX2_stepBothWays_19 rfl (lv_at hl 0 rfl) ?_
      refine v_callv C (c_X2_goOver l g _ _ hi _) (cwV 0 C.2.2.2.2.1 gX2_stepBothWays_X2_goOver rfl rfl rfl hv_X2_goOver ⟨Nat.le_of_ble_eq_true rfl, Nat.le_of_ble_eq_true rfl⟩) hi rfl rfl rfl rfl hl.1 rfl (Nat.le_of_ble_eq_true rfl) dX2_stepBothWays_20 ⟨Nat.le_refl _, Nat.le_refl _⟩ ?_
      refine v_aload_n C dX2_stepBothWays_23 rfl (lv_at hl 0 rfl) ?_
      refine v_iconst (v := 0) C dX2_stepBothWays_24 (by decide) ?_
      refine v_putF C iX2_stepBothWays_X2 tyX2 tyX2_ok nmX2 hi rfl rfl (j := 6) rfl (by decide) rfl (C.w 1 rfl) rfl rfl rfl dX2_stepBothWays_25 ?_
      refine v_goto (tgt := 58) C dX2_stepBothWays_28 (by decide) ?_
      refine v_aload_n C dX2_stepBothWays_58 rfl (lv_at hl 0 rfl) ?_
      refine v_dup C dX2_stepBothWays_59 rfl ?_
      refine v_getF C iX2_stepBothWays_X2 hi rfl rfl (j := 4) rfl (by decide) rfl (C.w 2 rfl) dX2_stepBothWays_60 ?_
      refine v_aload_n C dX2_stepBothWays_63 rfl (lv_at hl 0 rfl) ?_
      refine v_getF C iX2_stepBothWays_X2 hi rfl rfl (j := 6) rfl (by decide) rfl (C.w 1 rfl) dX2_stepBothWays_64 ?_
      refine v_iconst (v := 1) C dX2_stepBothWays_67 (by decide) ?_
      refine v_icmp_ne (tgt := 75) C dX2_stepBothWays_68 (by decide) (fun c_13 => ?_) (fun c_13 => ?_)
      · refine v_iconst (v := (-1)) C dX2_stepBothWays_75 (by decide) ?_
        refine v_iadd C dX2_stepBothWays_76 ?_
        refine v_putF C iX2_stepBothWays_X2 tyX2 tyX2_ok nmX2 hi rfl rfl (j := 4) rfl (by decide) rfl (C.w 2 rfl) rfl rfl rfl dX2_stepBothWays_77 ?_
        exact hret _ _ _ (congrArg (ur _ _) (Eq.symm ((if_pos c_1).trans ((if_pos c_7).trans ((if_neg c_13).trans rfl))))) dX2_stepBothWays_80
      · refine v_iconst (v := 1) C dX2_stepBothWays_71 (by decide) ?_
        refine v_goto (tgt := 76) C dX2_stepBothWays_72 (by decide) ?_
        refine v_iadd C dX2_stepBothWays_76 ?_
        refine v_putF C iX2_stepBothWays_X2 tyX2 tyX2_ok nmX2 hi rfl rfl (j := 4) rfl (by decide) rfl (C.w 2 rfl) rfl rfl rfl dX2_stepBothWays_77 ?_
        exact hret _ _ _ (congrArg (ur _ _) (Eq.symm ((if_pos c_1).trans ((if_pos c_7).trans ((if_pos c_13).trans rfl))))) dX2_stepBothWays_80
theorem iX2_step_X2 : ∀ w ∈ wsX20, w ∈ wsX2_step := fun _ h => (List.mem_cons_of_mem _ (List.mem_append_right _ h))
theorem hv_X2_step : yX2_step.cls = RX2 ∧ yX2_step.cls ≠ "java/lang/invoke/MethodHandle" ∧ yX2_step.cls ≠ "java/lang/invoke/VarHandle" ∧ (parseMethodDescriptor yX2_step.desc).map (fun d => d.parameters.length) = some 0 := by decide +kernel
def X2_step_s (f : Nat → Int32) : Nat → Int32 :=
  let t1 := upd f 10 1
  if t1 0 = 0 then
    let t2 := X2_stepUp_s t1
    t2
  else
    if t1 0 = 1 then
      let t3 := X2_stepDown_s t1
      t3
    else
      let t4 := X2_stepBothWays_s t1
      t4
set_option maxHeartbeats 4000000 in
set_option maxRecDepth 100000 in
theorem c_X2_step (l : Launch) (g : ct_G) (t : ct_St) (i : Nat) (hi : shG[i]? = some (.inr (.inr (2, fsX2)))) (f : Nat → Int32) : MV l g shG yX2_step wsX2_step (rmd 2) [.ref (g.2.1 i)] (ur t i f) (ur t i (X2_step_s f)) := by
  refine MV.of (own := RX2) (cc := cX2_step) (maxL := 1) rfl (by decide) rfl (Nat.le_of_ble_eq_true rfl) (fun p e s m args below meth cd A Q C hret ls hl => ?_)
  have hl : lv_has ls 1 [(0, .ref (g.2.1 i))] := hl
  refine v_aload_n C dX2_step_0 rfl (lv_at hl 0 rfl) ?_
  refine v_iconst (v := 1) C dX2_step_1 (by decide) ?_
  refine v_putF C iX2_step_X2 tyX2 tyX2_ok nmX2 hi rfl rfl (j := 10) rfl (by decide) rfl (C.w 1 rfl) rfl rfl rfl dX2_step_2 ?_
  refine v_aload_n C dX2_step_5 rfl (lv_at hl 0 rfl) ?_
  refine v_getF C iX2_step_X2 hi rfl rfl (j := 0) rfl (by decide) rfl (C.w 2 rfl) dX2_step_6 ?_
  refine v_by (v := 0) (fun c_1 => ?_) (fun c_1 => ?_)
  · refine v_look (off := 27) (tgt := 36) C dX2_step_9 (by decide) (by rw [c_1]; decide) (by decide) ?_
    refine v_aload_n C dX2_step_36 rfl (lv_at hl 0 rfl) ?_
    refine v_callv C (c_X2_stepUp l g _ _ hi _) (cwV 0 C.2.2.2.2.1 gX2_step_X2_stepUp rfl rfl rfl hv_X2_stepUp ⟨Nat.le_of_ble_eq_true rfl, Nat.le_of_ble_eq_true rfl⟩) hi rfl rfl rfl rfl hl.1 rfl (Nat.le_of_ble_eq_true rfl) dX2_step_37 ⟨Nat.le_refl _, Nat.le_refl _⟩ ?_
    refine v_goto (tgt := 54) C dX2_step_40 (by decide) ?_
    exact hret _ _ _ (congrArg (ur _ _) (Eq.symm ((if_pos c_1).trans rfl))) dX2_step_54
  · refine v_by (v := 1) (fun c_2 => ?_) (fun c_2 => ?_)
    · refine v_look (off := 34) (tgt := 43) C dX2_step_9 (by decide) (by rw [c_2]; decide) (by decide) ?_
      refine v_aload_n C dX2_step_43 rfl (lv_at hl 0 rfl) ?_
      refine v_callv C (c_X2_stepDown l g _ _ hi _) (cwV 0 C.2.2.2.2.1 gX2_step_X2_stepDown rfl rfl rfl hv_X2_stepDown ⟨Nat.le_of_ble_eq_true rfl, Nat.le_of_ble_eq_true rfl⟩) hi rfl rfl rfl rfl hl.1 rfl (Nat.le_of_ble_eq_true rfl) dX2_step_44 ⟨Nat.le_refl _, Nat.le_refl _⟩ ?_
      refine v_goto (tgt := 54) C dX2_step_47 (by decide) ?_
      exact hret _ _ _ (congrArg (ur _ _) (Eq.symm ((if_neg c_1).trans ((if_pos c_2).trans rfl)))) dX2_step_54
    · refine v_look (off := 41) (tgt := 50) C dX2_step_9 (by decide) ((lv_osw c_1 (by decide)).trans ((lv_osw c_2 (by decide)).trans (rfl))) (by decide) ?_
      refine v_aload_n C dX2_step_50 rfl (lv_at hl 0 rfl) ?_
      refine v_callv C (c_X2_stepBothWays l g _ _ hi _) (cwV 0 C.2.2.2.2.1 gX2_step_X2_stepBothWays rfl rfl rfl hv_X2_stepBothWays ⟨Nat.le_of_ble_eq_true rfl, Nat.le_of_ble_eq_true rfl⟩) hi rfl rfl rfl rfl hl.1 rfl (Nat.le_of_ble_eq_true rfl) dX2_step_51 ⟨Nat.le_refl _, Nat.le_refl _⟩ ?_
      exact hret _ _ _ (congrArg (ur _ _) (Eq.symm ((if_neg c_1).trans ((if_neg c_2).trans rfl)))) dX2_step_54
theorem iX2_pass_X2 : ∀ w ∈ wsX20, w ∈ wsX2_pass := fun _ h => (List.mem_cons_of_mem _ (List.mem_append_right _ h))
theorem hv_X2_pass : yX2_pass.cls = RX2 ∧ yX2_pass.cls ≠ "java/lang/invoke/MethodHandle" ∧ yX2_pass.cls ≠ "java/lang/invoke/VarHandle" ∧ (parseMethodDescriptor yX2_pass.desc).map (fun d => d.parameters.length) = some 1 := by decide +kernel
def X2_pass_s (a1 : Int32) (f : Nat → Int32) : Nat → Int32 :=
  let t1 := upd f 9 0
  let t2 := upd t1 10 0
  if a1 = 0 then
    t2
  else
    let t3 := upd t2 5 ((t2 5) + 1)
    if t3 5 = t3 2 then
      let t4 := upd t3 5 0
      let t5 := X2_step_s t4
      t5
    else
      t3
set_option maxHeartbeats 4000000 in
set_option maxRecDepth 100000 in
theorem c_X2_pass (l : Launch) (g : ct_G) (t : ct_St) (i : Nat) (hi : shG[i]? = some (.inr (.inr (2, fsX2)))) (f : Nat → Int32) (a1 : Int32) : MV l g shG yX2_pass wsX2_pass (rmd 3) [.ref (g.2.1 i), .int a1] (ur t i f) (ur t i (X2_pass_s a1 f)) := by
  refine MV.of (own := RX2) (cc := cX2_pass) (maxL := 2) rfl (by decide) rfl (Nat.le_of_ble_eq_true rfl) (fun p e s m args below meth cd A Q C hret ls hl => ?_)
  have hl : lv_has ls 2 [(0, .ref (g.2.1 i)), (1, .int a1)] := hl
  refine v_aload_n C dX2_pass_0 rfl (lv_at hl 0 rfl) ?_
  refine v_iconst (v := 0) C dX2_pass_1 (by decide) ?_
  refine v_putF C iX2_pass_X2 tyX2 tyX2_ok nmX2 hi rfl rfl (j := 9) rfl (by decide) rfl (C.w 1 rfl) rfl rfl rfl dX2_pass_2 ?_
  refine v_aload_n C dX2_pass_5 rfl (lv_at hl 0 rfl) ?_
  refine v_iconst (v := 0) C dX2_pass_6 (by decide) ?_
  refine v_putF C iX2_pass_X2 tyX2 tyX2_ok nmX2 hi rfl rfl (j := 10) rfl (by decide) rfl (C.w 2 rfl) rfl rfl rfl dX2_pass_7 ?_
  refine v_iload_n C dX2_pass_10 rfl (lv_at hl 1 rfl) ?_
  refine v_if_eq (tgt := 44) C dX2_pass_11 (by decide) (fun c_1 => ?_) (fun c_1 => ?_)
  · exact hret _ _ _ (congrArg (ur _ _) (Eq.symm ((if_pos c_1).trans rfl))) dX2_pass_44
  · refine v_aload_n C dX2_pass_14 rfl (lv_at hl 0 rfl) ?_
    refine v_dup C dX2_pass_15 rfl ?_
    refine v_getF C iX2_pass_X2 hi rfl rfl (j := 5) rfl (by decide) rfl (C.w 3 rfl) dX2_pass_16 ?_
    refine v_iconst (v := 1) C dX2_pass_19 (by decide) ?_
    refine v_iadd C dX2_pass_20 ?_
    refine v_putF C iX2_pass_X2 tyX2 tyX2_ok nmX2 hi rfl rfl (j := 5) rfl (by decide) rfl (C.w 3 rfl) rfl rfl rfl dX2_pass_21 ?_
    refine v_aload_n C dX2_pass_24 rfl (lv_at hl 0 rfl) ?_
    refine v_getF C iX2_pass_X2 hi rfl rfl (j := 5) rfl (by decide) rfl (C.w 3 rfl) dX2_pass_25 ?_
    refine v_aload_n C dX2_pass_28 rfl (lv_at hl 0 rfl) ?_
    refine v_getF C iX2_pass_X2 hi rfl rfl (j := 2) rfl (by decide) rfl (C.w 4 rfl) dX2_pass_29 ?_
    refine v_icmp_ne (tgt := 44) C dX2_pass_32 (by decide) (fun c_2 => ?_) (fun c_2 => ?_)
    · exact hret _ _ _ (congrArg (ur _ _) (Eq.symm ((if_neg c_1).trans ((if_neg c_2).trans rfl)))) dX2_pass_44
    · refine v_aload_n C dX2_pass_35 rfl (lv_at hl 0 rfl) ?_
      refine v_iconst (v := 0) C dX2_pass_36 (by decide) ?_
      refine v_putF C iX2_pass_X2 tyX2 tyX2_ok nmX2 hi rfl rfl (j := 5) rfl (by decide) rfl (C.w 3 rfl) rfl rfl rfl dX2_pass_37 ?_
      refine v_aload_n C dX2_pass_40 rfl (lv_at hl 0 rfl) ?_
      refine v_callv C (c_X2_step l g _ _ hi _) (cwV 0 C.2.2.2.2.1 gX2_pass_X2_step rfl rfl rfl hv_X2_step ⟨Nat.le_of_ble_eq_true rfl, Nat.le_of_ble_eq_true rfl⟩) hi rfl rfl rfl rfl hl.1 rfl (Nat.le_of_ble_eq_true rfl) dX2_pass_41 ⟨Nat.le_refl _, Nat.le_refl _⟩ ?_
      exact hret _ _ _ (congrArg (ur _ _) (Eq.symm ((if_neg c_1).trans ((if_pos c_2).trans rfl)))) dX2_pass_44
theorem iX2_tell_X2 : ∀ w ∈ wsX20, w ∈ wsX2_tell := fun _ h => (List.mem_cons_of_mem _ (List.mem_append_right _ h))
theorem hv_X2_tell : yX2_tell.cls = RX2 ∧ yX2_tell.cls ≠ "java/lang/invoke/MethodHandle" ∧ yX2_tell.cls ≠ "java/lang/invoke/VarHandle" ∧ (parseMethodDescriptor yX2_tell.desc).map (fun d => d.parameters.length) = some 1 := by decide +kernel
def X2_tell_r (a1 : Int32) (f : Nat → Int32) : Int32 :=
  if a1 = 0 then
    f 4
  else
    if a1 = 1 then
      f 1
    else
      if a1 = 2 then
        f 0
      else
        if a1 = 3 then
          f 2
        else
          if a1 = 4 then
            f 3
          else
            if a1 = 5 then
              f 5
            else
              if a1 = 6 then
                f 6
              else
                if a1 = 7 then
                  f 7
                else
                  if a1 = 8 then
                    f 8
                  else
                    (-2)
set_option maxHeartbeats 4000000 in
set_option maxRecDepth 100000 in
theorem c_X2_tell (l : Launch) (g : ct_G) (t : ct_St) (i : Nat) (hi : shG[i]? = some (.inr (.inr (2, fsX2)))) (f : Nat → Int32) (a1 : Int32) : MI l g shG yX2_tell wsX2_tell (rmd 0) [.ref (g.2.1 i), .int a1] (ur t i f) (X2_tell_r a1 f) (ur t i f) := by
  refine MI.of (own := RX2) (cc := cX2_tell) (maxL := 2) rfl (by decide) rfl (Nat.le_of_ble_eq_true rfl) (fun p e s m args below meth cd A Q C hret ls hl => ?_)
  have hl : lv_has ls 2 [(0, .ref (g.2.1 i)), (1, .int a1)] := hl
  refine v_iload_n C dX2_tell_0 rfl (lv_at hl 1 rfl) ?_
  refine v_by (v := 0) (fun c_1 => ?_) (fun c_1 => ?_)
  · refine v_tabIn (off := 51) (tgt := 52) C dX2_tell_1 c_1 (by decide) (by decide) (by decide) (by decide) ?_
    refine v_aload_n C dX2_tell_52 rfl (lv_at hl 0 rfl) ?_
    refine v_getF C iX2_tell_X2 hi rfl rfl (j := 4) rfl (by decide) rfl (C.w 1 rfl) dX2_tell_53 ?_
    exact hret _ _ _ _ (Eq.symm ((if_pos c_1).trans rfl)) rfl dX2_tell_56
  · refine v_by (v := 1) (fun c_2 => ?_) (fun c_2 => ?_)
    · refine v_tabIn (off := 56) (tgt := 57) C dX2_tell_1 c_2 (by decide) (by decide) (by decide) (by decide) ?_
      refine v_aload_n C dX2_tell_57 rfl (lv_at hl 0 rfl) ?_
      refine v_getF C iX2_tell_X2 hi rfl rfl (j := 1) rfl (by decide) rfl (C.w 2 rfl) dX2_tell_58 ?_
      exact hret _ _ _ _ (Eq.symm ((if_neg c_1).trans ((if_pos c_2).trans rfl))) rfl dX2_tell_61
    · refine v_by (v := 2) (fun c_3 => ?_) (fun c_3 => ?_)
      · refine v_tabIn (off := 61) (tgt := 62) C dX2_tell_1 c_3 (by decide) (by decide) (by decide) (by decide) ?_
        refine v_aload_n C dX2_tell_62 rfl (lv_at hl 0 rfl) ?_
        refine v_getF C iX2_tell_X2 hi rfl rfl (j := 0) rfl (by decide) rfl (C.w 3 rfl) dX2_tell_63 ?_
        exact hret _ _ _ _ (Eq.symm ((if_neg c_1).trans ((if_neg c_2).trans ((if_pos c_3).trans rfl)))) rfl dX2_tell_66
      · refine v_by (v := 3) (fun c_4 => ?_) (fun c_4 => ?_)
        · refine v_tabIn (off := 66) (tgt := 67) C dX2_tell_1 c_4 (by decide) (by decide) (by decide) (by decide) ?_
          refine v_aload_n C dX2_tell_67 rfl (lv_at hl 0 rfl) ?_
          refine v_getF C iX2_tell_X2 hi rfl rfl (j := 2) rfl (by decide) rfl (C.w 4 rfl) dX2_tell_68 ?_
          exact hret _ _ _ _ (Eq.symm ((if_neg c_1).trans ((if_neg c_2).trans ((if_neg c_3).trans ((if_pos c_4).trans rfl))))) rfl dX2_tell_71
        · refine v_by (v := 4) (fun c_5 => ?_) (fun c_5 => ?_)
          · refine v_tabIn (off := 71) (tgt := 72) C dX2_tell_1 c_5 (by decide) (by decide) (by decide) (by decide) ?_
            refine v_aload_n C dX2_tell_72 rfl (lv_at hl 0 rfl) ?_
            refine v_getF C iX2_tell_X2 hi rfl rfl (j := 3) rfl (by decide) rfl (C.w 5 rfl) dX2_tell_73 ?_
            exact hret _ _ _ _ (Eq.symm ((if_neg c_1).trans ((if_neg c_2).trans ((if_neg c_3).trans ((if_neg c_4).trans ((if_pos c_5).trans rfl)))))) rfl dX2_tell_76
          · refine v_by (v := 5) (fun c_6 => ?_) (fun c_6 => ?_)
            · refine v_tabIn (off := 76) (tgt := 77) C dX2_tell_1 c_6 (by decide) (by decide) (by decide) (by decide) ?_
              refine v_aload_n C dX2_tell_77 rfl (lv_at hl 0 rfl) ?_
              refine v_getF C iX2_tell_X2 hi rfl rfl (j := 5) rfl (by decide) rfl (C.w 6 rfl) dX2_tell_78 ?_
              exact hret _ _ _ _ (Eq.symm ((if_neg c_1).trans ((if_neg c_2).trans ((if_neg c_3).trans ((if_neg c_4).trans ((if_neg c_5).trans ((if_pos c_6).trans rfl))))))) rfl dX2_tell_81
            · refine v_by (v := 6) (fun c_7 => ?_) (fun c_7 => ?_)
              · refine v_tabIn (off := 81) (tgt := 82) C dX2_tell_1 c_7 (by decide) (by decide) (by decide) (by decide) ?_
                refine v_aload_n C dX2_tell_82 rfl (lv_at hl 0 rfl) ?_
                refine v_getF C iX2_tell_X2 hi rfl rfl (j := 6) rfl (by decide) rfl (C.w 7 rfl) dX2_tell_83 ?_
                exact hret _ _ _ _ (Eq.symm ((if_neg c_1).trans ((if_neg c_2).trans ((if_neg c_3).trans ((if_neg c_4).trans ((if_neg c_5).trans ((if_neg c_6).trans ((if_pos c_7).trans rfl)))))))) rfl dX2_tell_86
              · refine v_by (v := 7) (fun c_8 => ?_) (fun c_8 => ?_)
                · refine v_tabIn (off := 86) (tgt := 87) C dX2_tell_1 c_8 (by decide) (by decide) (by decide) (by decide) ?_
                  refine v_aload_n C dX2_tell_87 rfl (lv_at hl 0 rfl) ?_
                  refine v_getF C iX2_tell_X2 hi rfl rfl (j := 7) rfl (by decide) rfl (C.w 8 rfl) dX2_tell_88 ?_
                  exact hret _ _ _ _ (Eq.symm ((if_neg c_1).trans ((if_neg c_2).trans ((if_neg c_3).trans ((if_neg c_4).trans ((if_neg c_5).trans ((if_neg c_6).trans ((if_neg c_7).trans ((if_pos c_8).trans rfl))))))))) rfl dX2_tell_91
                · refine v_by (v := 8) (fun c_9 => ?_) (fun c_9 => ?_)
                  · refine v_tabIn (off := 91) (tgt := 92) C dX2_tell_1 c_9 (by decide) (by decide) (by decide) (by decide) ?_
                    refine v_aload_n C dX2_tell_92 rfl (lv_at hl 0 rfl) ?_
                    refine v_getF C iX2_tell_X2 hi rfl rfl (j := 8) rfl (by decide) rfl (C.w 9 rfl) dX2_tell_93 ?_
                    exact hret _ _ _ _ (Eq.symm ((if_neg c_1).trans ((if_neg c_2).trans ((if_neg c_3).trans ((if_neg c_4).trans ((if_neg c_5).trans ((if_neg c_6).trans ((if_neg c_7).trans ((if_neg c_8).trans ((if_pos c_9).trans rfl)))))))))) rfl dX2_tell_96
                  · refine v_tabOut (tgt := 97) C dX2_tell_1 (by have h0 := lv_neT (a := 0) c_1 (by decide); have h1 := lv_neT (a := 1) c_2 (by decide); have h2 := lv_neT (a := 2) c_3 (by decide); have h3 := lv_neT (a := 3) c_4 (by decide); have h4 := lv_neT (a := 4) c_5 (by decide); have h5 := lv_neT (a := 5) c_6 (by decide); have h6 := lv_neT (a := 6) c_7 (by decide); have h7 := lv_neT (a := 7) c_8 (by decide); have h8 := lv_neT (a := 8) c_9 (by decide); omega) (by decide) ?_
                    refine v_bipush (v := (-2)) C dX2_tell_97 (by decide) ?_
                    exact hret _ _ _ _ (Eq.symm ((if_neg c_1).trans ((if_neg c_2).trans ((if_neg c_3).trans ((if_neg c_4).trans ((if_neg c_5).trans ((if_neg c_6).trans ((if_neg c_7).trans ((if_neg c_8).trans ((if_neg c_9).trans rfl)))))))))) rfl dX2_tell_99
theorem iX3_look_X3 : ∀ w ∈ wsX30, w ∈ wsX3_look := fun _ h => (List.mem_cons_of_mem _ (List.mem_append_right _ h))
theorem hv_X3_look : yX3_look.cls = RX3 ∧ yX3_look.cls ≠ "java/lang/invoke/MethodHandle" ∧ yX3_look.cls ≠ "java/lang/invoke/VarHandle" ∧ (parseMethodDescriptor yX3_look.desc).map (fun d => d.parameters.length) = some 0 := by decide +kernel
def X3_look_s (f : Nat → Int32) : Nat → Int32 :=
  let t1 := upd f 4 0
  if t1 0 = t1 1 then
    let t7 := upd t1 2 0
    t7
  else
    let t2 := upd t1 2 ((t1 2) + 1)
    if t2 2 < t2 3 then
      t2
    else
      let t3 := upd t2 1 (t2 0)
      let t4 := upd t3 2 0
      if t4 1 = 1 then
        let t6 := upd t4 4 1
        t6
      else
        let t5 := upd t4 4 2
        t5
set_option maxHeartbeats 4000000 in
set_option maxRecDepth 100000 in
theorem c_X3_look (l : Launch) (g : ct_G) (t : ct_St) (i : Nat) (hi : shG[i]? = some (.inr (.inr (3, fsX3)))) (f : Nat → Int32) : MV l g shG yX3_look wsX3_look (rmd 0) [.ref (g.2.1 i)] (ur t i f) (ur t i (X3_look_s f)) := by
  refine MV.of (own := RX3) (cc := cX3_look) (maxL := 1) rfl (by decide) rfl (Nat.le_of_ble_eq_true rfl) (fun p e s m args below meth cd A Q C hret ls hl => ?_)
  have hl : lv_has ls 1 [(0, .ref (g.2.1 i))] := hl
  refine v_aload_n C dX3_look_0 rfl (lv_at hl 0 rfl) ?_
  refine v_iconst (v := 0) C dX3_look_1 (by decide) ?_
  refine v_putF C iX3_look_X3 tyX3 tyX3_ok nmX3 hi rfl rfl (j := 4) rfl (by decide) rfl (C.w 1 rfl) rfl rfl rfl dX3_look_2 ?_
  refine v_aload_n C dX3_look_5 rfl (lv_at hl 0 rfl) ?_
  refine v_getF C iX3_look_X3 hi rfl rfl (j := 0) rfl (by decide) rfl (C.w 2 rfl) dX3_look_6 ?_
  refine v_aload_n C dX3_look_9 rfl (lv_at hl 0 rfl) ?_
  refine v_getF C iX3_look_X3 hi rfl rfl (j := 1) rfl (by decide) rfl (C.w 3 rfl) dX3_look_10 ?_
  refine v_icmp_ne (tgt := 22) C dX3_look_13 (by decide) (fun c_1 => ?_) (fun c_1 => ?_)
  · refine v_aload_n C dX3_look_22 rfl (lv_at hl 0 rfl) ?_
    refine v_dup C dX3_look_23 rfl ?_
    refine v_getF C iX3_look_X3 hi rfl rfl (j := 2) rfl (by decide) rfl (C.w 4 rfl) dX3_look_24 ?_
    refine v_iconst (v := 1) C dX3_look_27 (by decide) ?_
    refine v_iadd C dX3_look_28 ?_
    refine v_putF C iX3_look_X3 tyX3 tyX3_ok nmX3 hi rfl rfl (j := 2) rfl (by decide) rfl (C.w 4 rfl) rfl rfl rfl dX3_look_29 ?_
    refine v_aload_n C dX3_look_32 rfl (lv_at hl 0 rfl) ?_
    refine v_getF C iX3_look_X3 hi rfl rfl (j := 2) rfl (by decide) rfl (C.w 4 rfl) dX3_look_33 ?_
    refine v_aload_n C dX3_look_36 rfl (lv_at hl 0 rfl) ?_
    refine v_getF C iX3_look_X3 hi rfl rfl (j := 3) rfl (by decide) rfl (C.w 5 rfl) dX3_look_37 ?_
    refine v_icmp_lt (tgt := 73) C dX3_look_40 (by decide) (fun c_2 => ?_) (fun c_2 => ?_)
    · exact hret _ _ _ (congrArg (ur _ _) (Eq.symm ((if_neg c_1).trans ((if_pos c_2).trans rfl)))) dX3_look_73
    · refine v_aload_n C dX3_look_43 rfl (lv_at hl 0 rfl) ?_
      refine v_aload_n C dX3_look_44 rfl (lv_at hl 0 rfl) ?_
      refine v_getF C iX3_look_X3 hi rfl rfl (j := 0) rfl (by decide) rfl (C.w 2 rfl) dX3_look_45 ?_
      refine v_putF C iX3_look_X3 tyX3 tyX3_ok nmX3 hi rfl rfl (j := 1) rfl (by decide) rfl (C.w 3 rfl) rfl rfl rfl dX3_look_48 ?_
      refine v_aload_n C dX3_look_51 rfl (lv_at hl 0 rfl) ?_
      refine v_iconst (v := 0) C dX3_look_52 (by decide) ?_
      refine v_putF C iX3_look_X3 tyX3 tyX3_ok nmX3 hi rfl rfl (j := 2) rfl (by decide) rfl (C.w 4 rfl) rfl rfl rfl dX3_look_53 ?_
      refine v_aload_n C dX3_look_56 rfl (lv_at hl 0 rfl) ?_
      refine v_aload_n C dX3_look_57 rfl (lv_at hl 0 rfl) ?_
      refine v_getF C iX3_look_X3 hi rfl rfl (j := 1) rfl (by decide) rfl (C.w 3 rfl) dX3_look_58 ?_
      refine v_iconst (v := 1) C dX3_look_61 (by decide) ?_
      refine v_icmp_ne (tgt := 69) C dX3_look_62 (by decide) (fun c_3 => ?_) (fun c_3 => ?_)
      · refine v_iconst (v := 2) C dX3_look_69 (by decide) ?_
        refine v_putF C iX3_look_X3 tyX3 tyX3_ok nmX3 hi rfl rfl (j := 4) rfl (by decide) rfl (C.w 1 rfl) rfl rfl rfl dX3_look_70 ?_
        exact hret _ _ _ (congrArg (ur _ _) (Eq.symm ((if_neg c_1).trans ((if_neg c_2).trans ((if_neg c_3).trans rfl))))) dX3_look_73
      · refine v_iconst (v := 1) C dX3_look_65 (by decide) ?_
        refine v_goto (tgt := 70) C dX3_look_66 (by decide) ?_
        refine v_putF C iX3_look_X3 tyX3 tyX3_ok nmX3 hi rfl rfl (j := 4) rfl (by decide) rfl (C.w 1 rfl) rfl rfl rfl dX3_look_70 ?_
        exact hret _ _ _ (congrArg (ur _ _) (Eq.symm ((if_neg c_1).trans ((if_neg c_2).trans ((if_pos c_3).trans rfl))))) dX3_look_73
  · refine v_aload_n C dX3_look_16 rfl (lv_at hl 0 rfl) ?_
    refine v_iconst (v := 0) C dX3_look_17 (by decide) ?_
    refine v_putF C iX3_look_X3 tyX3 tyX3_ok nmX3 hi rfl rfl (j := 2) rfl (by decide) rfl (C.w 4 rfl) rfl rfl rfl dX3_look_18 ?_
    exact hret _ _ _ (congrArg (ur _ _) (Eq.symm ((if_pos c_1).trans rfl))) dX3_look_21
theorem iX3_tell_X3 : ∀ w ∈ wsX30, w ∈ wsX3_tell := fun _ h => (List.mem_cons_of_mem _ (List.mem_append_right _ h))
theorem hv_X3_tell : yX3_tell.cls = RX3 ∧ yX3_tell.cls ≠ "java/lang/invoke/MethodHandle" ∧ yX3_tell.cls ≠ "java/lang/invoke/VarHandle" ∧ (parseMethodDescriptor yX3_tell.desc).map (fun d => d.parameters.length) = some 1 := by decide +kernel
def X3_tell_r (a1 : Int32) (f : Nat → Int32) : Int32 :=
  if a1 = 0 then
    f 0
  else
    if a1 = 1 then
      f 1
    else
      if a1 = 2 then
        f 2
      else
        if a1 = 3 then
          f 3
        else
          (-2)
set_option maxHeartbeats 4000000 in
set_option maxRecDepth 100000 in
theorem c_X3_tell (l : Launch) (g : ct_G) (t : ct_St) (i : Nat) (hi : shG[i]? = some (.inr (.inr (3, fsX3)))) (f : Nat → Int32) (a1 : Int32) : MI l g shG yX3_tell wsX3_tell (rmd 0) [.ref (g.2.1 i), .int a1] (ur t i f) (X3_tell_r a1 f) (ur t i f) := by
  refine MI.of (own := RX3) (cc := cX3_tell) (maxL := 2) rfl (by decide) rfl (Nat.le_of_ble_eq_true rfl) (fun p e s m args below meth cd A Q C hret ls hl => ?_)
  have hl : lv_has ls 2 [(0, .ref (g.2.1 i)), (1, .int a1)] := hl
  refine v_iload_n C dX3_tell_0 rfl (lv_at hl 1 rfl) ?_
  refine v_by (v := 0) (fun c_1 => ?_) (fun c_1 => ?_)
  · refine v_tabIn (off := 31) (tgt := 32) C dX3_tell_1 c_1 (by decide) (by decide) (by decide) (by decide) ?_
    refine v_aload_n C dX3_tell_32 rfl (lv_at hl 0 rfl) ?_
    refine v_getF C iX3_tell_X3 hi rfl rfl (j := 0) rfl (by decide) rfl (C.w 1 rfl) dX3_tell_33 ?_
    exact hret _ _ _ _ (Eq.symm ((if_pos c_1).trans rfl)) rfl dX3_tell_36
  · refine v_by (v := 1) (fun c_2 => ?_) (fun c_2 => ?_)
    · refine v_tabIn (off := 36) (tgt := 37) C dX3_tell_1 c_2 (by decide) (by decide) (by decide) (by decide) ?_
      refine v_aload_n C dX3_tell_37 rfl (lv_at hl 0 rfl) ?_
      refine v_getF C iX3_tell_X3 hi rfl rfl (j := 1) rfl (by decide) rfl (C.w 2 rfl) dX3_tell_38 ?_
      exact hret _ _ _ _ (Eq.symm ((if_neg c_1).trans ((if_pos c_2).trans rfl))) rfl dX3_tell_41
    · refine v_by (v := 2) (fun c_3 => ?_) (fun c_3 => ?_)
      · refine v_tabIn (off := 41) (tgt := 42) C dX3_tell_1 c_3 (by decide) (by decide) (by decide) (by decide) ?_
        refine v_aload_n C dX3_tell_42 rfl (lv_at hl 0 rfl) ?_
        refine v_getF C iX3_tell_X3 hi rfl rfl (j := 2) rfl (by decide) rfl (C.w 3 rfl) dX3_tell_43 ?_
        exact hret _ _ _ _ (Eq.symm ((if_neg c_1).trans ((if_neg c_2).trans ((if_pos c_3).trans rfl)))) rfl dX3_tell_46
      · refine v_by (v := 3) (fun c_4 => ?_) (fun c_4 => ?_)
        · refine v_tabIn (off := 46) (tgt := 47) C dX3_tell_1 c_4 (by decide) (by decide) (by decide) (by decide) ?_
          refine v_aload_n C dX3_tell_47 rfl (lv_at hl 0 rfl) ?_
          refine v_getF C iX3_tell_X3 hi rfl rfl (j := 3) rfl (by decide) rfl (C.w 4 rfl) dX3_tell_48 ?_
          exact hret _ _ _ _ (Eq.symm ((if_neg c_1).trans ((if_neg c_2).trans ((if_neg c_3).trans ((if_pos c_4).trans rfl))))) rfl dX3_tell_51
        · refine v_tabOut (tgt := 52) C dX3_tell_1 (by have h0 := lv_neT (a := 0) c_1 (by decide); have h1 := lv_neT (a := 1) c_2 (by decide); have h2 := lv_neT (a := 2) c_3 (by decide); have h3 := lv_neT (a := 3) c_4 (by decide); omega) (by decide) ?_
          refine v_bipush (v := (-2)) C dX3_tell_52 (by decide) ?_
          exact hret _ _ _ _ (Eq.symm ((if_neg c_1).trans ((if_neg c_2).trans ((if_neg c_3).trans ((if_neg c_4).trans rfl))))) rfl dX3_tell_54
theorem iX4_takeHigh_X4 : ∀ w ∈ wsX40, w ∈ wsX4_takeHigh := fun _ h => (List.mem_cons_of_mem _ (List.mem_append_right _ h))
theorem hv_X4_takeHigh : yX4_takeHigh.cls = RX4 ∧ yX4_takeHigh.cls ≠ "java/lang/invoke/MethodHandle" ∧ yX4_takeHigh.cls ≠ "java/lang/invoke/VarHandle" ∧ (parseMethodDescriptor yX4_takeHigh.desc).map (fun d => d.parameters.length) = some 1 := by decide +kernel
def X4_takeHigh_r (a1 : Int32) (f : Nat → Int32) : Int32 :=
  if f 0 = 0 then
    a1
  else
    if f 1 = (-9) then
      a1
    else
      let x1 := f 1
      x1
def X4_takeHigh_s (a1 : Int32) (f : Nat → Int32) : Nat → Int32 :=
  if f 0 = 0 then
    f
  else
    if f 1 = (-9) then
      f
    else
      let t2 := upd f 1 (-9)
      t2
set_option maxHeartbeats 4000000 in
set_option maxRecDepth 100000 in
theorem c_X4_takeHigh (l : Launch) (g : ct_G) (t : ct_St) (i : Nat) (hi : shG[i]? = some (.inr (.inr (4, fsX4)))) (f : Nat → Int32) (a1 : Int32) : MI l g shG yX4_takeHigh wsX4_takeHigh (rmd 0) [.ref (g.2.1 i), .int a1] (ur t i f) (X4_takeHigh_r a1 f) (ur t i (X4_takeHigh_s a1 f)) := by
  refine MI.of (own := RX4) (cc := cX4_takeHigh) (maxL := 3) rfl (by decide) rfl (Nat.le_of_ble_eq_true rfl) (fun p e s m args below meth cd A Q C hret ls hl => ?_)
  have hl : lv_has ls 3 [(0, .ref (g.2.1 i)), (1, .int a1)] := hl
  refine v_aload_n C dX4_takeHigh_0 rfl (lv_at hl 0 rfl) ?_
  refine v_getF C iX4_takeHigh_X4 hi rfl rfl (j := 0) rfl (by decide) rfl (C.w 1 rfl) dX4_takeHigh_1 ?_
  refine v_if_eq (tgt := 16) C dX4_takeHigh_4 (by decide) (fun c_1 => ?_) (fun c_1 => ?_)
  · refine v_iload_n C dX4_takeHigh_16 rfl (lv_at hl 1 rfl) ?_
    exact hret _ _ _ _ (Eq.symm ((if_pos c_1).trans rfl)) (congrArg (ur _ _) (Eq.symm ((if_pos c_1).trans rfl))) dX4_takeHigh_17
  · refine v_aload_n C dX4_takeHigh_7 rfl (lv_at hl 0 rfl) ?_
    refine v_getF C iX4_takeHigh_X4 hi rfl rfl (j := 1) rfl (by decide) rfl (C.w 2 rfl) dX4_takeHigh_8 ?_
    refine v_bipush (v := (-9)) C dX4_takeHigh_11 (by decide) ?_
    refine v_icmp_ne (tgt := 18) C dX4_takeHigh_13 (by decide) (fun c_2 => ?_) (fun c_2 => ?_)
    · refine v_aload_n C dX4_takeHigh_18 rfl (lv_at hl 0 rfl) ?_
      refine v_getF C iX4_takeHigh_X4 hi rfl rfl (j := 1) rfl (by decide) rfl (C.w 2 rfl) dX4_takeHigh_19 ?_
      refine v_istore_n (lv' := [(2, _), (0, _), (1, _)]) C dX4_takeHigh_22 rfl hl (by decide) rfl (fun ls hl => ?_)
      refine v_aload_n C dX4_takeHigh_23 rfl (lv_at hl 1 rfl) ?_
      refine v_bipush (v := (-9)) C dX4_takeHigh_24 (by decide) ?_
      refine v_putF C iX4_takeHigh_X4 tyX4 tyX4_ok nmX4 hi rfl rfl (j := 1) rfl (by decide) rfl (C.w 2 rfl) rfl rfl rfl dX4_takeHigh_26 ?_
      refine v_iload_n C dX4_takeHigh_29 rfl (lv_at hl 0 rfl) ?_
      exact hret _ _ _ _ (Eq.symm ((if_neg c_1).trans ((if_neg c_2).trans rfl))) (congrArg (ur _ _) (Eq.symm ((if_neg c_1).trans ((if_neg c_2).trans rfl)))) dX4_takeHigh_30
    · refine v_iload_n C dX4_takeHigh_16 rfl (lv_at hl 1 rfl) ?_
      exact hret _ _ _ _ (Eq.symm ((if_neg c_1).trans ((if_pos c_2).trans rfl))) (congrArg (ur _ _) (Eq.symm ((if_neg c_1).trans ((if_pos c_2).trans rfl)))) dX4_takeHigh_17
theorem iX6_setUp_X6 : ∀ w ∈ wsX60, w ∈ wsX6_setUp := fun _ h => (List.mem_cons_of_mem _ (List.mem_append_right _ h))
theorem hv_X6_setUp : yX6_setUp.cls = RX6 ∧ yX6_setUp.cls ≠ "java/lang/invoke/MethodHandle" ∧ yX6_setUp.cls ≠ "java/lang/invoke/VarHandle" ∧ (parseMethodDescriptor yX6_setUp.desc).map (fun d => d.parameters.length) = some 3 := by decide +kernel
def X6_setUp_s (a1 : Int32) (a2 : Int32) (a3 : Int32) (f : Nat → Int32) : Nat → Int32 :=
  let t1 := upd f 0 a1
  let t2 := upd t1 1 a2
  let t3 := upd t2 2 a3
  let t4 := upd t3 3 0
  let t5 := upd t4 4 0
  t5
set_option maxHeartbeats 4000000 in
set_option maxRecDepth 100000 in
theorem c_X6_setUp (l : Launch) (g : ct_G) (t : ct_St) (i : Nat) (hi : shG[i]? = some (.inr (.inr (6, fsX6)))) (f : Nat → Int32) (a1 : Int32) (a2 : Int32) (a3 : Int32) : MV l g shG yX6_setUp wsX6_setUp (rmd 0) [.ref (g.2.1 i), .int a1, .int a2, .int a3] (ur t i f) (ur t i (X6_setUp_s a1 a2 a3 f)) := by
  refine MV.of (own := RX6) (cc := cX6_setUp) (maxL := 4) rfl (by decide) rfl (Nat.le_of_ble_eq_true rfl) (fun p e s m args below meth cd A Q C hret ls hl => ?_)
  have hl : lv_has ls 4 [(0, .ref (g.2.1 i)), (1, .int a1), (2, .int a2), (3, .int a3)] := hl
  refine v_aload_n C dX6_setUp_0 rfl (lv_at hl 0 rfl) ?_
  refine v_iload_n C dX6_setUp_1 rfl (lv_at hl 1 rfl) ?_
  refine v_putF C iX6_setUp_X6 tyX6 tyX6_ok nmX6 hi rfl rfl (j := 0) rfl (by decide) rfl (C.w 1 rfl) rfl rfl rfl dX6_setUp_2 ?_
  refine v_aload_n C dX6_setUp_5 rfl (lv_at hl 0 rfl) ?_
  refine v_iload_n C dX6_setUp_6 rfl (lv_at hl 2 rfl) ?_
  refine v_putF C iX6_setUp_X6 tyX6 tyX6_ok nmX6 hi rfl rfl (j := 1) rfl (by decide) rfl (C.w 2 rfl) rfl rfl rfl dX6_setUp_7 ?_
  refine v_aload_n C dX6_setUp_10 rfl (lv_at hl 0 rfl) ?_
  refine v_iload_n C dX6_setUp_11 rfl (lv_at hl 3 rfl) ?_
  refine v_putF C iX6_setUp_X6 tyX6 tyX6_ok nmX6 hi rfl rfl (j := 2) rfl (by decide) rfl (C.w 3 rfl) rfl rfl rfl dX6_setUp_12 ?_
  refine v_aload_n C dX6_setUp_15 rfl (lv_at hl 0 rfl) ?_
  refine v_iconst (v := 0) C dX6_setUp_16 (by decide) ?_
  refine v_putF C iX6_setUp_X6 tyX6 tyX6_ok nmX6 hi rfl rfl (j := 3) rfl (by decide) rfl (C.w 4 rfl) rfl rfl rfl dX6_setUp_17 ?_
  refine v_aload_n C dX6_setUp_20 rfl (lv_at hl 0 rfl) ?_
  refine v_iconst (v := 0) C dX6_setUp_21 (by decide) ?_
  refine v_putF C iX6_setUp_X6 tyX6 tyX6_ok nmX6 hi rfl rfl (j := 4) rfl (by decide) rfl (C.w 5 rfl) rfl rfl rfl dX6_setUp_22 ?_
  exact hret _ _ _ rfl dX6_setUp_25
theorem hs_X6_twist : yX6_twist.cls ≠ "java/lang/invoke/MethodHandle" ∧ yX6_twist.cls ≠ "java/lang/invoke/VarHandle" ∧ (parseMethodDescriptor yX6_twist.desc).map (fun d => d.parameters.length) = some 1 := by decide +kernel
def X6_twist_r (a1 : Int32) : Int32 :=
  a1 ^^^ (a1 >>> (1 &&& 31))
set_option maxHeartbeats 4000000 in
set_option maxRecDepth 100000 in
theorem c_X6_twist (l : Launch) (g : ct_G) (t : ct_St) (a1 : Int32) : MI l g shG yX6_twist wsX6_twist (rmd 0) [.int a1] t (X6_twist_r a1) t := by
  refine MI.of (own := RX6) (cc := cX6_twist) (maxL := 1) rfl (by decide) rfl (Nat.le_of_ble_eq_true rfl) (fun p e s m args below meth cd A Q C hret ls hl => ?_)
  have hl : lv_has ls 1 [(0, .int a1)] := hl
  refine v_iload_n C dX6_twist_0 rfl (lv_at hl 0 rfl) ?_
  refine v_iload_n C dX6_twist_1 rfl (lv_at hl 0 rfl) ?_
  refine v_iconst (v := 1) C dX6_twist_2 (by decide) ?_
  refine v_ishr C dX6_twist_3 ?_
  refine v_ixor C dX6_twist_4 ?_
  exact hret _ _ _ _ rfl rfl dX6_twist_5
theorem hs_X6_untwist : yX6_untwist.cls ≠ "java/lang/invoke/MethodHandle" ∧ yX6_untwist.cls ≠ "java/lang/invoke/VarHandle" ∧ (parseMethodDescriptor yX6_untwist.desc).map (fun d => d.parameters.length) = some 1 := by decide +kernel
def X6_untwist_r (a1 : Int32) : Int32 :=
  let x1 := a1 ^^^ (a1 >>> (1 &&& 31))
  let x2 := x1 ^^^ (x1 >>> (2 &&& 31))
  let x3 := x2 ^^^ (x2 >>> (4 &&& 31))
  let x4 := x3 ^^^ (x3 >>> (8 &&& 31))
  x4
set_option maxHeartbeats 4000000 in
set_option maxRecDepth 100000 in
theorem c_X6_untwist (l : Launch) (g : ct_G) (t : ct_St) (a1 : Int32) : MI l g shG yX6_untwist wsX6_untwist (rmd 0) [.int a1] t (X6_untwist_r a1) t := by
  refine MI.of (own := RX6) (cc := cX6_untwist) (maxL := 2) rfl (by decide) rfl (Nat.le_of_ble_eq_true rfl) (fun p e s m args below meth cd A Q C hret ls hl => ?_)
  have hl : lv_has ls 2 [(0, .int a1)] := hl
  refine v_iload_n C dX6_untwist_0 rfl (lv_at hl 0 rfl) ?_
  refine v_iload_n C dX6_untwist_1 rfl (lv_at hl 0 rfl) ?_
  refine v_iconst (v := 1) C dX6_untwist_2 (by decide) ?_
  refine v_ishr C dX6_untwist_3 ?_
  refine v_ixor C dX6_untwist_4 ?_
  refine v_istore_n (lv' := [(1, _), (0, _)]) C dX6_untwist_5 rfl hl (by decide) rfl (fun ls hl => ?_)
  refine v_iload_n C dX6_untwist_6 rfl (lv_at hl 0 rfl) ?_
  refine v_iload_n C dX6_untwist_7 rfl (lv_at hl 0 rfl) ?_
  refine v_iconst (v := 2) C dX6_untwist_8 (by decide) ?_
  refine v_ishr C dX6_untwist_9 ?_
  refine v_ixor C dX6_untwist_10 ?_
  refine v_istore_n (lv' := [(1, _), (0, _)]) C dX6_untwist_11 rfl hl (by decide) rfl (fun ls hl => ?_)
  refine v_iload_n C dX6_untwist_12 rfl (lv_at hl 0 rfl) ?_
  refine v_iload_n C dX6_untwist_13 rfl (lv_at hl 0 rfl) ?_
  refine v_iconst (v := 4) C dX6_untwist_14 (by decide) ?_
  refine v_ishr C dX6_untwist_15 ?_
  refine v_ixor C dX6_untwist_16 ?_
  refine v_istore_n (lv' := [(1, _), (0, _)]) C dX6_untwist_17 rfl hl (by decide) rfl (fun ls hl => ?_)
  refine v_iload_n C dX6_untwist_18 rfl (lv_at hl 0 rfl) ?_
  refine v_iload_n C dX6_untwist_19 rfl (lv_at hl 0 rfl) ?_
  refine v_bipush (v := 8) C dX6_untwist_20 (by decide) ?_
  refine v_ishr C dX6_untwist_22 ?_
  refine v_ixor C dX6_untwist_23 ?_
  refine v_istore_n (lv' := [(1, _), (0, _)]) C dX6_untwist_24 rfl hl (by decide) rfl (fun ls hl => ?_)
  refine v_iload_n C dX6_untwist_25 rfl (lv_at hl 0 rfl) ?_
  exact hret _ _ _ _ rfl rfl dX6_untwist_26
theorem iX6_sample_X6 : ∀ w ∈ wsX60, w ∈ wsX6_sample := fun _ h => (List.mem_cons_of_mem _ (List.mem_append_right _ h))
theorem hv_X6_sample : yX6_sample.cls = RX6 ∧ yX6_sample.cls ≠ "java/lang/invoke/MethodHandle" ∧ yX6_sample.cls ≠ "java/lang/invoke/VarHandle" ∧ (parseMethodDescriptor yX6_sample.desc).map (fun d => d.parameters.length) = some 2 := by decide +kernel
def X6_sample_s (a1 : Int32) (a2 : Int32) (f : Nat → Int32) : Nat → Int32 :=
  let t1 := upd f 4 (f 3)
  if t1 2 = 1 then
    let t3 := upd t1 3 (X6_untwist_r ((X6_twist_r a1) &&& (X6_twist_r a2)))
    t3
  else
    let t2 := upd t1 3 (a1 &&& a2)
    t2
set_option maxHeartbeats 4000000 in
set_option maxRecDepth 100000 in
theorem c_X6_sample (l : Launch) (g : ct_G) (t : ct_St) (i : Nat) (hi : shG[i]? = some (.inr (.inr (6, fsX6)))) (f : Nat → Int32) (a1 : Int32) (a2 : Int32) : MV l g shG yX6_sample wsX6_sample (rmd 1) [.ref (g.2.1 i), .int a1, .int a2] (ur t i f) (ur t i (X6_sample_s a1 a2 f)) := by
  refine MV.of (own := RX6) (cc := cX6_sample) (maxL := 3) rfl (by decide) rfl (Nat.le_of_ble_eq_true rfl) (fun p e s m args below meth cd A Q C hret ls hl => ?_)
  have hl : lv_has ls 3 [(0, .ref (g.2.1 i)), (1, .int a1), (2, .int a2)] := hl
  refine v_aload_n C dX6_sample_0 rfl (lv_at hl 0 rfl) ?_
  refine v_aload_n C dX6_sample_1 rfl (lv_at hl 0 rfl) ?_
  refine v_getF C iX6_sample_X6 hi rfl rfl (j := 3) rfl (by decide) rfl (C.w 1 rfl) dX6_sample_2 ?_
  refine v_putF C iX6_sample_X6 tyX6 tyX6_ok nmX6 hi rfl rfl (j := 4) rfl (by decide) rfl (C.w 2 rfl) rfl rfl rfl dX6_sample_5 ?_
  refine v_aload_n C dX6_sample_8 rfl (lv_at hl 0 rfl) ?_
  refine v_aload_n C dX6_sample_9 rfl (lv_at hl 0 rfl) ?_
  refine v_getF C iX6_sample_X6 hi rfl rfl (j := 2) rfl (by decide) rfl (C.w 3 rfl) dX6_sample_10 ?_
  refine v_iconst (v := 1) C dX6_sample_13 (by decide) ?_
  refine v_icmp_ne (tgt := 32) C dX6_sample_14 (by decide) (fun c_1 => ?_) (fun c_1 => ?_)
  · refine v_iload_n C dX6_sample_32 rfl (lv_at hl 1 rfl) ?_
    refine v_iload_n C dX6_sample_33 rfl (lv_at hl 2 rfl) ?_
    refine v_iand C dX6_sample_34 ?_
    refine v_putF C iX6_sample_X6 tyX6 tyX6_ok nmX6 hi rfl rfl (j := 3) rfl (by decide) rfl (C.w 1 rfl) rfl rfl rfl dX6_sample_35 ?_
    exact hret _ _ _ (congrArg (ur _ _) (Eq.symm ((if_neg c_1).trans rfl))) dX6_sample_38
  · refine v_iload_n C dX6_sample_17 rfl (lv_at hl 1 rfl) ?_
    refine v_scalli C (c_X6_twist l g _ _) (va_cwS 1 C.2.2.2.2.1 gX6_sample_X6_twist rfl rfl rfl hs_X6_twist ⟨Nat.le_of_ble_eq_true rfl, Nat.le_of_ble_eq_true rfl⟩) rfl hl.1 rfl (Nat.le_of_ble_eq_true rfl) dX6_sample_18 ⟨Nat.le_refl _, Nat.le_refl _⟩ ?_
    refine v_iload_n C dX6_sample_21 rfl (lv_at hl 2 rfl) ?_
    refine v_scalli C (c_X6_twist l g _ _) (va_cwS 1 C.2.2.2.2.1 gX6_sample_X6_twist rfl rfl rfl hs_X6_twist ⟨Nat.le_of_ble_eq_true rfl, Nat.le_of_ble_eq_true rfl⟩) rfl hl.1 rfl (Nat.le_of_ble_eq_true rfl) dX6_sample_22 ⟨Nat.le_refl _, Nat.le_refl _⟩ ?_
    refine v_iand C dX6_sample_25 ?_
    refine v_scalli C (c_X6_untwist l g _ _) (va_cwS 1 C.2.2.2.2.1 gX6_sample_X6_untwist rfl rfl rfl hs_X6_untwist ⟨Nat.le_of_ble_eq_true rfl, Nat.le_of_ble_eq_true rfl⟩) rfl hl.1 rfl (Nat.le_of_ble_eq_true rfl) dX6_sample_26 ⟨Nat.le_refl _, Nat.le_refl _⟩ ?_
    refine v_goto (tgt := 35) C dX6_sample_29 (by decide) ?_
    refine v_putF C iX6_sample_X6 tyX6 tyX6_ok nmX6 hi rfl rfl (j := 3) rfl (by decide) rfl (C.w 1 rfl) rfl rfl rfl dX6_sample_35 ?_
    exact hret _ _ _ (congrArg (ur _ _) (Eq.symm ((if_pos c_1).trans rfl))) dX6_sample_38
theorem iX6_tell_X6 : ∀ w ∈ wsX60, w ∈ wsX6_tell := fun _ h => (List.mem_cons_of_mem _ (List.mem_append_right _ h))
theorem hv_X6_tell : yX6_tell.cls = RX6 ∧ yX6_tell.cls ≠ "java/lang/invoke/MethodHandle" ∧ yX6_tell.cls ≠ "java/lang/invoke/VarHandle" ∧ (parseMethodDescriptor yX6_tell.desc).map (fun d => d.parameters.length) = some 1 := by decide +kernel
def X6_tell_r (a1 : Int32) (f : Nat → Int32) : Int32 :=
  if a1 = 0 then
    f 3
  else
    if a1 = 1 then
      f 4
    else
      if a1 = 2 then
        f 0
      else
        if a1 = 3 then
          f 1
        else
          if a1 = 4 then
            f 2
          else
            (-2)
set_option maxHeartbeats 4000000 in
set_option maxRecDepth 100000 in
theorem c_X6_tell (l : Launch) (g : ct_G) (t : ct_St) (i : Nat) (hi : shG[i]? = some (.inr (.inr (6, fsX6)))) (f : Nat → Int32) (a1 : Int32) : MI l g shG yX6_tell wsX6_tell (rmd 0) [.ref (g.2.1 i), .int a1] (ur t i f) (X6_tell_r a1 f) (ur t i f) := by
  refine MI.of (own := RX6) (cc := cX6_tell) (maxL := 2) rfl (by decide) rfl (Nat.le_of_ble_eq_true rfl) (fun p e s m args below meth cd A Q C hret ls hl => ?_)
  have hl : lv_has ls 2 [(0, .ref (g.2.1 i)), (1, .int a1)] := hl
  refine v_iload_n C dX6_tell_0 rfl (lv_at hl 1 rfl) ?_
  refine v_by (v := 0) (fun c_1 => ?_) (fun c_1 => ?_)
  · refine v_tabIn (off := 35) (tgt := 36) C dX6_tell_1 c_1 (by decide) (by decide) (by decide) (by decide) ?_
    refine v_aload_n C dX6_tell_36 rfl (lv_at hl 0 rfl) ?_
    refine v_getF C iX6_tell_X6 hi rfl rfl (j := 3) rfl (by decide) rfl (C.w 1 rfl) dX6_tell_37 ?_
    exact hret _ _ _ _ (Eq.symm ((if_pos c_1).trans rfl)) rfl dX6_tell_40
  · refine v_by (v := 1) (fun c_2 => ?_) (fun c_2 => ?_)
    · refine v_tabIn (off := 40) (tgt := 41) C dX6_tell_1 c_2 (by decide) (by decide) (by decide) (by decide) ?_
      refine v_aload_n C dX6_tell_41 rfl (lv_at hl 0 rfl) ?_
      refine v_getF C iX6_tell_X6 hi rfl rfl (j := 4) rfl (by decide) rfl (C.w 2 rfl) dX6_tell_42 ?_
      exact hret _ _ _ _ (Eq.symm ((if_neg c_1).trans ((if_pos c_2).trans rfl))) rfl dX6_tell_45
    · refine v_by (v := 2) (fun c_3 => ?_) (fun c_3 => ?_)
      · refine v_tabIn (off := 45) (tgt := 46) C dX6_tell_1 c_3 (by decide) (by decide) (by decide) (by decide) ?_
        refine v_aload_n C dX6_tell_46 rfl (lv_at hl 0 rfl) ?_
        refine v_getF C iX6_tell_X6 hi rfl rfl (j := 0) rfl (by decide) rfl (C.w 3 rfl) dX6_tell_47 ?_
        exact hret _ _ _ _ (Eq.symm ((if_neg c_1).trans ((if_neg c_2).trans ((if_pos c_3).trans rfl)))) rfl dX6_tell_50
      · refine v_by (v := 3) (fun c_4 => ?_) (fun c_4 => ?_)
        · refine v_tabIn (off := 50) (tgt := 51) C dX6_tell_1 c_4 (by decide) (by decide) (by decide) (by decide) ?_
          refine v_aload_n C dX6_tell_51 rfl (lv_at hl 0 rfl) ?_
          refine v_getF C iX6_tell_X6 hi rfl rfl (j := 1) rfl (by decide) rfl (C.w 4 rfl) dX6_tell_52 ?_
          exact hret _ _ _ _ (Eq.symm ((if_neg c_1).trans ((if_neg c_2).trans ((if_neg c_3).trans ((if_pos c_4).trans rfl))))) rfl dX6_tell_55
        · refine v_by (v := 4) (fun c_5 => ?_) (fun c_5 => ?_)
          · refine v_tabIn (off := 55) (tgt := 56) C dX6_tell_1 c_5 (by decide) (by decide) (by decide) (by decide) ?_
            refine v_aload_n C dX6_tell_56 rfl (lv_at hl 0 rfl) ?_
            refine v_getF C iX6_tell_X6 hi rfl rfl (j := 2) rfl (by decide) rfl (C.w 5 rfl) dX6_tell_57 ?_
            exact hret _ _ _ _ (Eq.symm ((if_neg c_1).trans ((if_neg c_2).trans ((if_neg c_3).trans ((if_neg c_4).trans ((if_pos c_5).trans rfl)))))) rfl dX6_tell_60
          · refine v_tabOut (tgt := 61) C dX6_tell_1 (by have h0 := lv_neT (a := 0) c_1 (by decide); have h1 := lv_neT (a := 1) c_2 (by decide); have h2 := lv_neT (a := 2) c_3 (by decide); have h3 := lv_neT (a := 3) c_4 (by decide); have h4 := lv_neT (a := 4) c_5 (by decide); omega) (by decide) ?_
            refine v_bipush (v := (-2)) C dX6_tell_61 (by decide) ?_
            exact hret _ _ _ _ (Eq.symm ((if_neg c_1).trans ((if_neg c_2).trans ((if_neg c_3).trans ((if_neg c_4).trans ((if_neg c_5).trans rfl)))))) rfl dX6_tell_63
