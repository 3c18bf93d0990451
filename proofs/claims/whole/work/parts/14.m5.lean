theorem iX8_sampleOf_X8 : ∀ w ∈ wsX80, w ∈ wsX8_sampleOf := fun _ h => (List.mem_cons_of_mem _ (List.mem_append_right _ h))
theorem hv_X8_sampleOf : yX8_sampleOf.cls = RX8 ∧ yX8_sampleOf.cls ≠ "java/lang/invoke/MethodHandle" ∧ yX8_sampleOf.cls ≠ "java/lang/invoke/VarHandle" ∧ (parseMethodDescriptor yX8_sampleOf.desc).map (fun d => d.parameters.length) = some 2 := by decide +kernel
def X8_sampleOf_r (a1 : Int32) (a2 : Int32) (t : ct_St) : Int32 :=
  if t 30 42 = 0 then
    a1 &&& a2
  else
    X8_untwisted_r ((X8_twisted_r a1) &&& (X8_twisted_r a2))
set_option maxHeartbeats 4000000 in
set_option maxRecDepth 100000 in
theorem c_X8_sampleOf (l : Launch) (g : ct_G) (t : ct_St) (a1 : Int32) (a2 : Int32) : MI l g shG yX8_sampleOf wsX8_sampleOf (rmd 1) [.ref (g.2.1 30), .int a1, .int a2] t (X8_sampleOf_r a1 a2 t) t := by
  refine MI.of (own := RX8) (cc := cX8_sampleOf) (maxL := 3) rfl (by decide) rfl (Nat.le_of_ble_eq_true rfl) (fun p e s m args below meth cd A Q C hret ls hl => ?_)
  have hl : lv_has ls 3 [(0, .ref (g.2.1 30)), (1, .int a1), (2, .int a2)] := hl
  refine v_aload_n C dX8_sampleOf_0 rfl (lv_at hl 0 rfl) ?_
  refine v_getI C iX8_sampleOf_X8 k_30 rfl rfl (j := 42) rfl (by decide) rfl (C.w 1 rfl) dX8_sampleOf_1 ?_
  refine v_if_ne (tgt := 13) C dX8_sampleOf_4 (by decide) (fun c_1 => ?_) (fun c_1 => ?_)
  · refine v_iload_n C dX8_sampleOf_13 rfl (lv_at hl 1 rfl) ?_
    refine v_scalli C (c_X8_twisted l g _ _) (va_cwS 1 C.2.2.2.2.1 gX8_sampleOf_X8_twisted rfl rfl rfl hs_X8_twisted ⟨Nat.le_of_ble_eq_true rfl, Nat.le_of_ble_eq_true rfl⟩) rfl hl.1 rfl (Nat.le_of_ble_eq_true rfl) dX8_sampleOf_14 ⟨Nat.le_refl _, Nat.le_refl _⟩ ?_
    refine v_iload_n C dX8_sampleOf_17 rfl (lv_at hl 2 rfl) ?_
    refine v_scalli C (c_X8_twisted l g _ _) (va_cwS 1 C.2.2.2.2.1 gX8_sampleOf_X8_twisted rfl rfl rfl hs_X8_twisted ⟨Nat.le_of_ble_eq_true rfl, Nat.le_of_ble_eq_true rfl⟩) rfl hl.1 rfl (Nat.le_of_ble_eq_true rfl) dX8_sampleOf_18 ⟨Nat.le_refl _, Nat.le_refl _⟩ ?_
    refine v_iand C dX8_sampleOf_21 ?_
    refine v_scalli C (c_X8_untwisted l g _ _) (va_cwS 1 C.2.2.2.2.1 gX8_sampleOf_X8_untwisted rfl rfl rfl hs_X8_untwisted ⟨Nat.le_of_ble_eq_true rfl, Nat.le_of_ble_eq_true rfl⟩) rfl hl.1 rfl (Nat.le_of_ble_eq_true rfl) dX8_sampleOf_22 ⟨Nat.le_refl _, Nat.le_refl _⟩ ?_
    exact hret _ _ _ _ (Eq.symm ((if_neg c_1).trans rfl)) rfl dX8_sampleOf_25
  · refine v_iload_n C dX8_sampleOf_7 rfl (lv_at hl 1 rfl) ?_
    refine v_iload_n C dX8_sampleOf_8 rfl (lv_at hl 2 rfl) ?_
    refine v_iand C dX8_sampleOf_9 ?_
    refine v_goto (tgt := 25) C dX8_sampleOf_10 (by decide) ?_
    exact hret _ _ _ _ (Eq.symm ((if_pos c_1).trans rfl)) rfl dX8_sampleOf_25
theorem iX8_oneTick_X8 : ∀ w ∈ wsX80, w ∈ wsX8_oneTick := fun _ h => (List.mem_cons_of_mem _ (List.mem_append_right _ h))
theorem hv_X8_oneTick : yX8_oneTick.cls = RX8 ∧ yX8_oneTick.cls ≠ "java/lang/invoke/MethodHandle" ∧ yX8_oneTick.cls ≠ "java/lang/invoke/VarHandle" ∧ (parseMethodDescriptor yX8_oneTick.desc).map (fun d => d.parameters.length) = some 0 := by decide +kernel
def X8_oneTick_s (t : ct_St) : ct_St :=
  let x1 := t 35 (ix (t 30 41))
  let t2 := us t 30 0 ((t 30 0) + 1)
  let t3 := X8_inputs_s t2
  let t4 := X8_counters_s t3
  let t5 := X8_catchers_s t4
  let t6 := X8_channels_s t5
  if (t6 30 0) - (t6 30 0) / (t6 30 40) * (t6 30 40) = 0 then
    let t8 := us t6 30 44 (t6 30 43)
    let t9 := us t8 30 43 (X8_sampleOf_r x1 (t8 35 (ix (t8 30 41))) t8)
    let t10 := X8_pins_s t9
    t10
  else
    let t7 := X8_pins_s t6
    t7
set_option maxHeartbeats 4000000 in
set_option maxRecDepth 100000 in
theorem c_X8_oneTick (l : Launch) (g : ct_G) (t : ct_St) (hc : okM t) : MV l g shG yX8_oneTick wsX8_oneTick (rmd 4) [.ref (g.2.1 30)] t (X8_oneTick_s t) := by
  refine MV.of (own := RX8) (cc := cX8_oneTick) (maxL := 2) rfl (by decide) rfl (Nat.le_of_ble_eq_true rfl) (fun p e s m args below meth cd A Q C hret ls hl => ?_)
  have hl : lv_has ls 2 [(0, .ref (g.2.1 30))] := hl
  refine v_aload_n C dX8_oneTick_0 rfl (lv_at hl 0 rfl) ?_
  refine v_getR C iX8_oneTick_X8 k_30 rfl rfl (j := 5) rfl (by decide) rfl (C.w 1 rfl) dX8_oneTick_1 ?_
  refine v_aload_n C dX8_oneTick_4 rfl (lv_at hl 0 rfl) ?_
  refine v_getI C iX8_oneTick_X8 k_30 rfl rfl (j := 41) rfl (by decide) rfl (C.w 2 rfl) dX8_oneTick_5 ?_
  refine v_iald C k_35 rfl hc.2.2.2.2.2.1 dX8_oneTick_8 ?_
  refine v_istore_n (lv' := [(1, _), (0, _)]) C dX8_oneTick_9 rfl hl (by decide) rfl (fun ls hl => ?_)
  refine v_aload_n C dX8_oneTick_10 rfl (lv_at hl 1 rfl) ?_
  refine v_dup C dX8_oneTick_11 rfl ?_
  refine v_getI C iX8_oneTick_X8 k_30 rfl rfl (j := 0) rfl (by decide) rfl (C.w 3 rfl) dX8_oneTick_12 ?_
  refine v_iconst (v := 1) C dX8_oneTick_15 (by decide) ?_
  refine v_iadd C dX8_oneTick_16 ?_
  refine v_put C iX8_oneTick_X8 tyX8 tyX8_ok nmX8 k_30 rfl rfl (j := 0) rfl (by decide) rfl (C.w 3 rfl) rfl rfl rfl dX8_oneTick_17 ?_
  refine v_aload_n C dX8_oneTick_20 rfl (lv_at hl 1 rfl) ?_
  refine v_callv C (c_X8_inputs l g _) (cwV 0 C.2.2.2.2.1 gX8_oneTick_X8_inputs rfl rfl rfl hv_X8_inputs ⟨Nat.le_of_ble_eq_true rfl, Nat.le_of_ble_eq_true rfl⟩) k_30 rfl rfl rfl rfl hl.1 rfl (Nat.le_of_ble_eq_true rfl) dX8_oneTick_21 ⟨Nat.le_refl _, Nat.le_refl _⟩ ?_
  refine v_aload_n C dX8_oneTick_24 rfl (lv_at hl 1 rfl) ?_
  refine v_callv C (c_X8_counters l g _ (ok_X8_inputs_s _ (okM_30 hc (by decide) (by decide) (by decide)))) (cwV 0 C.2.2.2.2.1 gX8_oneTick_X8_counters rfl rfl rfl hv_X8_counters ⟨Nat.le_of_ble_eq_true rfl, Nat.le_of_ble_eq_true rfl⟩) k_30 rfl rfl rfl rfl hl.1 rfl (Nat.le_of_ble_eq_true rfl) dX8_oneTick_25 ⟨Nat.le_refl _, Nat.le_refl _⟩ ?_
  refine v_aload_n C dX8_oneTick_28 rfl (lv_at hl 1 rfl) ?_
  refine v_callv C (c_X8_catchers l g _ (ok_X8_counters_s _ (ok_X8_inputs_s _ (okM_30 hc (by decide) (by decide) (by decide))))) (cwV 0 C.2.2.2.2.1 gX8_oneTick_X8_catchers rfl rfl rfl hv_X8_catchers ⟨Nat.le_of_ble_eq_true rfl, Nat.le_of_ble_eq_true rfl⟩) k_30 rfl rfl rfl rfl hl.1 rfl (Nat.le_of_ble_eq_true rfl) dX8_oneTick_29 ⟨Nat.le_refl _, Nat.le_refl _⟩ ?_
  refine v_aload_n C dX8_oneTick_32 rfl (lv_at hl 1 rfl) ?_
  refine v_callv C (c_X8_channels l g _ (ok_X8_catchers_s _ (ok_X8_counters_s _ (ok_X8_inputs_s _ (okM_30 hc (by decide) (by decide) (by decide)))))) (cwV 0 C.2.2.2.2.1 gX8_oneTick_X8_channels rfl rfl rfl hv_X8_channels ⟨Nat.le_of_ble_eq_true rfl, Nat.le_of_ble_eq_true rfl⟩) k_30 rfl rfl rfl rfl hl.1 rfl (Nat.le_of_ble_eq_true rfl) dX8_oneTick_33 ⟨Nat.le_refl _, Nat.le_refl _⟩ ?_
  refine v_aload_n C dX8_oneTick_36 rfl (lv_at hl 1 rfl) ?_
  refine v_getI C iX8_oneTick_X8 k_30 rfl rfl (j := 0) rfl (by decide) rfl (C.w 3 rfl) dX8_oneTick_37 ?_
  refine v_aload_n C dX8_oneTick_40 rfl (lv_at hl 1 rfl) ?_
  refine v_getI C iX8_oneTick_X8 k_30 rfl rfl (j := 40) rfl (by decide) rfl (C.w 4 rfl) dX8_oneTick_41 ?_
  refine v_irem C dX8_oneTick_44 (ok_X8_channels_s _ (ok_X8_catchers_s _ (ok_X8_counters_s _ (ok_X8_inputs_s _ (okM_30 hc (by decide) (by decide) (by decide)))))).2.2.2.2.2.2.1 ?_
  refine v_if_ne (tgt := 74) C dX8_oneTick_45 (by decide) (fun c_1 => ?_) (fun c_1 => ?_)
  · refine v_aload_n C dX8_oneTick_74 rfl (lv_at hl 1 rfl) ?_
    refine v_callv C (c_X8_pins l g _ (ok_X8_channels_s _ (ok_X8_catchers_s _ (ok_X8_counters_s _ (ok_X8_inputs_s _ (okM_30 hc (by decide) (by decide) (by decide))))))) (cwV 0 C.2.2.2.2.1 gX8_oneTick_X8_pins rfl rfl rfl hv_X8_pins ⟨Nat.le_of_ble_eq_true rfl, Nat.le_of_ble_eq_true rfl⟩) k_30 rfl rfl rfl rfl hl.1 rfl (Nat.le_of_ble_eq_true rfl) dX8_oneTick_75 ⟨Nat.le_refl _, Nat.le_refl _⟩ ?_
    exact hret _ _ _ (by dsimp only [X8_oneTick_s]; rw [if_neg c_1]) dX8_oneTick_78
  · refine v_aload_n C dX8_oneTick_48 rfl (lv_at hl 1 rfl) ?_
    refine v_aload_n C dX8_oneTick_49 rfl (lv_at hl 1 rfl) ?_
    refine v_getI C iX8_oneTick_X8 k_30 rfl rfl (j := 43) rfl (by decide) rfl (C.w 5 rfl) dX8_oneTick_50 ?_
    refine v_put C iX8_oneTick_X8 tyX8 tyX8_ok nmX8 k_30 rfl rfl (j := 44) rfl (by decide) rfl (C.w 6 rfl) rfl rfl rfl dX8_oneTick_53 ?_
    refine v_aload_n C dX8_oneTick_56 rfl (lv_at hl 1 rfl) ?_
    refine v_aload_n C dX8_oneTick_57 rfl (lv_at hl 1 rfl) ?_
    refine v_iload_n C dX8_oneTick_58 rfl (lv_at hl 0 rfl) ?_
    refine v_aload_n C dX8_oneTick_59 rfl (lv_at hl 1 rfl) ?_
    refine v_getR C iX8_oneTick_X8 k_30 rfl rfl (j := 5) rfl (by decide) rfl (C.w 1 rfl) dX8_oneTick_60 ?_
    refine v_aload_n C dX8_oneTick_63 rfl (lv_at hl 1 rfl) ?_
    refine v_getI C iX8_oneTick_X8 k_30 rfl rfl (j := 41) rfl (by decide) rfl (C.w 2 rfl) dX8_oneTick_64 ?_
    refine v_iald C k_35 rfl (okM_30 (ok_X8_channels_s _ (ok_X8_catchers_s _ (ok_X8_counters_s _ (ok_X8_inputs_s _ (okM_30 hc (by decide) (by decide) (by decide)))))) (by decide) (by decide) (by decide)).2.2.2.2.2.1 dX8_oneTick_67 ?_
    refine v_calli C (c_X8_sampleOf l g _ _ _) (cwV 2 C.2.2.2.2.1 gX8_oneTick_X8_sampleOf rfl rfl rfl hv_X8_sampleOf ⟨Nat.le_of_ble_eq_true rfl, Nat.le_of_ble_eq_true rfl⟩) k_30 rfl rfl rfl rfl hl.1 rfl (Nat.le_of_ble_eq_true rfl) dX8_oneTick_68 ⟨Nat.le_refl _, Nat.le_refl _⟩ ?_
    refine v_put C iX8_oneTick_X8 tyX8 tyX8_ok nmX8 k_30 rfl rfl (j := 43) rfl (by decide) rfl (C.w 5 rfl) rfl rfl rfl dX8_oneTick_71 ?_
    refine v_aload_n C dX8_oneTick_74 rfl (lv_at hl 1 rfl) ?_
    refine v_callv C (c_X8_pins l g _ (okM_30 (okM_30 (ok_X8_channels_s _ (ok_X8_catchers_s _ (ok_X8_counters_s _ (ok_X8_inputs_s _ (okM_30 hc (by decide) (by decide) (by decide)))))) (by decide) (by decide) (by decide)) (by decide) (by decide) (by decide))) (cwV 0 C.2.2.2.2.1 gX8_oneTick_X8_pins rfl rfl rfl hv_X8_pins ⟨Nat.le_of_ble_eq_true rfl, Nat.le_of_ble_eq_true rfl⟩) k_30 rfl rfl rfl rfl hl.1 rfl (Nat.le_of_ble_eq_true rfl) dX8_oneTick_75 ⟨Nat.le_refl _, Nat.le_refl _⟩ ?_
    exact hret _ _ _ (by dsimp only [X8_oneTick_s]; rw [if_pos c_1]) dX8_oneTick_78
theorem ok_X8_oneTick_s (t : ct_St) (hc : okM t) : okM (X8_oneTick_s t) := by
  dsimp only [X8_oneTick_s]
  split
  · exact (ok_X8_pins_s _ (okM_30 (okM_30 (ok_X8_channels_s _ (ok_X8_catchers_s _ (ok_X8_counters_s _ (ok_X8_inputs_s _ (okM_30 hc (by decide) (by decide) (by decide)))))) (by decide) (by decide) (by decide)) (by decide) (by decide) (by decide)))
  · exact (ok_X8_pins_s _ (ok_X8_channels_s _ (ok_X8_catchers_s _ (ok_X8_counters_s _ (ok_X8_inputs_s _ (okM_30 hc (by decide) (by decide) (by decide)))))))
theorem X8_oneTick_s_fr (t : ct_St) {r : Nat} (h30 : r ≠ 30) (h32 : r ≠ 32) (h35 : r ≠ 35) (h36 : r ≠ 36) (h37 : r ≠ 37) (h38 : r ≠ 38) (h39 : r ≠ 39) (h40 : r ≠ 40) (h41 : r ≠ 41) (h43 : r ≠ 43) (h45 : r ≠ 45) (h46 : r ≠ 46) (h50 : r ≠ 50) (h51 : r ≠ 51) (h52 : r ≠ 52) (h53 : r ≠ 53) (h57 : r ≠ 57) (h58 : r ≠ 58) (h62 : r ≠ 62) (h63 : r ≠ 63) (h64 : r ≠ 64) (h65 : r ≠ 65) : X8_oneTick_s t r = t r := by
  dsimp only [X8_oneTick_s]
  (repeat' split) <;> simp only [us_ne, ur_ne, h30, h32, h35, h36, h37, h38, h39, h40, h41, h43, h45, h46, h50, h51, h52, h53, h57, h58, h62, h63, h64, h65, ne_eq, not_false_eq_true, X8_catchers_s_fr, X8_channels_s_fr, X8_counters_s_fr, X8_inputs_s_fr, X8_pins_s_fr]
