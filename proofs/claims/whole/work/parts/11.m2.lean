/-- what the reference's rows must hold, so that no index is wrong and no divisor 0 -/
def okM (t : ct_St) : Prop := (∀ x : Int32, vp_in x 4 → t 34 (ix x) = 2 → vp_in (x - 1) 4) ∧ bl (t 41) ∧ (∀ j, j < 4 → ¬ t 49 j = 0) ∧ (∀ j, j < 4 → vp_in (t 47 j) 4) ∧ (∀ j, j < 4 → vp_in (t 54 j) 4) ∧ vp_in (t 30 41) 4 ∧ ¬ t 30 40 = 0 ∧ vp_in (t 30 34) 25
theorem okM_of {t u : ct_St} (h : okM t) (h34 : u 34 = t 34) (h41 : bl (u 41)) (h49 : u 49 = t 49) (h47 : u 47 = t 47) (h54 : u 54 = t 54) (h30 : u 30 = t 30) : okM u := by
  unfold okM
  rw [h34, h49, h47, h54, h30]
  exact ⟨h.1, h41, h.2.2⟩
theorem okM_30 {t : ct_St} {k : Nat} {v : Int32} (h : okM t) (h1 : 41 ≠ k) (h2 : 40 ≠ k) (h3 : 34 ≠ k) : okM (us t 30 k v) := by
  unfold okM
  rw [us_ne (by decide), us_ne (by decide), us_ne (by decide), us_ne (by decide), us_ne (by decide), us_at, pk_un h1, pk_un h2, pk_un h3]
  exact h
theorem okM_ne {t : ct_St} {i k : Nat} {v : Int32} (h : okM t) (h0 : 30 ≠ i) (h1 : 34 ≠ i) (h2 : 41 ≠ i) (h3 : 49 ≠ i) (h4 : 47 ≠ i) (h5 : 54 ≠ i) : okM (us t i k v) := okM_of h (us_ne h1) (by rw [us_ne h2]; exact h.2.1) (us_ne h3) (us_ne h4) (us_ne h5) (us_ne h0)
theorem us_off {t : ct_St} {i k j : Nat} {v : Int32} (h : j ≠ k) : us t i k v i j = t i j := by rw [us_at, pk_un h]
theorem iX8_hasPulse_X8 : ∀ w ∈ wsX80, w ∈ wsX8_hasPulse := fun _ h => (List.mem_cons_of_mem _ (List.mem_append_right _ h))
theorem hv_X8_hasPulse : yX8_hasPulse.cls = RX8 ∧ yX8_hasPulse.cls ≠ "java/lang/invoke/MethodHandle" ∧ yX8_hasPulse.cls ≠ "java/lang/invoke/VarHandle" ∧ (parseMethodDescriptor yX8_hasPulse.desc).map (fun d => d.parameters.length) = some 1 := by decide +kernel
def X8_hasPulse_r (a1 : Int32) (t : ct_St) : Int32 :=
  if t 34 (ix a1) = 1 then
    1
  else
    if t 34 (ix a1) = 2 then
      t 41 (ix (a1 - 1))
    else
      if t 34 (ix a1) = 3 then
        if t 46 (ix a1) = 1 then
          1
        else
          0
      else
        0
set_option maxHeartbeats 4000000 in
set_option maxRecDepth 100000 in
theorem c_X8_hasPulse (l : Launch) (g : ct_G) (t : ct_St) (a1 : Int32) (h1 : vp_in a1 4) (h2 : t 34 (ix a1) = 2 → vp_in (a1 - 1) 4) (h3 : bl (t 41)) : MI l g shG yX8_hasPulse wsX8_hasPulse (rmd 0) [.ref (g.2.1 30), .int a1] t (X8_hasPulse_r a1 t) t := by
  refine MZ.of (own := RX8) (cc := cX8_hasPulse) (maxL := 2) rfl (by decide) rfl (Nat.le_of_ble_eq_true rfl) (fun p e s m args below meth cd A Q C hret ls hl => ?_)
  have hl : lv_has ls 2 [(0, .ref (g.2.1 30)), (1, .int a1)] := hl
  refine v_aload_n C dX8_hasPulse_0 rfl (lv_at hl 0 rfl) ?_
  refine v_getR C iX8_hasPulse_X8 k_30 rfl rfl (j := 4) rfl (by decide) rfl (C.w 1 rfl) dX8_hasPulse_1 ?_
  refine v_iload_n C dX8_hasPulse_4 rfl (lv_at hl 1 rfl) ?_
  refine v_iald C k_34 rfl h1 dX8_hasPulse_5 ?_
  refine v_by (v := 1) (fun c_1 => ?_) (fun c_1 => ?_)
  · refine v_tabIn (off := 26) (tgt := 32) C dX8_hasPulse_6 c_1 (by decide) (by decide) (by decide) (by decide) ?_
    refine v_iconst (v := 1) C dX8_hasPulse_32 (by decide) ?_
    exact hret _ _ _ _ (Eq.symm ((if_pos c_1).trans rfl)) rfl rfl dX8_hasPulse_33
  · refine v_by (v := 2) (fun c_2 => ?_) (fun c_2 => ?_)
    · refine v_tabIn (off := 28) (tgt := 34) C dX8_hasPulse_6 c_2 (by decide) (by decide) (by decide) (by decide) ?_
      refine v_aload_n C dX8_hasPulse_34 rfl (lv_at hl 0 rfl) ?_
      refine v_getR C iX8_hasPulse_X8 k_30 rfl rfl (j := 11) rfl (by decide) rfl (C.w 2 rfl) dX8_hasPulse_35 ?_
      refine v_iload_n C dX8_hasPulse_38 rfl (lv_at hl 1 rfl) ?_
      refine v_iconst (v := 1) C dX8_hasPulse_39 (by decide) ?_
      refine v_isub C dX8_hasPulse_40 ?_
      refine v_zald C k_41 rfl (h2 c_2) dX8_hasPulse_41 ?_
      exact hret _ _ _ _ (Eq.symm ((if_neg c_1).trans ((if_pos c_2).trans rfl))) rfl (nb_of (h3 _)) dX8_hasPulse_42
    · refine v_by (v := 3) (fun c_3 => ?_) (fun c_3 => ?_)
      · refine v_tabIn (off := 37) (tgt := 43) C dX8_hasPulse_6 c_3 (by decide) (by decide) (by decide) (by decide) ?_
        refine v_aload_n C dX8_hasPulse_43 rfl (lv_at hl 0 rfl) ?_
        refine v_getR C iX8_hasPulse_X8 k_30 rfl rfl (j := 16) rfl (by decide) rfl (C.w 3 rfl) dX8_hasPulse_44 ?_
        refine v_iload_n C dX8_hasPulse_47 rfl (lv_at hl 1 rfl) ?_
        refine v_iald C k_46 rfl h1 dX8_hasPulse_48 ?_
        refine v_iconst (v := 1) C dX8_hasPulse_49 (by decide) ?_
        refine v_icmp_ne (tgt := 57) C dX8_hasPulse_50 (by decide) (fun c_4 => ?_) (fun c_4 => ?_)
        · refine v_iconst (v := 0) C dX8_hasPulse_57 (by decide) ?_
          exact hret _ _ _ _ (Eq.symm ((if_neg c_1).trans ((if_neg c_2).trans ((if_pos c_3).trans ((if_neg c_4).trans rfl))))) rfl rfl dX8_hasPulse_58
        · refine v_iconst (v := 1) C dX8_hasPulse_53 (by decide) ?_
          refine v_goto (tgt := 58) C dX8_hasPulse_54 (by decide) ?_
          exact hret _ _ _ _ (Eq.symm ((if_neg c_1).trans ((if_neg c_2).trans ((if_pos c_3).trans ((if_pos c_4).trans rfl))))) rfl rfl dX8_hasPulse_58
      · refine v_tabOut (tgt := 59) C dX8_hasPulse_6 (by have h0 := lv_neT (a := 1) c_1 (by decide); have h1 := lv_neT (a := 2) c_2 (by decide); have h2 := lv_neT (a := 3) c_3 (by decide); omega) (by decide) ?_
        refine v_iconst (v := 0) C dX8_hasPulse_59 (by decide) ?_
        exact hret _ _ _ _ (Eq.symm ((if_neg c_1).trans ((if_neg c_2).trans ((if_neg c_3).trans rfl)))) rfl rfl dX8_hasPulse_60
theorem iX8_counters_X8 : ∀ w ∈ wsX80, w ∈ wsX8_counters := fun _ h => (List.mem_cons_of_mem _ (List.mem_append_right _ h))
theorem hv_X8_counters : yX8_counters.cls = RX8 ∧ yX8_counters.cls ≠ "java/lang/invoke/MethodHandle" ∧ yX8_counters.cls ≠ "java/lang/invoke/VarHandle" ∧ (parseMethodDescriptor yX8_counters.desc).map (fun d => d.parameters.length) = some 0 := by decide +kernel
def X8_counters_it (x : Int32) (t : ct_St) : ct_St :=
  let t1 := us t 40 (ix x) 0
  let t2 := us t1 41 (ix x) 0
  if X8_hasPulse_r x t2 = 0 then
    t2
  else
    let t3 := us t2 36 (ix x) ((t2 36 (ix x)) + 1)
    if t3 36 (ix x) = t3 33 (ix x) then
      let t4 := us t3 36 (ix x) 0
      let t5 := X8_steps_s x t4
      t5
    else
      t3
theorem X8_counters_it_fr (x : Int32) (t : ct_St) {r : Nat} (h32 : r ≠ 32) (h35 : r ≠ 35) (h36 : r ≠ 36) (h37 : r ≠ 37) (h38 : r ≠ 38) (h39 : r ≠ 39) (h40 : r ≠ 40) (h41 : r ≠ 41) : X8_counters_it x t r = t r := by
  dsimp only [X8_counters_it]
  (repeat' split) <;> simp only [us_ne, ur_ne, h32, h35, h36, h37, h38, h39, h40, h41, ne_eq, not_false_eq_true, X8_steps_s_fr]
theorem ok_X8_counters_it (x : Int32) (t : ct_St) (h : okM t) : okM (X8_counters_it x t) := okM_of h (X8_counters_it_fr x t (by decide) (by decide) (by decide) (by decide) (by decide) (by decide) (by decide) (by decide)) (by
  dsimp only [X8_counters_it]
  (repeat' split) <;> first | exact bl_up h.2.1 (Or.inl rfl) | exact ss41 x _ (bl_up h.2.1 (Or.inl rfl))) (X8_counters_it_fr x t (by decide) (by decide) (by decide) (by decide) (by decide) (by decide) (by decide) (by decide)) (X8_counters_it_fr x t (by decide) (by decide) (by decide) (by decide) (by decide) (by decide) (by decide) (by decide)) (X8_counters_it_fr x t (by decide) (by decide) (by decide) (by decide) (by decide) (by decide) (by decide) (by decide)) (X8_counters_it_fr x t (by decide) (by decide) (by decide) (by decide) (by decide) (by decide) (by decide) (by decide))
set_option maxHeartbeats 4000000 in
set_option maxRecDepth 100000 in
theorem cb_X8_counters {p : Program} {e : Env} {s : State} {m : MethodId} {args : Array Value} {below : List Frame} {meth : Method} {cd : Code} {A : Nat → Prop} {Q : State → Prop} (l : Launch) (g : ct_G) (C : Cx p s m args cd A g cX8_counters RX8 wsX8_counters 2) (t : ct_St) (x : Int32) (hx : vp_in x 4) (hc : okM t) (K : ∀ (ls : Array Slot) (x1 : Int32), x1 = x + 1 → lv_has ls 2 [(0, .ref (g.2.1 30)), (1, .int x1)] → VW p l e (rmd 3) s m args below meth cd 0 0 Q A g shG (X8_counters_it x t) (F0 m 2 ls [])) (ls : Array Slot) (hl : lv_has ls 2 [(0, .ref (g.2.1 30)), (1, .int x)]) : VW p l e (rmd 3) s m args below meth cd 0 0 Q A g shG t (F0 m 2 ls []) := by
  refine v_iload_n C dX8_counters_2 rfl (lv_at hl 1 rfl) ?_
  refine v_iconst (v := 4) C dX8_counters_3 (by decide) ?_
  refine v_icmp_ge (tgt := 72) C dX8_counters_4 (by decide) (fun h => absurd h ((vp_nle hx (by decide)))) (fun _ => ?_)
  refine v_aload_n C dX8_counters_7 rfl (lv_at hl 0 rfl) ?_
  refine v_getR C iX8_counters_X8 k_30 rfl rfl (j := 10) rfl (by decide) rfl (C.w 1 rfl) dX8_counters_8 ?_
  refine v_iload_n C dX8_counters_11 rfl (lv_at hl 1 rfl) ?_
  refine v_iconst (v := 0) C dX8_counters_12 (by decide) ?_
  refine v_zast (z := 0) C k_40 rfl hx (by decide) dX8_counters_13 ?_
  refine v_aload_n C dX8_counters_14 rfl (lv_at hl 0 rfl) ?_
  refine v_getR C iX8_counters_X8 k_30 rfl rfl (j := 11) rfl (by decide) rfl (C.w 2 rfl) dX8_counters_15 ?_
  refine v_iload_n C dX8_counters_18 rfl (lv_at hl 1 rfl) ?_
  refine v_iconst (v := 0) C dX8_counters_19 (by decide) ?_
  refine v_zast (z := 0) C k_41 rfl hx (by decide) dX8_counters_20 ?_
  refine v_aload_n C dX8_counters_21 rfl (lv_at hl 0 rfl) ?_
  refine v_iload_n C dX8_counters_22 rfl (lv_at hl 1 rfl) ?_
  refine v_calli C (c_X8_hasPulse l g _ _ hx (hc.1 _ hx) (bl_up hc.2.1 (Or.inl rfl))) (cwV 1 C.2.2.2.2.1 gX8_counters_X8_hasPulse rfl rfl rfl hv_X8_hasPulse ⟨Nat.le_of_ble_eq_true rfl, Nat.le_of_ble_eq_true rfl⟩) k_30 rfl rfl rfl rfl hl.1 rfl (Nat.le_of_ble_eq_true rfl) dX8_counters_23 ⟨Nat.le_refl _, Nat.le_refl _⟩ ?_
  refine v_if_eq (tgt := 66) C dX8_counters_26 (by decide) (fun c_2 => ?_) (fun c_2 => ?_)
  · refine v_iinc (k0 := 1) (v := _ + 1) (lv' := [(1, _), (0, _)]) C dX8_counters_66 hl rfl rfl (by decide) rfl (fun ls hl => ?_)
    refine v_goto (tgt := 2) C dX8_counters_69 (by decide) ?_
    exact VW.st (Eq.symm ((if_pos c_2).trans rfl)) (K ls _ rfl (lv_sub hl [1, 0] rfl))
  · refine v_aload_n C dX8_counters_29 rfl (lv_at hl 0 rfl) ?_
    refine v_getR C iX8_counters_X8 k_30 rfl rfl (j := 6) rfl (by decide) rfl (C.w 3 rfl) dX8_counters_30 ?_
    refine v_iload_n C dX8_counters_33 rfl (lv_at hl 1 rfl) ?_
    refine v_dup2 C dX8_counters_34 rfl rfl ?_
    refine v_iald C k_36 rfl hx dX8_counters_35 ?_
    refine v_iconst (v := 1) C dX8_counters_36 (by decide) ?_
    refine v_iadd C dX8_counters_37 ?_
    refine v_iast C k_36 rfl hx dX8_counters_38 ?_
    refine v_aload_n C dX8_counters_39 rfl (lv_at hl 0 rfl) ?_
    refine v_getR C iX8_counters_X8 k_30 rfl rfl (j := 6) rfl (by decide) rfl (C.w 3 rfl) dX8_counters_40 ?_
    refine v_iload_n C dX8_counters_43 rfl (lv_at hl 1 rfl) ?_
    refine v_iald C k_36 rfl hx dX8_counters_44 ?_
    refine v_aload_n C dX8_counters_45 rfl (lv_at hl 0 rfl) ?_
    refine v_getR C iX8_counters_X8 k_30 rfl rfl (j := 3) rfl (by decide) rfl (C.w 4 rfl) dX8_counters_46 ?_
    refine v_iload_n C dX8_counters_49 rfl (lv_at hl 1 rfl) ?_
    refine v_iald C k_33 rfl hx dX8_counters_50 ?_
    refine v_icmp_ne (tgt := 66) C dX8_counters_51 (by decide) (fun c_3 => ?_) (fun c_3 => ?_)
    · refine v_iinc (k0 := 1) (v := _ + 1) (lv' := [(1, _), (0, _)]) C dX8_counters_66 hl rfl rfl (by decide) rfl (fun ls hl => ?_)
      refine v_goto (tgt := 2) C dX8_counters_69 (by decide) ?_
      exact VW.st (Eq.symm ((if_neg c_2).trans ((if_neg c_3).trans rfl))) (K ls _ rfl (lv_sub hl [1, 0] rfl))
    · refine v_aload_n C dX8_counters_54 rfl (lv_at hl 0 rfl) ?_
      refine v_getR C iX8_counters_X8 k_30 rfl rfl (j := 6) rfl (by decide) rfl (C.w 3 rfl) dX8_counters_55 ?_
      refine v_iload_n C dX8_counters_58 rfl (lv_at hl 1 rfl) ?_
      refine v_iconst (v := 0) C dX8_counters_59 (by decide) ?_
      refine v_iast C k_36 rfl hx dX8_counters_60 ?_
      refine v_aload_n C dX8_counters_61 rfl (lv_at hl 0 rfl) ?_
      refine v_iload_n C dX8_counters_62 rfl (lv_at hl 1 rfl) ?_
      refine v_callv C (c_X8_steps l g _ _ hx) (cwV 1 C.2.2.2.2.1 gX8_counters_X8_steps rfl rfl rfl hv_X8_steps ⟨Nat.le_of_ble_eq_true rfl, Nat.le_of_ble_eq_true rfl⟩) k_30 rfl rfl rfl rfl hl.1 rfl (Nat.le_of_ble_eq_true rfl) dX8_counters_63 ⟨Nat.le_refl _, Nat.le_refl _⟩ ?_
      refine v_iinc (k0 := 1) (v := _ + 1) (lv' := [(1, _), (0, _)]) C dX8_counters_66 hl rfl rfl (by decide) rfl (fun ls hl => ?_)
      refine v_goto (tgt := 2) C dX8_counters_69 (by decide) ?_
      exact VW.st (Eq.symm ((if_neg c_2).trans ((if_pos c_3).trans rfl))) (K ls _ rfl (lv_sub hl [1, 0] rfl))
def X8_counters_s (t : ct_St) : ct_St :=
  let t1 := X8_counters_it 0 t
  let t2 := X8_counters_it 1 t1
  let t3 := X8_counters_it 2 t2
  let t4 := X8_counters_it 3 t3
  t4
set_option maxHeartbeats 4000000 in
set_option maxRecDepth 100000 in
theorem c_X8_counters (l : Launch) (g : ct_G) (t : ct_St) (hc : okM t) : MV l g shG yX8_counters wsX8_counters (rmd 3) [.ref (g.2.1 30)] t (X8_counters_s t) := by
  refine MV.of (own := RX8) (cc := cX8_counters) (maxL := 2) rfl (by decide) rfl (Nat.le_of_ble_eq_true rfl) (fun p e s m args below meth cd A Q C hret ls hl => ?_)
  have hl : lv_has ls 2 [(0, .ref (g.2.1 30))] := hl
  refine v_iconst (v := 0) C dX8_counters_0 (by decide) ?_
  refine v_istore_n (lv' := [(1, _), (0, _)]) C dX8_counters_1 rfl hl (by decide) rfl (fun ls hl => ?_)
  refine cb_X8_counters l g C _ 0 vl_0_4 hc (fun ls x1 hx1 hl => ?_) ls (lv_sub hl [1, 0] rfl)
  obtain rfl : x1 = 1 := hx1.trans (by decide)
  refine cb_X8_counters l g C _ 1 vl_1_4 (ok_X8_counters_it _ _ hc) (fun ls x1 hx1 hl => ?_) ls (lv_sub hl [0, 1] rfl)
  obtain rfl : x1 = 2 := hx1.trans (by decide)
  refine cb_X8_counters l g C _ 2 vl_2_4 (ok_X8_counters_it _ _ (ok_X8_counters_it _ _ hc)) (fun ls x1 hx1 hl => ?_) ls (lv_sub hl [0, 1] rfl)
  obtain rfl : x1 = 3 := hx1.trans (by decide)
  refine cb_X8_counters l g C _ 3 vl_3_4 (ok_X8_counters_it _ _ (ok_X8_counters_it _ _ (ok_X8_counters_it _ _ hc))) (fun ls x1 hx1 hl => ?_) ls (lv_sub hl [0, 1] rfl)
  obtain rfl : x1 = 4 := hx1.trans (by decide)
  refine v_iload_n C dX8_counters_2 rfl (lv_at hl 1 rfl) ?_
  refine v_iconst (v := 4) C dX8_counters_3 (by decide) ?_
  refine v_icmp_ge (tgt := 72) C dX8_counters_4 (by decide) (fun _ => ?_) (fun h => absurd h (by decide))
  exact hret _ _ _ rfl dX8_counters_72
theorem ok_X8_counters_s (t : ct_St) (h : okM t) : okM (X8_counters_s t) := by
  dsimp only [X8_counters_s]
  exact ok_X8_counters_it _ _ (ok_X8_counters_it _ _ (ok_X8_counters_it _ _ (ok_X8_counters_it _ _ h)))
theorem X8_counters_s_fr (t : ct_St) {r : Nat} (h32 : r ≠ 32) (h35 : r ≠ 35) (h36 : r ≠ 36) (h37 : r ≠ 37) (h38 : r ≠ 38) (h39 : r ≠ 39) (h40 : r ≠ 40) (h41 : r ≠ 41) : X8_counters_s t r = t r := by
  dsimp only [X8_counters_s]
  (repeat' split) <;> simp only [us_ne, ur_ne, h32, h35, h36, h37, h38, h39, h40, h41, ne_eq, not_false_eq_true, X8_counters_it_fr]
theorem iX8_inputs_X8 : ∀ w ∈ wsX80, w ∈ wsX8_inputs := fun _ h => (List.mem_cons_of_mem _ (List.mem_append_right _ h))
theorem hv_X8_inputs : yX8_inputs.cls = RX8 ∧ yX8_inputs.cls ≠ "java/lang/invoke/MethodHandle" ∧ yX8_inputs.cls ≠ "java/lang/invoke/VarHandle" ∧ (parseMethodDescriptor yX8_inputs.desc).map (fun d => d.parameters.length) = some 0 := by decide +kernel
def X8_inputs_it (x : Int32) (t : ct_St) : ct_St :=
  let t1 := us t 46 (ix x) 0
  if t1 42 (ix x) = t1 43 (ix x) then
    let t7 := us t1 45 (ix x) 0
    if t7 45 (ix x) < t7 44 (ix x) then
      t7
    else
      let t8 := us t7 43 (ix x) (t7 42 (ix x))
      let t9 := us t8 45 (ix x) 0
      if t9 42 (ix x) = 1 then
        let t11 := us t9 46 (ix x) 1
        t11
      else
        let t10 := us t9 46 (ix x) 2
        t10
  else
    let t2 := us t1 45 (ix x) ((t1 45 (ix x)) + 1)
    if t2 45 (ix x) < t2 44 (ix x) then
      t2
    else
      let t3 := us t2 43 (ix x) (t2 42 (ix x))
      let t4 := us t3 45 (ix x) 0
      if t4 42 (ix x) = 1 then
        let t6 := us t4 46 (ix x) 1
        t6
      else
        let t5 := us t4 46 (ix x) 2
        t5
theorem X8_inputs_it_fr (x : Int32) (t : ct_St) {r : Nat} (h43 : r ≠ 43) (h45 : r ≠ 45) (h46 : r ≠ 46) : X8_inputs_it x t r = t r := by
  dsimp only [X8_inputs_it]
  (repeat' split) <;> simp only [us_ne, ur_ne, h43, h45, h46, ne_eq, not_false_eq_true]
theorem ok_X8_inputs_it (x : Int32) (t : ct_St) (h : okM t) : okM (X8_inputs_it x t) := okM_of h (X8_inputs_it_fr x t (by decide) (by decide) (by decide)) (by rw [X8_inputs_it_fr x t (by decide) (by decide) (by decide)]; exact h.2.1) (X8_inputs_it_fr x t (by decide) (by decide) (by decide)) (X8_inputs_it_fr x t (by decide) (by decide) (by decide)) (X8_inputs_it_fr x t (by decide) (by decide) (by decide)) (X8_inputs_it_fr x t (by decide) (by decide) (by decide))
set_option maxHeartbeats 4000000 in
set_option maxRecDepth 100000 in
theorem cb_X8_inputs {p : Program} {e : Env} {s : State} {m : MethodId} {args : Array Value} {below : List Frame} {meth : Method} {cd : Code} {A : Nat → Prop} {Q : State → Prop} (l : Launch) (g : ct_G) (C : Cx p s m args cd A g cX8_inputs RX8 wsX8_inputs 2) (t : ct_St) (x : Int32) (hx : vp_in x 4) (K : ∀ (ls : Array Slot) (x1 : Int32), x1 = x + 1 → lv_has ls 2 [(0, .ref (g.2.1 30)), (1, .int x1)] → VW p l e (rmd 0) s m args below meth cd 0 0 Q A g shG (X8_inputs_it x t) (F0 m 2 ls [])) (ls : Array Slot) (hl : lv_has ls 2 [(0, .ref (g.2.1 30)), (1, .int x)]) : VW p l e (rmd 0) s m args below meth cd 0 0 Q A g shG t (F0 m 2 ls []) := by
  refine v_iload_n C dX8_inputs_2 rfl (lv_at hl 1 rfl) ?_
  refine v_iconst (v := 4) C dX8_inputs_3 (by decide) ?_
  refine v_icmp_ge (tgt := 108) C dX8_inputs_4 (by decide) (fun h => absurd h ((vp_nle hx (by decide)))) (fun _ => ?_)
  refine v_aload_n C dX8_inputs_7 rfl (lv_at hl 0 rfl) ?_
  refine v_getR C iX8_inputs_X8 k_30 rfl rfl (j := 16) rfl (by decide) rfl (C.w 1 rfl) dX8_inputs_8 ?_
  refine v_iload_n C dX8_inputs_11 rfl (lv_at hl 1 rfl) ?_
  refine v_iconst (v := 0) C dX8_inputs_12 (by decide) ?_
  refine v_iast C k_46 rfl hx dX8_inputs_13 ?_
  refine v_aload_n C dX8_inputs_14 rfl (lv_at hl 0 rfl) ?_
  refine v_getR C iX8_inputs_X8 k_30 rfl rfl (j := 15) rfl (by decide) rfl (C.w 2 rfl) dX8_inputs_15 ?_
  refine v_iload_n C dX8_inputs_18 rfl (lv_at hl 1 rfl) ?_
  refine v_aload_n C dX8_inputs_19 rfl (lv_at hl 0 rfl) ?_
  refine v_getR C iX8_inputs_X8 k_30 rfl rfl (j := 12) rfl (by decide) rfl (C.w 3 rfl) dX8_inputs_20 ?_
  refine v_iload_n C dX8_inputs_23 rfl (lv_at hl 1 rfl) ?_
  refine v_iald C k_42 rfl hx dX8_inputs_24 ?_
  refine v_aload_n C dX8_inputs_25 rfl (lv_at hl 0 rfl) ?_
  refine v_getR C iX8_inputs_X8 k_30 rfl rfl (j := 13) rfl (by decide) rfl (C.w 4 rfl) dX8_inputs_26 ?_
  refine v_iload_n C dX8_inputs_29 rfl (lv_at hl 1 rfl) ?_
  refine v_iald C k_43 rfl hx dX8_inputs_30 ?_
  refine v_icmp_ne (tgt := 38) C dX8_inputs_31 (by decide) (fun c_2 => ?_) (fun c_2 => ?_)
  · refine v_aload_n C dX8_inputs_38 rfl (lv_at hl 0 rfl) ?_
    refine v_getR C iX8_inputs_X8 k_30 rfl rfl (j := 15) rfl (by decide) rfl (C.w 2 rfl) dX8_inputs_39 ?_
    refine v_iload_n C dX8_inputs_42 rfl (lv_at hl 1 rfl) ?_
    refine v_iald C k_45 rfl hx dX8_inputs_43 ?_
    refine v_iconst (v := 1) C dX8_inputs_44 (by decide) ?_
    refine v_iadd C dX8_inputs_45 ?_
    refine v_iast C k_45 rfl hx dX8_inputs_46 ?_
    refine v_aload_n C dX8_inputs_47 rfl (lv_at hl 0 rfl) ?_
    refine v_getR C iX8_inputs_X8 k_30 rfl rfl (j := 15) rfl (by decide) rfl (C.w 2 rfl) dX8_inputs_48 ?_
    refine v_iload_n C dX8_inputs_51 rfl (lv_at hl 1 rfl) ?_
    refine v_iald C k_45 rfl hx dX8_inputs_52 ?_
    refine v_aload_n C dX8_inputs_53 rfl (lv_at hl 0 rfl) ?_
    refine v_getR C iX8_inputs_X8 k_30 rfl rfl (j := 14) rfl (by decide) rfl (C.w 5 rfl) dX8_inputs_54 ?_
    refine v_iload_n C dX8_inputs_57 rfl (lv_at hl 1 rfl) ?_
    refine v_iald C k_44 rfl hx dX8_inputs_58 ?_
    refine v_icmp_lt (tgt := 102) C dX8_inputs_59 (by decide) (fun c_3 => ?_) (fun c_3 => ?_)
    · refine v_iinc (k0 := 1) (v := _ + 1) (lv' := [(1, _), (0, _)]) C dX8_inputs_102 hl rfl rfl (by decide) rfl (fun ls hl => ?_)
      refine v_goto (tgt := 2) C dX8_inputs_105 (by decide) ?_
      exact VW.st (Eq.symm ((if_neg c_2).trans ((if_pos c_3).trans rfl))) (K ls _ rfl (lv_sub hl [1, 0] rfl))
    · refine v_aload_n C dX8_inputs_62 rfl (lv_at hl 0 rfl) ?_
      refine v_getR C iX8_inputs_X8 k_30 rfl rfl (j := 13) rfl (by decide) rfl (C.w 4 rfl) dX8_inputs_63 ?_
      refine v_iload_n C dX8_inputs_66 rfl (lv_at hl 1 rfl) ?_
      refine v_aload_n C dX8_inputs_67 rfl (lv_at hl 0 rfl) ?_
      refine v_getR C iX8_inputs_X8 k_30 rfl rfl (j := 12) rfl (by decide) rfl (C.w 3 rfl) dX8_inputs_68 ?_
      refine v_iload_n C dX8_inputs_71 rfl (lv_at hl 1 rfl) ?_
      refine v_iald C k_42 rfl hx dX8_inputs_72 ?_
      refine v_iast C k_43 rfl hx dX8_inputs_73 ?_
      refine v_aload_n C dX8_inputs_74 rfl (lv_at hl 0 rfl) ?_
      refine v_getR C iX8_inputs_X8 k_30 rfl rfl (j := 15) rfl (by decide) rfl (C.w 2 rfl) dX8_inputs_75 ?_
      refine v_iload_n C dX8_inputs_78 rfl (lv_at hl 1 rfl) ?_
      refine v_iconst (v := 0) C dX8_inputs_79 (by decide) ?_
      refine v_iast C k_45 rfl hx dX8_inputs_80 ?_
      refine v_aload_n C dX8_inputs_81 rfl (lv_at hl 0 rfl) ?_
      refine v_getR C iX8_inputs_X8 k_30 rfl rfl (j := 16) rfl (by decide) rfl (C.w 1 rfl) dX8_inputs_82 ?_
      refine v_iload_n C dX8_inputs_85 rfl (lv_at hl 1 rfl) ?_
      refine v_aload_n C dX8_inputs_86 rfl (lv_at hl 0 rfl) ?_
      refine v_getR C iX8_inputs_X8 k_30 rfl rfl (j := 12) rfl (by decide) rfl (C.w 3 rfl) dX8_inputs_87 ?_
      refine v_iload_n C dX8_inputs_90 rfl (lv_at hl 1 rfl) ?_
      refine v_iald C k_42 rfl hx dX8_inputs_91 ?_
      refine v_iconst (v := 1) C dX8_inputs_92 (by decide) ?_
      refine v_icmp_ne (tgt := 100) C dX8_inputs_93 (by decide) (fun c_4 => ?_) (fun c_4 => ?_)
      · refine v_iconst (v := 2) C dX8_inputs_100 (by decide) ?_
        refine v_iast C k_46 rfl hx dX8_inputs_101 ?_
        refine v_iinc (k0 := 1) (v := _ + 1) (lv' := [(1, _), (0, _)]) C dX8_inputs_102 hl rfl rfl (by decide) rfl (fun ls hl => ?_)
        refine v_goto (tgt := 2) C dX8_inputs_105 (by decide) ?_
        exact VW.st (Eq.symm ((if_neg c_2).trans ((if_neg c_3).trans ((if_neg c_4).trans rfl)))) (K ls _ rfl (lv_sub hl [1, 0] rfl))
      · refine v_iconst (v := 1) C dX8_inputs_96 (by decide) ?_
        refine v_goto (tgt := 101) C dX8_inputs_97 (by decide) ?_
        refine v_iast C k_46 rfl hx dX8_inputs_101 ?_
        refine v_iinc (k0 := 1) (v := _ + 1) (lv' := [(1, _), (0, _)]) C dX8_inputs_102 hl rfl rfl (by decide) rfl (fun ls hl => ?_)
        refine v_goto (tgt := 2) C dX8_inputs_105 (by decide) ?_
        exact VW.st (Eq.symm ((if_neg c_2).trans ((if_neg c_3).trans ((if_pos c_4).trans rfl)))) (K ls _ rfl (lv_sub hl [1, 0] rfl))
  · refine v_iconst (v := 0) C dX8_inputs_34 (by decide) ?_
    refine v_goto (tgt := 46) C dX8_inputs_35 (by decide) ?_
    refine v_iast C k_45 rfl hx dX8_inputs_46 ?_
    refine v_aload_n C dX8_inputs_47 rfl (lv_at hl 0 rfl) ?_
    refine v_getR C iX8_inputs_X8 k_30 rfl rfl (j := 15) rfl (by decide) rfl (C.w 2 rfl) dX8_inputs_48 ?_
    refine v_iload_n C dX8_inputs_51 rfl (lv_at hl 1 rfl) ?_
    refine v_iald C k_45 rfl hx dX8_inputs_52 ?_
    refine v_aload_n C dX8_inputs_53 rfl (lv_at hl 0 rfl) ?_
    refine v_getR C iX8_inputs_X8 k_30 rfl rfl (j := 14) rfl (by decide) rfl (C.w 5 rfl) dX8_inputs_54 ?_
    refine v_iload_n C dX8_inputs_57 rfl (lv_at hl 1 rfl) ?_
    refine v_iald C k_44 rfl hx dX8_inputs_58 ?_
    refine v_icmp_lt (tgt := 102) C dX8_inputs_59 (by decide) (fun c_5 => ?_) (fun c_5 => ?_)
    · refine v_iinc (k0 := 1) (v := _ + 1) (lv' := [(1, _), (0, _)]) C dX8_inputs_102 hl rfl rfl (by decide) rfl (fun ls hl => ?_)
      refine v_goto (tgt := 2) C dX8_inputs_105 (by decide) ?_
      exact VW.st (Eq.symm ((if_pos c_2).trans ((if_pos c_5).trans rfl))) (K ls _ rfl (lv_sub hl [1, 0] rfl))
    · refine v_aload_n C dX8_inputs_62 rfl (lv_at hl 0 rfl) ?_
      refine v_getR C iX8_inputs_X8 k_30 rfl rfl (j := 13) rfl (by decide) rfl (C.w 4 rfl) dX8_inputs_63 ?_
      refine v_iload_n C dX8_inputs_66 rfl (lv_at hl 1 rfl) ?_
      refine v_aload_n C dX8_inputs_67 rfl (lv_at hl 0 rfl) ?_
      refine v_getR C iX8_inputs_X8 k_30 rfl rfl (j := 12) rfl (by decide) rfl (C.w 3 rfl) dX8_inputs_68 ?_
      refine v_iload_n C dX8_inputs_71 rfl (lv_at hl 1 rfl) ?_
      refine v_iald C k_42 rfl hx dX8_inputs_72 ?_
      refine v_iast C k_43 rfl hx dX8_inputs_73 ?_
      refine v_aload_n C dX8_inputs_74 rfl (lv_at hl 0 rfl) ?_
      refine v_getR C iX8_inputs_X8 k_30 rfl rfl (j := 15) rfl (by decide) rfl (C.w 2 rfl) dX8_inputs_75 ?_
      refine v_iload_n C dX8_inputs_78 rfl (lv_at hl 1 rfl) ?_
      refine v_iconst (v := 0) C dX8_inputs_79 (by decide) ?_
      refine v_iast C k_45 rfl hx dX8_inputs_80 ?_
      refine v_aload_n C dX8_inputs_81 rfl (lv_at hl 0 rfl) ?_
      refine v_getR C iX8_inputs_X8 k_30 rfl rfl (j := 16) rfl (by decide) rfl (C.w 1 rfl) dX8_inputs_82 ?_
      refine v_iload_n C dX8_inputs_85 rfl (lv_at hl 1 rfl) ?_
      refine v_aload_n C dX8_inputs_86 rfl (lv_at hl 0 rfl) ?_
      refine v_getR C iX8_inputs_X8 k_30 rfl rfl (j := 12) rfl (by decide) rfl (C.w 3 rfl) dX8_inputs_87 ?_
      refine v_iload_n C dX8_inputs_90 rfl (lv_at hl 1 rfl) ?_
      refine v_iald C k_42 rfl hx dX8_inputs_91 ?_
      refine v_iconst (v := 1) C dX8_inputs_92 (by decide) ?_
      refine v_icmp_ne (tgt := 100) C dX8_inputs_93 (by decide) (fun c_6 => ?_) (fun c_6 => ?_)
      · refine v_iconst (v := 2) C dX8_inputs_100 (by decide) ?_
        refine v_iast C k_46 rfl hx dX8_inputs_101 ?_
        refine v_iinc (k0 := 1) (v := _ + 1) (lv' := [(1, _), (0, _)]) C dX8_inputs_102 hl rfl rfl (by decide) rfl (fun ls hl => ?_)
        refine v_goto (tgt := 2) C dX8_inputs_105 (by decide) ?_
        exact VW.st (Eq.symm ((if_pos c_2).trans ((if_neg c_5).trans ((if_neg c_6).trans rfl)))) (K ls _ rfl (lv_sub hl [1, 0] rfl))
      · refine v_iconst (v := 1) C dX8_inputs_96 (by decide) ?_
        refine v_goto (tgt := 101) C dX8_inputs_97 (by decide) ?_
        refine v_iast C k_46 rfl hx dX8_inputs_101 ?_
        refine v_iinc (k0 := 1) (v := _ + 1) (lv' := [(1, _), (0, _)]) C dX8_inputs_102 hl rfl rfl (by decide) rfl (fun ls hl => ?_)
        refine v_goto (tgt := 2) C dX8_inputs_105 (by decide) ?_
        exact VW.st (Eq.symm ((if_pos c_2).trans ((if_neg c_5).trans ((if_pos c_6).trans rfl)))) (K ls _ rfl (lv_sub hl [1, 0] rfl))
def X8_inputs_s (t : ct_St) : ct_St :=
  let t1 := X8_inputs_it 0 t
  let t2 := X8_inputs_it 1 t1
  let t3 := X8_inputs_it 2 t2
  let t4 := X8_inputs_it 3 t3
  t4
set_option maxHeartbeats 4000000 in
set_option maxRecDepth 100000 in
theorem c_X8_inputs (l : Launch) (g : ct_G) (t : ct_St) : MV l g shG yX8_inputs wsX8_inputs (rmd 0) [.ref (g.2.1 30)] t (X8_inputs_s t) := by
  refine MV.of (own := RX8) (cc := cX8_inputs) (maxL := 2) rfl (by decide) rfl (Nat.le_of_ble_eq_true rfl) (fun p e s m args below meth cd A Q C hret ls hl => ?_)
  have hl : lv_has ls 2 [(0, .ref (g.2.1 30))] := hl
  refine v_iconst (v := 0) C dX8_inputs_0 (by decide) ?_
  refine v_istore_n (lv' := [(1, _), (0, _)]) C dX8_inputs_1 rfl hl (by decide) rfl (fun ls hl => ?_)
  refine cb_X8_inputs l g C _ 0 vl_0_4 (fun ls x1 hx1 hl => ?_) ls (lv_sub hl [1, 0] rfl)
  obtain rfl : x1 = 1 := hx1.trans (by decide)
  refine cb_X8_inputs l g C _ 1 vl_1_4 (fun ls x1 hx1 hl => ?_) ls (lv_sub hl [0, 1] rfl)
  obtain rfl : x1 = 2 := hx1.trans (by decide)
  refine cb_X8_inputs l g C _ 2 vl_2_4 (fun ls x1 hx1 hl => ?_) ls (lv_sub hl [0, 1] rfl)
  obtain rfl : x1 = 3 := hx1.trans (by decide)
  refine cb_X8_inputs l g C _ 3 vl_3_4 (fun ls x1 hx1 hl => ?_) ls (lv_sub hl [0, 1] rfl)
  obtain rfl : x1 = 4 := hx1.trans (by decide)
  refine v_iload_n C dX8_inputs_2 rfl (lv_at hl 1 rfl) ?_
  refine v_iconst (v := 4) C dX8_inputs_3 (by decide) ?_
  refine v_icmp_ge (tgt := 108) C dX8_inputs_4 (by decide) (fun _ => ?_) (fun h => absurd h (by decide))
  exact hret _ _ _ rfl dX8_inputs_108
theorem ok_X8_inputs_s (t : ct_St) (h : okM t) : okM (X8_inputs_s t) := by
  dsimp only [X8_inputs_s]
  exact ok_X8_inputs_it _ _ (ok_X8_inputs_it _ _ (ok_X8_inputs_it _ _ (ok_X8_inputs_it _ _ h)))
theorem X8_inputs_s_fr (t : ct_St) {r : Nat} (h43 : r ≠ 43) (h45 : r ≠ 45) (h46 : r ≠ 46) : X8_inputs_s t r = t r := by
  dsimp only [X8_inputs_s]
  (repeat' split) <;> simp only [us_ne, ur_ne, h43, h45, h46, ne_eq, not_false_eq_true, X8_inputs_it_fr]
theorem iX8_catchers_X8 : ∀ w ∈ wsX80, w ∈ wsX8_catchers := fun _ h => (List.mem_cons_of_mem _ (List.mem_append_right _ h))
theorem hv_X8_catchers : yX8_catchers.cls = RX8 ∧ yX8_catchers.cls ≠ "java/lang/invoke/MethodHandle" ∧ yX8_catchers.cls ≠ "java/lang/invoke/VarHandle" ∧ (parseMethodDescriptor yX8_catchers.desc).map (fun d => d.parameters.length) = some 0 := by decide +kernel
def X8_catchers_it (x : Int32) (t : ct_St) : ct_St :=
  if t 46 (ix x) = 0 then
    let t1 := us t 50 (ix x) ((t 50 (ix x)) + 0)
    t1
  else
    if (t 48 (ix x)) &&& (t 46 (ix x)) = 0 then
      let t2 := us t 50 (ix x) ((t 50 (ix x)) + 0)
      t2
    else
      let t3 := us t 50 (ix x) ((t 50 (ix x)) + 1)
      if (t3 50 (ix x)) - (t3 50 (ix x)) / (t3 49 (ix x)) * (t3 49 (ix x)) = 0 then
        let t4 := us t3 53 (ix x) ((t3 53 (ix x)) + (t3 52 (ix x)))
        let t5 := us t4 51 (ix x) (t4 35 (ix (t4 47 (ix x))))
        let t6 := us t5 52 (ix x) 1
        t6
      else
        t3
theorem X8_catchers_it_fr (x : Int32) (t : ct_St) {r : Nat} (h50 : r ≠ 50) (h51 : r ≠ 51) (h52 : r ≠ 52) (h53 : r ≠ 53) : X8_catchers_it x t r = t r := by
  dsimp only [X8_catchers_it]
  (repeat' split) <;> simp only [us_ne, ur_ne, h50, h51, h52, h53, ne_eq, not_false_eq_true]
theorem ok_X8_catchers_it (x : Int32) (t : ct_St) (h : okM t) : okM (X8_catchers_it x t) := okM_of h (X8_catchers_it_fr x t (by decide) (by decide) (by decide) (by decide)) (by rw [X8_catchers_it_fr x t (by decide) (by decide) (by decide) (by decide)]; exact h.2.1) (X8_catchers_it_fr x t (by decide) (by decide) (by decide) (by decide)) (X8_catchers_it_fr x t (by decide) (by decide) (by decide) (by decide)) (X8_catchers_it_fr x t (by decide) (by decide) (by decide) (by decide)) (X8_catchers_it_fr x t (by decide) (by decide) (by decide) (by decide))
set_option maxHeartbeats 4000000 in
set_option maxRecDepth 100000 in
theorem cb_X8_catchers {p : Program} {e : Env} {s : State} {m : MethodId} {args : Array Value} {below : List Frame} {meth : Method} {cd : Code} {A : Nat → Prop} {Q : State → Prop} (l : Launch) (g : ct_G) (C : Cx p s m args cd A g cX8_catchers RX8 wsX8_catchers 3) (t : ct_St) (x : Int32) (hx : vp_in x 4) (hc : okM t) (K : ∀ (ls : Array Slot) (x1 : Int32), x1 = x + 1 → lv_has ls 3 [(0, .ref (g.2.1 30)), (1, .int x1)] → VW p l e (rmd 0) s m args below meth cd 0 0 Q A g shG (X8_catchers_it x t) (F0 m 2 ls [])) (ls : Array Slot) (hl : lv_has ls 3 [(0, .ref (g.2.1 30)), (1, .int x)]) : VW p l e (rmd 0) s m args below meth cd 0 0 Q A g shG t (F0 m 2 ls []) := by
  refine v_iload_n C dX8_catchers_2 rfl (lv_at hl 1 rfl) ?_
  refine v_iconst (v := 4) C dX8_catchers_3 (by decide) ?_
  refine v_icmp_ge (tgt := 121) C dX8_catchers_4 (by decide) (fun h => absurd h ((vp_nle hx (by decide)))) (fun _ => ?_)
  refine v_aload_n C dX8_catchers_7 rfl (lv_at hl 0 rfl) ?_
  refine v_getR C iX8_catchers_X8 k_30 rfl rfl (j := 16) rfl (by decide) rfl (C.w 1 rfl) dX8_catchers_8 ?_
  refine v_iload_n C dX8_catchers_11 rfl (lv_at hl 1 rfl) ?_
  refine v_iald C k_46 rfl hx dX8_catchers_12 ?_
  refine v_if_eq (tgt := 36) C dX8_catchers_13 (by decide) (fun c_2 => ?_) (fun c_2 => ?_)
  · refine v_iconst (v := 0) C dX8_catchers_36 (by decide) ?_
    refine v_istore_n (lv' := [(2, _), (0, _), (1, _)]) C dX8_catchers_37 rfl hl (by decide) rfl (fun ls hl => ?_)
    refine v_aload_n C dX8_catchers_38 rfl (lv_at hl 1 rfl) ?_
    refine v_getR C iX8_catchers_X8 k_30 rfl rfl (j := 20) rfl (by decide) rfl (C.w 3 rfl) dX8_catchers_39 ?_
    refine v_iload_n C dX8_catchers_42 rfl (lv_at hl 2 rfl) ?_
    refine v_dup2 C dX8_catchers_43 rfl rfl ?_
    refine v_iald C k_50 rfl hx dX8_catchers_44 ?_
    refine v_iload_n C dX8_catchers_45 rfl (lv_at hl 0 rfl) ?_
    refine v_if_eq (tgt := 53) C dX8_catchers_46 (by decide) (fun _ => ?_) (fun h => absurd h (by decide))
    refine v_iconst (v := 0) C dX8_catchers_53 (by decide) ?_
    refine v_iadd C dX8_catchers_54 ?_
    refine v_iast C k_50 rfl hx dX8_catchers_55 ?_
    refine v_iload_n C dX8_catchers_56 rfl (lv_at hl 0 rfl) ?_
    refine v_if_eq (tgt := 115) C dX8_catchers_57 (by decide) (fun _ => ?_) (fun h => absurd h (by decide))
    refine v_iinc (k0 := 2) (v := _ + 1) (lv' := [(1, _), (2, _), (0, _)]) C dX8_catchers_115 hl rfl rfl (by decide) rfl (fun ls hl => ?_)
    refine v_goto (tgt := 2) C dX8_catchers_118 (by decide) ?_
    exact VW.st (Eq.symm ((if_pos c_2).trans rfl)) (K ls _ rfl (lv_sub hl [2, 0] rfl))
  · refine v_aload_n C dX8_catchers_16 rfl (lv_at hl 0 rfl) ?_
    refine v_getR C iX8_catchers_X8 k_30 rfl rfl (j := 18) rfl (by decide) rfl (C.w 2 rfl) dX8_catchers_17 ?_
    refine v_iload_n C dX8_catchers_20 rfl (lv_at hl 1 rfl) ?_
    refine v_iald C k_48 rfl hx dX8_catchers_21 ?_
    refine v_aload_n C dX8_catchers_22 rfl (lv_at hl 0 rfl) ?_
    refine v_getR C iX8_catchers_X8 k_30 rfl rfl (j := 16) rfl (by decide) rfl (C.w 1 rfl) dX8_catchers_23 ?_
    refine v_iload_n C dX8_catchers_26 rfl (lv_at hl 1 rfl) ?_
    refine v_iald C k_46 rfl hx dX8_catchers_27 ?_
    refine v_iand C dX8_catchers_28 ?_
    refine v_if_eq (tgt := 36) C dX8_catchers_29 (by decide) (fun c_5 => ?_) (fun c_5 => ?_)
    · refine v_iconst (v := 0) C dX8_catchers_36 (by decide) ?_
      refine v_istore_n (lv' := [(2, _), (0, _), (1, _)]) C dX8_catchers_37 rfl hl (by decide) rfl (fun ls hl => ?_)
      refine v_aload_n C dX8_catchers_38 rfl (lv_at hl 1 rfl) ?_
      refine v_getR C iX8_catchers_X8 k_30 rfl rfl (j := 20) rfl (by decide) rfl (C.w 3 rfl) dX8_catchers_39 ?_
      refine v_iload_n C dX8_catchers_42 rfl (lv_at hl 2 rfl) ?_
      refine v_dup2 C dX8_catchers_43 rfl rfl ?_
      refine v_iald C k_50 rfl hx dX8_catchers_44 ?_
      refine v_iload_n C dX8_catchers_45 rfl (lv_at hl 0 rfl) ?_
      refine v_if_eq (tgt := 53) C dX8_catchers_46 (by decide) (fun _ => ?_) (fun h => absurd h (by decide))
      refine v_iconst (v := 0) C dX8_catchers_53 (by decide) ?_
      refine v_iadd C dX8_catchers_54 ?_
      refine v_iast C k_50 rfl hx dX8_catchers_55 ?_
      refine v_iload_n C dX8_catchers_56 rfl (lv_at hl 0 rfl) ?_
      refine v_if_eq (tgt := 115) C dX8_catchers_57 (by decide) (fun _ => ?_) (fun h => absurd h (by decide))
      refine v_iinc (k0 := 2) (v := _ + 1) (lv' := [(1, _), (2, _), (0, _)]) C dX8_catchers_115 hl rfl rfl (by decide) rfl (fun ls hl => ?_)
      refine v_goto (tgt := 2) C dX8_catchers_118 (by decide) ?_
      exact VW.st (Eq.symm ((if_neg c_2).trans ((if_pos c_5).trans rfl))) (K ls _ rfl (lv_sub hl [2, 0] rfl))
    · refine v_iconst (v := 1) C dX8_catchers_32 (by decide) ?_
      refine v_goto (tgt := 37) C dX8_catchers_33 (by decide) ?_
      refine v_istore_n (lv' := [(2, _), (0, _), (1, _)]) C dX8_catchers_37 rfl hl (by decide) rfl (fun ls hl => ?_)
      refine v_aload_n C dX8_catchers_38 rfl (lv_at hl 1 rfl) ?_
      refine v_getR C iX8_catchers_X8 k_30 rfl rfl (j := 20) rfl (by decide) rfl (C.w 3 rfl) dX8_catchers_39 ?_
      refine v_iload_n C dX8_catchers_42 rfl (lv_at hl 2 rfl) ?_
      refine v_dup2 C dX8_catchers_43 rfl rfl ?_
      refine v_iald C k_50 rfl hx dX8_catchers_44 ?_
      refine v_iload_n C dX8_catchers_45 rfl (lv_at hl 0 rfl) ?_
      refine v_if_eq (tgt := 53) C dX8_catchers_46 (by decide) (fun h => absurd h (by decide)) (fun _ => ?_)
      refine v_iconst (v := 1) C dX8_catchers_49 (by decide) ?_
      refine v_goto (tgt := 54) C dX8_catchers_50 (by decide) ?_
      refine v_iadd C dX8_catchers_54 ?_
      refine v_iast C k_50 rfl hx dX8_catchers_55 ?_
      refine v_iload_n C dX8_catchers_56 rfl (lv_at hl 0 rfl) ?_
      refine v_if_eq (tgt := 115) C dX8_catchers_57 (by decide) (fun h => absurd h (by decide)) (fun _ => ?_)
      refine v_aload_n C dX8_catchers_60 rfl (lv_at hl 1 rfl) ?_
      refine v_getR C iX8_catchers_X8 k_30 rfl rfl (j := 20) rfl (by decide) rfl (C.w 3 rfl) dX8_catchers_61 ?_
      refine v_iload_n C dX8_catchers_64 rfl (lv_at hl 2 rfl) ?_
      refine v_iald C k_50 rfl hx dX8_catchers_65 ?_
      refine v_aload_n C dX8_catchers_66 rfl (lv_at hl 1 rfl) ?_
      refine v_getR C iX8_catchers_X8 k_30 rfl rfl (j := 19) rfl (by decide) rfl (C.w 4 rfl) dX8_catchers_67 ?_
      refine v_iload_n C dX8_catchers_70 rfl (lv_at hl 2 rfl) ?_
      refine v_iald C k_49 rfl hx dX8_catchers_71 ?_
      refine v_irem C dX8_catchers_72 (hc.2.2.1 _ (vp_lt hx)) ?_
      refine v_if_ne (tgt := 115) C dX8_catchers_73 (by decide) (fun c_10 => ?_) (fun c_10 => ?_)
      · refine v_iinc (k0 := 2) (v := _ + 1) (lv' := [(1, _), (2, _), (0, _)]) C dX8_catchers_115 hl rfl rfl (by decide) rfl (fun ls hl => ?_)
        refine v_goto (tgt := 2) C dX8_catchers_118 (by decide) ?_
        exact VW.st (Eq.symm ((if_neg c_2).trans ((if_neg c_5).trans ((if_neg c_10).trans rfl)))) (K ls _ rfl (lv_sub hl [2, 0] rfl))
      · refine v_aload_n C dX8_catchers_76 rfl (lv_at hl 1 rfl) ?_
        refine v_getR C iX8_catchers_X8 k_30 rfl rfl (j := 23) rfl (by decide) rfl (C.w 5 rfl) dX8_catchers_77 ?_
        refine v_iload_n C dX8_catchers_80 rfl (lv_at hl 2 rfl) ?_
        refine v_dup2 C dX8_catchers_81 rfl rfl ?_
        refine v_iald C k_53 rfl hx dX8_catchers_82 ?_
        refine v_aload_n C dX8_catchers_83 rfl (lv_at hl 1 rfl) ?_
        refine v_getR C iX8_catchers_X8 k_30 rfl rfl (j := 22) rfl (by decide) rfl (C.w 6 rfl) dX8_catchers_84 ?_
        refine v_iload_n C dX8_catchers_87 rfl (lv_at hl 2 rfl) ?_
        refine v_iald C k_52 rfl hx dX8_catchers_88 ?_
        refine v_iadd C dX8_catchers_89 ?_
        refine v_iast C k_53 rfl hx dX8_catchers_90 ?_
        refine v_aload_n C dX8_catchers_91 rfl (lv_at hl 1 rfl) ?_
        refine v_getR C iX8_catchers_X8 k_30 rfl rfl (j := 21) rfl (by decide) rfl (C.w 7 rfl) dX8_catchers_92 ?_
        refine v_iload_n C dX8_catchers_95 rfl (lv_at hl 2 rfl) ?_
        refine v_aload_n C dX8_catchers_96 rfl (lv_at hl 1 rfl) ?_
        refine v_getR C iX8_catchers_X8 k_30 rfl rfl (j := 5) rfl (by decide) rfl (C.w 8 rfl) dX8_catchers_97 ?_
        refine v_aload_n C dX8_catchers_100 rfl (lv_at hl 1 rfl) ?_
        refine v_getR C iX8_catchers_X8 k_30 rfl rfl (j := 17) rfl (by decide) rfl (C.w 9 rfl) dX8_catchers_101 ?_
        refine v_iload_n C dX8_catchers_104 rfl (lv_at hl 2 rfl) ?_
        refine v_iald C k_47 rfl hx dX8_catchers_105 ?_
        refine v_iald C k_35 rfl (hc.2.2.2.1 _ (vp_lt hx)) dX8_catchers_106 ?_
        refine v_iast C k_51 rfl hx dX8_catchers_107 ?_
        refine v_aload_n C dX8_catchers_108 rfl (lv_at hl 1 rfl) ?_
        refine v_getR C iX8_catchers_X8 k_30 rfl rfl (j := 22) rfl (by decide) rfl (C.w 6 rfl) dX8_catchers_109 ?_
        refine v_iload_n C dX8_catchers_112 rfl (lv_at hl 2 rfl) ?_
        refine v_iconst (v := 1) C dX8_catchers_113 (by decide) ?_
        refine v_iast C k_52 rfl hx dX8_catchers_114 ?_
        refine v_iinc (k0 := 2) (v := _ + 1) (lv' := [(1, _), (2, _), (0, _)]) C dX8_catchers_115 hl rfl rfl (by decide) rfl (fun ls hl => ?_)
        refine v_goto (tgt := 2) C dX8_catchers_118 (by decide) ?_
        exact VW.st (Eq.symm ((if_neg c_2).trans ((if_neg c_5).trans ((if_pos c_10).trans rfl)))) (K ls _ rfl (lv_sub hl [2, 0] rfl))
def X8_catchers_s (t : ct_St) : ct_St :=
  let t1 := X8_catchers_it 0 t
  let t2 := X8_catchers_it 1 t1
  let t3 := X8_catchers_it 2 t2
  let t4 := X8_catchers_it 3 t3
  t4
set_option maxHeartbeats 4000000 in
set_option maxRecDepth 100000 in
theorem c_X8_catchers (l : Launch) (g : ct_G) (t : ct_St) (hc : okM t) : MV l g shG yX8_catchers wsX8_catchers (rmd 0) [.ref (g.2.1 30)] t (X8_catchers_s t) := by
  refine MV.of (own := RX8) (cc := cX8_catchers) (maxL := 3) rfl (by decide) rfl (Nat.le_of_ble_eq_true rfl) (fun p e s m args below meth cd A Q C hret ls hl => ?_)
  have hl : lv_has ls 3 [(0, .ref (g.2.1 30))] := hl
  refine v_iconst (v := 0) C dX8_catchers_0 (by decide) ?_
  refine v_istore_n (lv' := [(1, _), (0, _)]) C dX8_catchers_1 rfl hl (by decide) rfl (fun ls hl => ?_)
  refine cb_X8_catchers l g C _ 0 vl_0_4 hc (fun ls x1 hx1 hl => ?_) ls (lv_sub hl [1, 0] rfl)
  obtain rfl : x1 = 1 := hx1.trans (by decide)
  refine cb_X8_catchers l g C _ 1 vl_1_4 (ok_X8_catchers_it _ _ hc) (fun ls x1 hx1 hl => ?_) ls (lv_sub hl [0, 1] rfl)
  obtain rfl : x1 = 2 := hx1.trans (by decide)
  refine cb_X8_catchers l g C _ 2 vl_2_4 (ok_X8_catchers_it _ _ (ok_X8_catchers_it _ _ hc)) (fun ls x1 hx1 hl => ?_) ls (lv_sub hl [0, 1] rfl)
  obtain rfl : x1 = 3 := hx1.trans (by decide)
  refine cb_X8_catchers l g C _ 3 vl_3_4 (ok_X8_catchers_it _ _ (ok_X8_catchers_it _ _ (ok_X8_catchers_it _ _ hc))) (fun ls x1 hx1 hl => ?_) ls (lv_sub hl [0, 1] rfl)
  obtain rfl : x1 = 4 := hx1.trans (by decide)
  refine v_iload_n C dX8_catchers_2 rfl (lv_at hl 1 rfl) ?_
  refine v_iconst (v := 4) C dX8_catchers_3 (by decide) ?_
  refine v_icmp_ge (tgt := 121) C dX8_catchers_4 (by decide) (fun _ => ?_) (fun h => absurd h (by decide))
  exact hret _ _ _ rfl dX8_catchers_121
theorem ok_X8_catchers_s (t : ct_St) (h : okM t) : okM (X8_catchers_s t) := by
  dsimp only [X8_catchers_s]
  exact ok_X8_catchers_it _ _ (ok_X8_catchers_it _ _ (ok_X8_catchers_it _ _ (ok_X8_catchers_it _ _ h)))
theorem X8_catchers_s_fr (t : ct_St) {r : Nat} (h50 : r ≠ 50) (h51 : r ≠ 51) (h52 : r ≠ 52) (h53 : r ≠ 53) : X8_catchers_s t r = t r := by
  dsimp only [X8_catchers_s]
  (repeat' split) <;> simp only [us_ne, ur_ne, h50, h51, h52, h53, ne_eq, not_false_eq_true, X8_catchers_it_fr]
theorem iX8_levelThen_X8 : ∀ w ∈ wsX80, w ∈ wsX8_levelThen := fun _ h => (List.mem_cons_of_mem _ (List.mem_append_right _ h))
theorem hv_X8_levelThen : yX8_levelThen.cls = RX8 ∧ yX8_levelThen.cls ≠ "java/lang/invoke/MethodHandle" ∧ yX8_levelThen.cls ≠ "java/lang/invoke/VarHandle" ∧ (parseMethodDescriptor yX8_levelThen.desc).map (fun d => d.parameters.length) = some 1 := by decide +kernel
def X8_levelThen_r (a1 : Int32) (t : ct_St) : Int32 :=
  let x1 := t 54 (ix a1)
  if t 40 (ix x1) = 0 then
    if t 55 (ix a1) = 0 then
      0
    else
      if t 55 (ix a1) = 1 then
        if t 56 (ix a1) ≤ t 35 (ix x1) then
          0
        else
          1
      else
        if t 55 (ix a1) = 2 then
          if t 56 (ix a1) ≤ t 35 (ix x1) then
            1
          else
            0
        else
          if t 55 (ix a1) = 3 then
            t 57 (ix a1)
          else
            t 57 (ix a1)
  else
    if t 35 (ix x1) = t 56 (ix a1) then
      if t 55 (ix a1) = 0 then
        0
      else
        if t 55 (ix a1) = 1 then
          if t 56 (ix a1) ≤ t 35 (ix x1) then
            0
          else
            1
        else
          if t 55 (ix a1) = 2 then
            if t 56 (ix a1) ≤ t 35 (ix x1) then
              1
            else
              0
          else
            if t 55 (ix a1) = 3 then
              1 - (t 57 (ix a1))
            else
              1
    else
      if t 55 (ix a1) = 0 then
        0
      else
        if t 55 (ix a1) = 1 then
          if t 56 (ix a1) ≤ t 35 (ix x1) then
            0
          else
            1
        else
          if t 55 (ix a1) = 2 then
            if t 56 (ix a1) ≤ t 35 (ix x1) then
              1
            else
              0
          else
            if t 55 (ix a1) = 3 then
              t 57 (ix a1)
            else
              t 57 (ix a1)
set_option maxHeartbeats 4000000 in
set_option maxRecDepth 100000 in
theorem c_X8_levelThen (l : Launch) (g : ct_G) (t : ct_St) (a1 : Int32) (h1 : vp_in a1 4) (h2 : vp_in (t 54 (ix a1)) 4) : MI l g shG yX8_levelThen wsX8_levelThen (rmd 0) [.ref (g.2.1 30), .int a1] t (X8_levelThen_r a1 t) t := by
  refine MI.of (own := RX8) (cc := cX8_levelThen) (maxL := 4) rfl (by decide) rfl (Nat.le_of_ble_eq_true rfl) (fun p e s m args below meth cd A Q C hret ls hl => ?_)
  have hl : lv_has ls 4 [(0, .ref (g.2.1 30)), (1, .int a1)] := hl
  refine v_aload_n C dX8_levelThen_0 rfl (lv_at hl 0 rfl) ?_
  refine v_getR C iX8_levelThen_X8 k_30 rfl rfl (j := 24) rfl (by decide) rfl (C.w 1 rfl) dX8_levelThen_1 ?_
  refine v_iload_n C dX8_levelThen_4 rfl (lv_at hl 1 rfl) ?_
  refine v_iald C k_54 rfl h1 dX8_levelThen_5 ?_
  refine v_istore_n (lv' := [(2, _), (0, _), (1, _)]) C dX8_levelThen_6 rfl hl (by decide) rfl (fun ls hl => ?_)
  refine v_aload_n C dX8_levelThen_7 rfl (lv_at hl 1 rfl) ?_
  refine v_getR C iX8_levelThen_X8 k_30 rfl rfl (j := 10) rfl (by decide) rfl (C.w 2 rfl) dX8_levelThen_8 ?_
  refine v_iload_n C dX8_levelThen_11 rfl (lv_at hl 0 rfl) ?_
  refine v_zald C k_40 rfl h2 dX8_levelThen_12 ?_
  refine v_if_eq (tgt := 35) C dX8_levelThen_13 (by decide) (fun c_1 => ?_) (fun c_1 => ?_)
  · refine v_iconst (v := 0) C dX8_levelThen_35 (by decide) ?_
    refine v_istore_n (lv' := [(3, _), (2, _), (0, _), (1, _)]) C dX8_levelThen_36 rfl hl (by decide) rfl (fun ls hl => ?_)
    refine v_aload_n C dX8_levelThen_37 rfl (lv_at hl 2 rfl) ?_
    refine v_getR C iX8_levelThen_X8 k_30 rfl rfl (j := 25) rfl (by decide) rfl (C.w 5 rfl) dX8_levelThen_38 ?_
    refine v_iload_n C dX8_levelThen_41 rfl (lv_at hl 3 rfl) ?_
    refine v_iald C k_55 rfl h1 dX8_levelThen_42 ?_
    refine v_by (v := 0) (fun c_2 => ?_) (fun c_2 => ?_)
    · refine v_tabIn (off := 29) (tgt := 72) C dX8_levelThen_43 c_2 (by decide) (by decide) (by decide) (by decide) ?_
      refine v_iconst (v := 0) C dX8_levelThen_72 (by decide) ?_
      exact hret _ _ _ _ (Eq.symm ((if_pos c_1).trans ((if_pos c_2).trans rfl))) rfl dX8_levelThen_73
    · refine v_by (v := 1) (fun c_3 => ?_) (fun c_3 => ?_)
      · refine v_tabIn (off := 31) (tgt := 74) C dX8_levelThen_43 c_3 (by decide) (by decide) (by decide) (by decide) ?_
        refine v_aload_n C dX8_levelThen_74 rfl (lv_at hl 2 rfl) ?_
        refine v_getR C iX8_levelThen_X8 k_30 rfl rfl (j := 5) rfl (by decide) rfl (C.w 3 rfl) dX8_levelThen_75 ?_
        refine v_iload_n C dX8_levelThen_78 rfl (lv_at hl 1 rfl) ?_
        refine v_iald C k_35 rfl h2 dX8_levelThen_79 ?_
        refine v_aload_n C dX8_levelThen_80 rfl (lv_at hl 2 rfl) ?_
        refine v_getR C iX8_levelThen_X8 k_30 rfl rfl (j := 26) rfl (by decide) rfl (C.w 4 rfl) dX8_levelThen_81 ?_
        refine v_iload_n C dX8_levelThen_84 rfl (lv_at hl 3 rfl) ?_
        refine v_iald C k_56 rfl h1 dX8_levelThen_85 ?_
        refine v_icmp_ge (tgt := 93) C dX8_levelThen_86 (by decide) (fun c_4 => ?_) (fun c_4 => ?_)
        · refine v_iconst (v := 0) C dX8_levelThen_93 (by decide) ?_
          exact hret _ _ _ _ (Eq.symm ((if_pos c_1).trans ((if_neg c_2).trans ((if_pos c_3).trans ((if_pos c_4).trans rfl))))) rfl dX8_levelThen_94
        · refine v_iconst (v := 1) C dX8_levelThen_89 (by decide) ?_
          refine v_goto (tgt := 94) C dX8_levelThen_90 (by decide) ?_
          exact hret _ _ _ _ (Eq.symm ((if_pos c_1).trans ((if_neg c_2).trans ((if_pos c_3).trans ((if_neg c_4).trans rfl))))) rfl dX8_levelThen_94
      · refine v_by (v := 2) (fun c_5 => ?_) (fun c_5 => ?_)
        · refine v_tabIn (off := 52) (tgt := 95) C dX8_levelThen_43 c_5 (by decide) (by decide) (by decide) (by decide) ?_
          refine v_aload_n C dX8_levelThen_95 rfl (lv_at hl 2 rfl) ?_
          refine v_getR C iX8_levelThen_X8 k_30 rfl rfl (j := 5) rfl (by decide) rfl (C.w 3 rfl) dX8_levelThen_96 ?_
          refine v_iload_n C dX8_levelThen_99 rfl (lv_at hl 1 rfl) ?_
          refine v_iald C k_35 rfl h2 dX8_levelThen_100 ?_
          refine v_aload_n C dX8_levelThen_101 rfl (lv_at hl 2 rfl) ?_
          refine v_getR C iX8_levelThen_X8 k_30 rfl rfl (j := 26) rfl (by decide) rfl (C.w 4 rfl) dX8_levelThen_102 ?_
          refine v_iload_n C dX8_levelThen_105 rfl (lv_at hl 3 rfl) ?_
          refine v_iald C k_56 rfl h1 dX8_levelThen_106 ?_
          refine v_icmp_ge (tgt := 114) C dX8_levelThen_107 (by decide) (fun c_6 => ?_) (fun c_6 => ?_)
          · refine v_iconst (v := 1) C dX8_levelThen_114 (by decide) ?_
            exact hret _ _ _ _ (Eq.symm ((if_pos c_1).trans ((if_neg c_2).trans ((if_neg c_3).trans ((if_pos c_5).trans ((if_pos c_6).trans rfl)))))) rfl dX8_levelThen_115
          · refine v_iconst (v := 0) C dX8_levelThen_110 (by decide) ?_
            refine v_goto (tgt := 115) C dX8_levelThen_111 (by decide) ?_
            exact hret _ _ _ _ (Eq.symm ((if_pos c_1).trans ((if_neg c_2).trans ((if_neg c_3).trans ((if_pos c_5).trans ((if_neg c_6).trans rfl)))))) rfl dX8_levelThen_115
        · refine v_by (v := 3) (fun c_7 => ?_) (fun c_7 => ?_)
          · refine v_tabIn (off := 73) (tgt := 116) C dX8_levelThen_43 c_7 (by decide) (by decide) (by decide) (by decide) ?_
            refine v_iload_n C dX8_levelThen_116 rfl (lv_at hl 0 rfl) ?_
            refine v_if_eq (tgt := 131) C dX8_levelThen_117 (by decide) (fun _ => ?_) (fun h => absurd h (by decide))
            refine v_aload_n C dX8_levelThen_131 rfl (lv_at hl 2 rfl) ?_
            refine v_getR C iX8_levelThen_X8 k_30 rfl rfl (j := 27) rfl (by decide) rfl (C.w 6 rfl) dX8_levelThen_132 ?_
            refine v_iload_n C dX8_levelThen_135 rfl (lv_at hl 3 rfl) ?_
            refine v_iald C k_57 rfl h1 dX8_levelThen_136 ?_
            exact hret _ _ _ _ (Eq.symm ((if_pos c_1).trans ((if_neg c_2).trans ((if_neg c_3).trans ((if_neg c_5).trans ((if_pos c_7).trans rfl)))))) rfl dX8_levelThen_137
          · refine v_tabOut (tgt := 138) C dX8_levelThen_43 (by have h0 := lv_neT (a := 0) c_2 (by decide); have h1 := lv_neT (a := 1) c_3 (by decide); have h2 := lv_neT (a := 2) c_5 (by decide); have h3 := lv_neT (a := 3) c_7 (by decide); omega) (by decide) ?_
            refine v_iload_n C dX8_levelThen_138 rfl (lv_at hl 0 rfl) ?_
            refine v_if_eq (tgt := 146) C dX8_levelThen_139 (by decide) (fun _ => ?_) (fun h => absurd h (by decide))
            refine v_aload_n C dX8_levelThen_146 rfl (lv_at hl 2 rfl) ?_
            refine v_getR C iX8_levelThen_X8 k_30 rfl rfl (j := 27) rfl (by decide) rfl (C.w 6 rfl) dX8_levelThen_147 ?_
            refine v_iload_n C dX8_levelThen_150 rfl (lv_at hl 3 rfl) ?_
            refine v_iald C k_57 rfl h1 dX8_levelThen_151 ?_
            exact hret _ _ _ _ (Eq.symm ((if_pos c_1).trans ((if_neg c_2).trans ((if_neg c_3).trans ((if_neg c_5).trans ((if_neg c_7).trans rfl)))))) rfl dX8_levelThen_152
  · refine v_aload_n C dX8_levelThen_16 rfl (lv_at hl 1 rfl) ?_
    refine v_getR C iX8_levelThen_X8 k_30 rfl rfl (j := 5) rfl (by decide) rfl (C.w 3 rfl) dX8_levelThen_17 ?_
    refine v_iload_n C dX8_levelThen_20 rfl (lv_at hl 0 rfl) ?_
    refine v_iald C k_35 rfl h2 dX8_levelThen_21 ?_
    refine v_aload_n C dX8_levelThen_22 rfl (lv_at hl 1 rfl) ?_
    refine v_getR C iX8_levelThen_X8 k_30 rfl rfl (j := 26) rfl (by decide) rfl (C.w 4 rfl) dX8_levelThen_23 ?_
    refine v_iload_n C dX8_levelThen_26 rfl (lv_at hl 2 rfl) ?_
    refine v_iald C k_56 rfl h1 dX8_levelThen_27 ?_
    refine v_icmp_ne (tgt := 35) C dX8_levelThen_28 (by decide) (fun c_10 => ?_) (fun c_10 => ?_)
    · refine v_iconst (v := 0) C dX8_levelThen_35 (by decide) ?_
      refine v_istore_n (lv' := [(3, _), (2, _), (0, _), (1, _)]) C dX8_levelThen_36 rfl hl (by decide) rfl (fun ls hl => ?_)
      refine v_aload_n C dX8_levelThen_37 rfl (lv_at hl 2 rfl) ?_
      refine v_getR C iX8_levelThen_X8 k_30 rfl rfl (j := 25) rfl (by decide) rfl (C.w 5 rfl) dX8_levelThen_38 ?_
      refine v_iload_n C dX8_levelThen_41 rfl (lv_at hl 3 rfl) ?_
      refine v_iald C k_55 rfl h1 dX8_levelThen_42 ?_
      refine v_by (v := 0) (fun c_11 => ?_) (fun c_11 => ?_)
      · refine v_tabIn (off := 29) (tgt := 72) C dX8_levelThen_43 c_11 (by decide) (by decide) (by decide) (by decide) ?_
        refine v_iconst (v := 0) C dX8_levelThen_72 (by decide) ?_
        exact hret _ _ _ _ (Eq.symm ((if_neg c_1).trans ((if_neg c_10).trans ((if_pos c_11).trans rfl)))) rfl dX8_levelThen_73
      · refine v_by (v := 1) (fun c_12 => ?_) (fun c_12 => ?_)
        · refine v_tabIn (off := 31) (tgt := 74) C dX8_levelThen_43 c_12 (by decide) (by decide) (by decide) (by decide) ?_
          refine v_aload_n C dX8_levelThen_74 rfl (lv_at hl 2 rfl) ?_
          refine v_getR C iX8_levelThen_X8 k_30 rfl rfl (j := 5) rfl (by decide) rfl (C.w 3 rfl) dX8_levelThen_75 ?_
          refine v_iload_n C dX8_levelThen_78 rfl (lv_at hl 1 rfl) ?_
          refine v_iald C k_35 rfl h2 dX8_levelThen_79 ?_
          refine v_aload_n C dX8_levelThen_80 rfl (lv_at hl 2 rfl) ?_
          refine v_getR C iX8_levelThen_X8 k_30 rfl rfl (j := 26) rfl (by decide) rfl (C.w 4 rfl) dX8_levelThen_81 ?_
          refine v_iload_n C dX8_levelThen_84 rfl (lv_at hl 3 rfl) ?_
          refine v_iald C k_56 rfl h1 dX8_levelThen_85 ?_
          refine v_icmp_ge (tgt := 93) C dX8_levelThen_86 (by decide) (fun c_13 => ?_) (fun c_13 => ?_)
          · refine v_iconst (v := 0) C dX8_levelThen_93 (by decide) ?_
            exact hret _ _ _ _ (Eq.symm ((if_neg c_1).trans ((if_neg c_10).trans ((if_neg c_11).trans ((if_pos c_12).trans ((if_pos c_13).trans rfl)))))) rfl dX8_levelThen_94
          · refine v_iconst (v := 1) C dX8_levelThen_89 (by decide) ?_
            refine v_goto (tgt := 94) C dX8_levelThen_90 (by decide) ?_
            exact hret _ _ _ _ (Eq.symm ((if_neg c_1).trans ((if_neg c_10).trans ((if_neg c_11).trans ((if_pos c_12).trans ((if_neg c_13).trans rfl)))))) rfl dX8_levelThen_94
        · refine v_by (v := 2) (fun c_14 => ?_) (fun c_14 => ?_)
          · refine v_tabIn (off := 52) (tgt := 95) C dX8_levelThen_43 c_14 (by decide) (by decide) (by decide) (by decide) ?_
            refine v_aload_n C dX8_levelThen_95 rfl (lv_at hl 2 rfl) ?_
            refine v_getR C iX8_levelThen_X8 k_30 rfl rfl (j := 5) rfl (by decide) rfl (C.w 3 rfl) dX8_levelThen_96 ?_
            refine v_iload_n C dX8_levelThen_99 rfl (lv_at hl 1 rfl) ?_
            refine v_iald C k_35 rfl h2 dX8_levelThen_100 ?_
            refine v_aload_n C dX8_levelThen_101 rfl (lv_at hl 2 rfl) ?_
            refine v_getR C iX8_levelThen_X8 k_30 rfl rfl (j := 26) rfl (by decide) rfl (C.w 4 rfl) dX8_levelThen_102 ?_
            refine v_iload_n C dX8_levelThen_105 rfl (lv_at hl 3 rfl) ?_
            refine v_iald C k_56 rfl h1 dX8_levelThen_106 ?_
            refine v_icmp_ge (tgt := 114) C dX8_levelThen_107 (by decide) (fun c_15 => ?_) (fun c_15 => ?_)
            · refine v_iconst (v := 1) C dX8_levelThen_114 (by decide) ?_
              exact hret _ _ _ _ (Eq.symm ((if_neg c_1).trans ((if_neg c_10).trans ((if_neg c_11).trans ((if_neg c_12).trans ((if_pos c_14).trans ((if_pos c_15).trans rfl))))))) rfl dX8_levelThen_115
            · refine v_iconst (v := 0) C dX8_levelThen_110 (by decide) ?_
              refine v_goto (tgt := 115) C dX8_levelThen_111 (by decide) ?_
              exact hret _ _ _ _ (Eq.symm ((if_neg c_1).trans ((if_neg c_10).trans ((if_neg c_11).trans ((if_neg c_12).trans ((if_pos c_14).trans ((if_neg c_15).trans rfl))))))) rfl dX8_levelThen_115
          · refine v_by (v := 3) (fun c_16 => ?_) (fun c_16 => ?_)
            · refine v_tabIn (off := 73) (tgt := 116) C dX8_levelThen_43 c_16 (by decide) (by decide) (by decide) (by decide) ?_
              refine v_iload_n C dX8_levelThen_116 rfl (lv_at hl 0 rfl) ?_
              refine v_if_eq (tgt := 131) C dX8_levelThen_117 (by decide) (fun _ => ?_) (fun h => absurd h (by decide))
              refine v_aload_n C dX8_levelThen_131 rfl (lv_at hl 2 rfl) ?_
              refine v_getR C iX8_levelThen_X8 k_30 rfl rfl (j := 27) rfl (by decide) rfl (C.w 6 rfl) dX8_levelThen_132 ?_
              refine v_iload_n C dX8_levelThen_135 rfl (lv_at hl 3 rfl) ?_
              refine v_iald C k_57 rfl h1 dX8_levelThen_136 ?_
              exact hret _ _ _ _ (Eq.symm ((if_neg c_1).trans ((if_neg c_10).trans ((if_neg c_11).trans ((if_neg c_12).trans ((if_neg c_14).trans ((if_pos c_16).trans rfl))))))) rfl dX8_levelThen_137
            · refine v_tabOut (tgt := 138) C dX8_levelThen_43 (by have h0 := lv_neT (a := 0) c_11 (by decide); have h1 := lv_neT (a := 1) c_12 (by decide); have h2 := lv_neT (a := 2) c_14 (by decide); have h3 := lv_neT (a := 3) c_16 (by decide); omega) (by decide) ?_
              refine v_iload_n C dX8_levelThen_138 rfl (lv_at hl 0 rfl) ?_
              refine v_if_eq (tgt := 146) C dX8_levelThen_139 (by decide) (fun _ => ?_) (fun h => absurd h (by decide))
              refine v_aload_n C dX8_levelThen_146 rfl (lv_at hl 2 rfl) ?_
              refine v_getR C iX8_levelThen_X8 k_30 rfl rfl (j := 27) rfl (by decide) rfl (C.w 6 rfl) dX8_levelThen_147 ?_
              refine v_iload_n C dX8_levelThen_150 rfl (lv_at hl 3 rfl) ?_
              refine v_iald C k_57 rfl h1 dX8_levelThen_151 ?_
              exact hret _ _ _ _ (Eq.symm ((if_neg c_1).trans ((if_neg c_10).trans ((if_neg c_11).trans ((if_neg c_12).trans ((if_neg c_14).trans ((if_neg c_16).trans rfl))))))) rfl dX8_levelThen_152
    · refine v_iconst (v := 1) C dX8_levelThen_31 (by decide) ?_
      refine v_goto (tgt := 36) C dX8_levelThen_32 (by decide) ?_
      refine v_istore_n (lv' := [(3, _), (2, _), (0, _), (1, _)]) C dX8_levelThen_36 rfl hl (by decide) rfl (fun ls hl => ?_)
      refine v_aload_n C dX8_levelThen_37 rfl (lv_at hl 2 rfl) ?_
      refine v_getR C iX8_levelThen_X8 k_30 rfl rfl (j := 25) rfl (by decide) rfl (C.w 5 rfl) dX8_levelThen_38 ?_
      refine v_iload_n C dX8_levelThen_41 rfl (lv_at hl 3 rfl) ?_
      refine v_iald C k_55 rfl h1 dX8_levelThen_42 ?_
      refine v_by (v := 0) (fun c_19 => ?_) (fun c_19 => ?_)
      · refine v_tabIn (off := 29) (tgt := 72) C dX8_levelThen_43 c_19 (by decide) (by decide) (by decide) (by decide) ?_
        refine v_iconst (v := 0) C dX8_levelThen_72 (by decide) ?_
        exact hret _ _ _ _ (Eq.symm ((if_neg c_1).trans ((if_pos c_10).trans ((if_pos c_19).trans rfl)))) rfl dX8_levelThen_73
      · refine v_by (v := 1) (fun c_20 => ?_) (fun c_20 => ?_)
        · refine v_tabIn (off := 31) (tgt := 74) C dX8_levelThen_43 c_20 (by decide) (by decide) (by decide) (by decide) ?_
          refine v_aload_n C dX8_levelThen_74 rfl (lv_at hl 2 rfl) ?_
          refine v_getR C iX8_levelThen_X8 k_30 rfl rfl (j := 5) rfl (by decide) rfl (C.w 3 rfl) dX8_levelThen_75 ?_
          refine v_iload_n C dX8_levelThen_78 rfl (lv_at hl 1 rfl) ?_
          refine v_iald C k_35 rfl h2 dX8_levelThen_79 ?_
          refine v_aload_n C dX8_levelThen_80 rfl (lv_at hl 2 rfl) ?_
          refine v_getR C iX8_levelThen_X8 k_30 rfl rfl (j := 26) rfl (by decide) rfl (C.w 4 rfl) dX8_levelThen_81 ?_
          refine v_iload_n C dX8_levelThen_84 rfl (lv_at hl 3 rfl) ?_
          refine v_iald C k_56 rfl h1 dX8_levelThen_85 ?_
          refine v_icmp_ge (tgt := 93) C dX8_levelThen_86 (by decide) (fun c_21 => ?_) (fun c_21 => ?_)
          · refine v_iconst (v := 0) C dX8_levelThen_93 (by decide) ?_
            exact hret _ _ _ _ (Eq.symm ((if_neg c_1).trans ((if_pos c_10).trans ((if_neg c_19).trans ((if_pos c_20).trans ((if_pos c_21).trans rfl)))))) rfl dX8_levelThen_94
          · refine v_iconst (v := 1) C dX8_levelThen_89 (by decide) ?_
            refine v_goto (tgt := 94) C dX8_levelThen_90 (by decide) ?_
            exact hret _ _ _ _ (Eq.symm ((if_neg c_1).trans ((if_pos c_10).trans ((if_neg c_19).trans ((if_pos c_20).trans ((if_neg c_21).trans rfl)))))) rfl dX8_levelThen_94
        · refine v_by (v := 2) (fun c_22 => ?_) (fun c_22 => ?_)
          · refine v_tabIn (off := 52) (tgt := 95) C dX8_levelThen_43 c_22 (by decide) (by decide) (by decide) (by decide) ?_
            refine v_aload_n C dX8_levelThen_95 rfl (lv_at hl 2 rfl) ?_
            refine v_getR C iX8_levelThen_X8 k_30 rfl rfl (j := 5) rfl (by decide) rfl (C.w 3 rfl) dX8_levelThen_96 ?_
            refine v_iload_n C dX8_levelThen_99 rfl (lv_at hl 1 rfl) ?_
            refine v_iald C k_35 rfl h2 dX8_levelThen_100 ?_
            refine v_aload_n C dX8_levelThen_101 rfl (lv_at hl 2 rfl) ?_
            refine v_getR C iX8_levelThen_X8 k_30 rfl rfl (j := 26) rfl (by decide) rfl (C.w 4 rfl) dX8_levelThen_102 ?_
            refine v_iload_n C dX8_levelThen_105 rfl (lv_at hl 3 rfl) ?_
            refine v_iald C k_56 rfl h1 dX8_levelThen_106 ?_
            refine v_icmp_ge (tgt := 114) C dX8_levelThen_107 (by decide) (fun c_23 => ?_) (fun c_23 => ?_)
            · refine v_iconst (v := 1) C dX8_levelThen_114 (by decide) ?_
              exact hret _ _ _ _ (Eq.symm ((if_neg c_1).trans ((if_pos c_10).trans ((if_neg c_19).trans ((if_neg c_20).trans ((if_pos c_22).trans ((if_pos c_23).trans rfl))))))) rfl dX8_levelThen_115
            · refine v_iconst (v := 0) C dX8_levelThen_110 (by decide) ?_
              refine v_goto (tgt := 115) C dX8_levelThen_111 (by decide) ?_
              exact hret _ _ _ _ (Eq.symm ((if_neg c_1).trans ((if_pos c_10).trans ((if_neg c_19).trans ((if_neg c_20).trans ((if_pos c_22).trans ((if_neg c_23).trans rfl))))))) rfl dX8_levelThen_115
          · refine v_by (v := 3) (fun c_24 => ?_) (fun c_24 => ?_)
            · refine v_tabIn (off := 73) (tgt := 116) C dX8_levelThen_43 c_24 (by decide) (by decide) (by decide) (by decide) ?_
              refine v_iload_n C dX8_levelThen_116 rfl (lv_at hl 0 rfl) ?_
              refine v_if_eq (tgt := 131) C dX8_levelThen_117 (by decide) (fun h => absurd h (by decide)) (fun _ => ?_)
              refine v_iconst (v := 1) C dX8_levelThen_120 (by decide) ?_
              refine v_aload_n C dX8_levelThen_121 rfl (lv_at hl 2 rfl) ?_
              refine v_getR C iX8_levelThen_X8 k_30 rfl rfl (j := 27) rfl (by decide) rfl (C.w 6 rfl) dX8_levelThen_122 ?_
              refine v_iload_n C dX8_levelThen_125 rfl (lv_at hl 3 rfl) ?_
              refine v_iald C k_57 rfl h1 dX8_levelThen_126 ?_
              refine v_isub C dX8_levelThen_127 ?_
              refine v_goto (tgt := 137) C dX8_levelThen_128 (by decide) ?_
              exact hret _ _ _ _ (Eq.symm ((if_neg c_1).trans ((if_pos c_10).trans ((if_neg c_19).trans ((if_neg c_20).trans ((if_neg c_22).trans ((if_pos c_24).trans rfl))))))) rfl dX8_levelThen_137
            · refine v_tabOut (tgt := 138) C dX8_levelThen_43 (by have h0 := lv_neT (a := 0) c_19 (by decide); have h1 := lv_neT (a := 1) c_20 (by decide); have h2 := lv_neT (a := 2) c_22 (by decide); have h3 := lv_neT (a := 3) c_24 (by decide); omega) (by decide) ?_
              refine v_iload_n C dX8_levelThen_138 rfl (lv_at hl 0 rfl) ?_
              refine v_if_eq (tgt := 146) C dX8_levelThen_139 (by decide) (fun h => absurd h (by decide)) (fun _ => ?_)
              refine v_iconst (v := 1) C dX8_levelThen_142 (by decide) ?_
              refine v_goto (tgt := 152) C dX8_levelThen_143 (by decide) ?_
              exact hret _ _ _ _ (Eq.symm ((if_neg c_1).trans ((if_pos c_10).trans ((if_neg c_19).trans ((if_neg c_20).trans ((if_neg c_22).trans ((if_neg c_24).trans rfl))))))) rfl dX8_levelThen_152
theorem iX8_channels_X8 : ∀ w ∈ wsX80, w ∈ wsX8_channels := fun _ h => (List.mem_cons_of_mem _ (List.mem_append_right _ h))
theorem hv_X8_channels : yX8_channels.cls = RX8 ∧ yX8_channels.cls ≠ "java/lang/invoke/MethodHandle" ∧ yX8_channels.cls ≠ "java/lang/invoke/VarHandle" ∧ (parseMethodDescriptor yX8_channels.desc).map (fun d => d.parameters.length) = some 0 := by decide +kernel
def X8_channels_it (x : Int32) (t : ct_St) : ct_St :=
  let x1 := X8_levelThen_r x t
  if x1 = t 57 (ix x) then
    if 99 ≤ t 58 (ix x) then
      let t2 := us t 58 (ix x) 99
      let t3 := us t2 57 (ix x) x1
      t3
    else
      let t4 := us t 58 (ix x) ((t 58 (ix x)) + 1)
      let t5 := us t4 57 (ix x) x1
      t5
  else
    let t6 := us t 58 (ix x) 1
    let t7 := us t6 57 (ix x) x1
    t7
theorem X8_channels_it_fr (x : Int32) (t : ct_St) {r : Nat} (h57 : r ≠ 57) (h58 : r ≠ 58) : X8_channels_it x t r = t r := by
  dsimp only [X8_channels_it]
  (repeat' split) <;> simp only [us_ne, ur_ne, h57, h58, ne_eq, not_false_eq_true]
theorem ok_X8_channels_it (x : Int32) (t : ct_St) (h : okM t) : okM (X8_channels_it x t) := okM_of h (X8_channels_it_fr x t (by decide) (by decide)) (by rw [X8_channels_it_fr x t (by decide) (by decide)]; exact h.2.1) (X8_channels_it_fr x t (by decide) (by decide)) (X8_channels_it_fr x t (by decide) (by decide)) (X8_channels_it_fr x t (by decide) (by decide)) (X8_channels_it_fr x t (by decide) (by decide))
set_option maxHeartbeats 4000000 in
set_option maxRecDepth 100000 in
theorem cb_X8_channels {p : Program} {e : Env} {s : State} {m : MethodId} {args : Array Value} {below : List Frame} {meth : Method} {cd : Code} {A : Nat → Prop} {Q : State → Prop} (l : Launch) (g : ct_G) (C : Cx p s m args cd A g cX8_channels RX8 wsX8_channels 3) (t : ct_St) (x : Int32) (hx : vp_in x 4) (hc : okM t) (K : ∀ (ls : Array Slot) (x1 : Int32), x1 = x + 1 → lv_has ls 3 [(0, .ref (g.2.1 30)), (1, .int x1)] → VW p l e (rmd 1) s m args below meth cd 0 0 Q A g shG (X8_channels_it x t) (F0 m 2 ls [])) (ls : Array Slot) (hl : lv_has ls 3 [(0, .ref (g.2.1 30)), (1, .int x)]) : VW p l e (rmd 1) s m args below meth cd 0 0 Q A g shG t (F0 m 2 ls []) := by
  refine v_iload_n C dX8_channels_2 rfl (lv_at hl 1 rfl) ?_
  refine v_iconst (v := 4) C dX8_channels_3 (by decide) ?_
  refine v_icmp_ge (tgt := 70) C dX8_channels_4 (by decide) (fun h => absurd h ((vp_nle hx (by decide)))) (fun _ => ?_)
  refine v_aload_n C dX8_channels_7 rfl (lv_at hl 0 rfl) ?_
  refine v_iload_n C dX8_channels_8 rfl (lv_at hl 1 rfl) ?_
  refine v_calli C (c_X8_levelThen l g _ _ hx (hc.2.2.2.2.1 _ (vp_lt hx))) (cwV 1 C.2.2.2.2.1 gX8_channels_X8_levelThen rfl rfl rfl hv_X8_levelThen ⟨Nat.le_of_ble_eq_true rfl, Nat.le_of_ble_eq_true rfl⟩) k_30 rfl rfl rfl rfl hl.1 rfl (Nat.le_of_ble_eq_true rfl) dX8_channels_9 ⟨Nat.le_refl _, Nat.le_refl _⟩ ?_
  refine v_istore_n (lv' := [(2, _), (0, _), (1, _)]) C dX8_channels_12 rfl hl (by decide) rfl (fun ls hl => ?_)
  refine v_aload_n C dX8_channels_13 rfl (lv_at hl 1 rfl) ?_
  refine v_getR C iX8_channels_X8 k_30 rfl rfl (j := 28) rfl (by decide) rfl (C.w 1 rfl) dX8_channels_14 ?_
  refine v_iload_n C dX8_channels_17 rfl (lv_at hl 2 rfl) ?_
  refine v_iload_n C dX8_channels_18 rfl (lv_at hl 0 rfl) ?_
  refine v_aload_n C dX8_channels_19 rfl (lv_at hl 1 rfl) ?_
  refine v_getR C iX8_channels_X8 k_30 rfl rfl (j := 27) rfl (by decide) rfl (C.w 2 rfl) dX8_channels_20 ?_
  refine v_iload_n C dX8_channels_23 rfl (lv_at hl 2 rfl) ?_
  refine v_iald C k_57 rfl hx dX8_channels_24 ?_
  refine v_icmp_eq (tgt := 32) C dX8_channels_25 (by decide) (fun c_2 => ?_) (fun c_2 => ?_)
  · refine v_aload_n C dX8_channels_32 rfl (lv_at hl 1 rfl) ?_
    refine v_getR C iX8_channels_X8 k_30 rfl rfl (j := 28) rfl (by decide) rfl (C.w 1 rfl) dX8_channels_33 ?_
    refine v_iload_n C dX8_channels_36 rfl (lv_at hl 2 rfl) ?_
    refine v_iald C k_58 rfl hx dX8_channels_37 ?_
    refine v_bipush (v := 99) C dX8_channels_38 (by decide) ?_
    refine v_icmp_ge (tgt := 54) C dX8_channels_40 (by decide) (fun c_3 => ?_) (fun c_3 => ?_)
    · refine v_bipush (v := 99) C dX8_channels_54 (by decide) ?_
      refine v_iast C k_58 rfl hx dX8_channels_56 ?_
      refine v_aload_n C dX8_channels_57 rfl (lv_at hl 1 rfl) ?_
      refine v_getR C iX8_channels_X8 k_30 rfl rfl (j := 27) rfl (by decide) rfl (C.w 2 rfl) dX8_channels_58 ?_
      refine v_iload_n C dX8_channels_61 rfl (lv_at hl 2 rfl) ?_
      refine v_iload_n C dX8_channels_62 rfl (lv_at hl 0 rfl) ?_
      refine v_iast C k_57 rfl hx dX8_channels_63 ?_
      refine v_iinc (k0 := 2) (v := _ + 1) (lv' := [(1, _), (2, _), (0, _)]) C dX8_channels_64 hl rfl rfl (by decide) rfl (fun ls hl => ?_)
      refine v_goto (tgt := 2) C dX8_channels_67 (by decide) ?_
      exact VW.st (Eq.symm ((if_pos c_2).trans ((if_pos c_3).trans rfl))) (K ls _ rfl (lv_sub hl [2, 0] rfl))
    · refine v_aload_n C dX8_channels_43 rfl (lv_at hl 1 rfl) ?_
      refine v_getR C iX8_channels_X8 k_30 rfl rfl (j := 28) rfl (by decide) rfl (C.w 1 rfl) dX8_channels_44 ?_
      refine v_iload_n C dX8_channels_47 rfl (lv_at hl 2 rfl) ?_
      refine v_iald C k_58 rfl hx dX8_channels_48 ?_
      refine v_iconst (v := 1) C dX8_channels_49 (by decide) ?_
      refine v_iadd C dX8_channels_50 ?_
      refine v_goto (tgt := 56) C dX8_channels_51 (by decide) ?_
      refine v_iast C k_58 rfl hx dX8_channels_56 ?_
      refine v_aload_n C dX8_channels_57 rfl (lv_at hl 1 rfl) ?_
      refine v_getR C iX8_channels_X8 k_30 rfl rfl (j := 27) rfl (by decide) rfl (C.w 2 rfl) dX8_channels_58 ?_
      refine v_iload_n C dX8_channels_61 rfl (lv_at hl 2 rfl) ?_
      refine v_iload_n C dX8_channels_62 rfl (lv_at hl 0 rfl) ?_
      refine v_iast C k_57 rfl hx dX8_channels_63 ?_
      refine v_iinc (k0 := 2) (v := _ + 1) (lv' := [(1, _), (2, _), (0, _)]) C dX8_channels_64 hl rfl rfl (by decide) rfl (fun ls hl => ?_)
      refine v_goto (tgt := 2) C dX8_channels_67 (by decide) ?_
      exact VW.st (Eq.symm ((if_pos c_2).trans ((if_neg c_3).trans rfl))) (K ls _ rfl (lv_sub hl [2, 0] rfl))
  · refine v_iconst (v := 1) C dX8_channels_28 (by decide) ?_
    refine v_goto (tgt := 56) C dX8_channels_29 (by decide) ?_
    refine v_iast C k_58 rfl hx dX8_channels_56 ?_
    refine v_aload_n C dX8_channels_57 rfl (lv_at hl 1 rfl) ?_
    refine v_getR C iX8_channels_X8 k_30 rfl rfl (j := 27) rfl (by decide) rfl (C.w 2 rfl) dX8_channels_58 ?_
    refine v_iload_n C dX8_channels_61 rfl (lv_at hl 2 rfl) ?_
    refine v_iload_n C dX8_channels_62 rfl (lv_at hl 0 rfl) ?_
    refine v_iast C k_57 rfl hx dX8_channels_63 ?_
    refine v_iinc (k0 := 2) (v := _ + 1) (lv' := [(1, _), (2, _), (0, _)]) C dX8_channels_64 hl rfl rfl (by decide) rfl (fun ls hl => ?_)
    refine v_goto (tgt := 2) C dX8_channels_67 (by decide) ?_
    exact VW.st (Eq.symm ((if_neg c_2).trans rfl)) (K ls _ rfl (lv_sub hl [2, 0] rfl))
def X8_channels_s (t : ct_St) : ct_St :=
  let t1 := X8_channels_it 0 t
  let t2 := X8_channels_it 1 t1
  let t3 := X8_channels_it 2 t2
  let t4 := X8_channels_it 3 t3
  t4
set_option maxHeartbeats 4000000 in
set_option maxRecDepth 100000 in
theorem c_X8_channels (l : Launch) (g : ct_G) (t : ct_St) (hc : okM t) : MV l g shG yX8_channels wsX8_channels (rmd 1) [.ref (g.2.1 30)] t (X8_channels_s t) := by
  refine MV.of (own := RX8) (cc := cX8_channels) (maxL := 3) rfl (by decide) rfl (Nat.le_of_ble_eq_true rfl) (fun p e s m args below meth cd A Q C hret ls hl => ?_)
  have hl : lv_has ls 3 [(0, .ref (g.2.1 30))] := hl
  refine v_iconst (v := 0) C dX8_channels_0 (by decide) ?_
  refine v_istore_n (lv' := [(1, _), (0, _)]) C dX8_channels_1 rfl hl (by decide) rfl (fun ls hl => ?_)
  refine cb_X8_channels l g C _ 0 vl_0_4 hc (fun ls x1 hx1 hl => ?_) ls (lv_sub hl [1, 0] rfl)
  obtain rfl : x1 = 1 := hx1.trans (by decide)
  refine cb_X8_channels l g C _ 1 vl_1_4 (ok_X8_channels_it _ _ hc) (fun ls x1 hx1 hl => ?_) ls (lv_sub hl [0, 1] rfl)
  obtain rfl : x1 = 2 := hx1.trans (by decide)
  refine cb_X8_channels l g C _ 2 vl_2_4 (ok_X8_channels_it _ _ (ok_X8_channels_it _ _ hc)) (fun ls x1 hx1 hl => ?_) ls (lv_sub hl [0, 1] rfl)
  obtain rfl : x1 = 3 := hx1.trans (by decide)
  refine cb_X8_channels l g C _ 3 vl_3_4 (ok_X8_channels_it _ _ (ok_X8_channels_it _ _ (ok_X8_channels_it _ _ hc))) (fun ls x1 hx1 hl => ?_) ls (lv_sub hl [0, 1] rfl)
  obtain rfl : x1 = 4 := hx1.trans (by decide)
  refine v_iload_n C dX8_channels_2 rfl (lv_at hl 1 rfl) ?_
  refine v_iconst (v := 4) C dX8_channels_3 (by decide) ?_
  refine v_icmp_ge (tgt := 70) C dX8_channels_4 (by decide) (fun _ => ?_) (fun h => absurd h (by decide))
  exact hret _ _ _ rfl dX8_channels_70
theorem ok_X8_channels_s (t : ct_St) (h : okM t) : okM (X8_channels_s t) := by
  dsimp only [X8_channels_s]
  exact ok_X8_channels_it _ _ (ok_X8_channels_it _ _ (ok_X8_channels_it _ _ (ok_X8_channels_it _ _ h)))
theorem X8_channels_s_fr (t : ct_St) {r : Nat} (h57 : r ≠ 57) (h58 : r ≠ 58) : X8_channels_s t r = t r := by
  dsimp only [X8_channels_s]
  (repeat' split) <;> simp only [us_ne, ur_ne, h57, h58, ne_eq, not_false_eq_true, X8_channels_it_fr]
theorem iX8_isOn_X8 : ∀ w ∈ wsX80, w ∈ wsX8_isOn := fun _ h => (List.mem_cons_of_mem _ (List.mem_append_right _ h))
theorem hv_X8_isOn : yX8_isOn.cls = RX8 ∧ yX8_isOn.cls ≠ "java/lang/invoke/MethodHandle" ∧ yX8_isOn.cls ≠ "java/lang/invoke/VarHandle" ∧ (parseMethodDescriptor yX8_isOn.desc).map (fun d => d.parameters.length) = some 2 := by decide +kernel
def X8_isOn_r (a1 : Int32) (a2 : Int32) (t : ct_St) : Int32 :=
  if t 55 (ix a1) = 0 then
    0
  else
    if t 30 32 = 0 then
      if t 57 (ix a1) = 1 - a2 then
        if t 58 (ix a1) ≤ t 59 (ix a1) then
          0
        else
          1
      else
        0
    else
      0
set_option maxHeartbeats 4000000 in
set_option maxRecDepth 100000 in
theorem c_X8_isOn (l : Launch) (g : ct_G) (t : ct_St) (a1 : Int32) (a2 : Int32) (h1 : vp_in a1 4) : MI l g shG yX8_isOn wsX8_isOn (rmd 0) [.ref (g.2.1 30), .int a1, .int a2] t (X8_isOn_r a1 a2 t) t := by
  refine MZ.of (own := RX8) (cc := cX8_isOn) (maxL := 3) rfl (by decide) rfl (Nat.le_of_ble_eq_true rfl) (fun p e s m args below meth cd A Q C hret ls hl => ?_)
  have hl : lv_has ls 3 [(0, .ref (g.2.1 30)), (1, .int a1), (2, .int a2)] := hl
  refine v_aload_n C dX8_isOn_0 rfl (lv_at hl 0 rfl) ?_
  refine v_getR C iX8_isOn_X8 k_30 rfl rfl (j := 25) rfl (by decide) rfl (C.w 1 rfl) dX8_isOn_1 ?_
  refine v_iload_n C dX8_isOn_4 rfl (lv_at hl 1 rfl) ?_
  refine v_iald C k_55 rfl h1 dX8_isOn_5 ?_
  refine v_if_eq (tgt := 47) C dX8_isOn_6 (by decide) (fun c_1 => ?_) (fun c_1 => ?_)
  · refine v_iconst (v := 0) C dX8_isOn_47 (by decide) ?_
    exact hret _ _ _ _ (Eq.symm ((if_pos c_1).trans rfl)) rfl rfl dX8_isOn_48
  · refine v_aload_n C dX8_isOn_9 rfl (lv_at hl 0 rfl) ?_
    refine v_getI C iX8_isOn_X8 k_30 rfl rfl (j := 32) rfl (by decide) rfl (C.w 2 rfl) dX8_isOn_10 ?_
    refine v_if_ne (tgt := 47) C dX8_isOn_13 (by decide) (fun c_2 => ?_) (fun c_2 => ?_)
    · refine v_iconst (v := 0) C dX8_isOn_47 (by decide) ?_
      exact hret _ _ _ _ (Eq.symm ((if_neg c_1).trans ((if_neg c_2).trans rfl))) rfl rfl dX8_isOn_48
    · refine v_aload_n C dX8_isOn_16 rfl (lv_at hl 0 rfl) ?_
      refine v_getR C iX8_isOn_X8 k_30 rfl rfl (j := 27) rfl (by decide) rfl (C.w 3 rfl) dX8_isOn_17 ?_
      refine v_iload_n C dX8_isOn_20 rfl (lv_at hl 1 rfl) ?_
      refine v_iald C k_57 rfl h1 dX8_isOn_21 ?_
      refine v_iconst (v := 1) C dX8_isOn_22 (by decide) ?_
      refine v_iload_n C dX8_isOn_23 rfl (lv_at hl 2 rfl) ?_
      refine v_isub C dX8_isOn_24 ?_
      refine v_icmp_ne (tgt := 47) C dX8_isOn_25 (by decide) (fun c_3 => ?_) (fun c_3 => ?_)
      · refine v_iconst (v := 0) C dX8_isOn_47 (by decide) ?_
        exact hret _ _ _ _ (Eq.symm ((if_neg c_1).trans ((if_pos c_2).trans ((if_neg c_3).trans rfl)))) rfl rfl dX8_isOn_48
      · refine v_aload_n C dX8_isOn_28 rfl (lv_at hl 0 rfl) ?_
        refine v_getR C iX8_isOn_X8 k_30 rfl rfl (j := 28) rfl (by decide) rfl (C.w 4 rfl) dX8_isOn_29 ?_
        refine v_iload_n C dX8_isOn_32 rfl (lv_at hl 1 rfl) ?_
        refine v_iald C k_58 rfl h1 dX8_isOn_33 ?_
        refine v_aload_n C dX8_isOn_34 rfl (lv_at hl 0 rfl) ?_
        refine v_getR C iX8_isOn_X8 k_30 rfl rfl (j := 29) rfl (by decide) rfl (C.w 5 rfl) dX8_isOn_35 ?_
        refine v_iload_n C dX8_isOn_38 rfl (lv_at hl 1 rfl) ?_
        refine v_iald C k_59 rfl h1 dX8_isOn_39 ?_
        refine v_icmp_le (tgt := 47) C dX8_isOn_40 (by decide) (fun c_4 => ?_) (fun c_4 => ?_)
        · refine v_iconst (v := 0) C dX8_isOn_47 (by decide) ?_
          exact hret _ _ _ _ (Eq.symm ((if_neg c_1).trans ((if_pos c_2).trans ((if_pos c_3).trans ((if_pos c_4).trans rfl))))) rfl rfl dX8_isOn_48
        · refine v_iconst (v := 1) C dX8_isOn_43 (by decide) ?_
          refine v_goto (tgt := 48) C dX8_isOn_44 (by decide) ?_
          exact hret _ _ _ _ (Eq.symm ((if_neg c_1).trans ((if_pos c_2).trans ((if_pos c_3).trans ((if_neg c_4).trans rfl))))) rfl rfl dX8_isOn_48
theorem X8_isOn_z (a1 : Int32) (a2 : Int32) (t : ct_St) : narrow .boolean (.int (X8_isOn_r a1 a2 t)) = .int (X8_isOn_r a1 a2 t) := by
  dsimp only [X8_isOn_r]
  (repeat' split) <;> first | rfl
theorem iX8_pinThen_X8 : ∀ w ∈ wsX80, w ∈ wsX8_pinThen := fun _ h => (List.mem_cons_of_mem _ (List.mem_append_right _ h))
theorem hv_X8_pinThen : yX8_pinThen.cls = RX8 ∧ yX8_pinThen.cls ≠ "java/lang/invoke/MethodHandle" ∧ yX8_pinThen.cls ≠ "java/lang/invoke/VarHandle" ∧ (parseMethodDescriptor yX8_pinThen.desc).map (fun d => d.parameters.length) = some 2 := by decide +kernel
def X8_pinThen_r (a1 : Int32) (a2 : Int32) (t : ct_St) : Int32 :=
  if t 30 32 = 0 then
    if ((t 60 (ix a1)) >>> (a2 &&& 31)) &&& 1 = 1 then
      if X8_isOn_r a1 a2 t = 1 then
        0
      else
        1
    else
      if X8_isOn_r a1 a2 t = 0 then
        0
      else
        1
  else
    ((t 61 (ix a1)) >>> (a2 &&& 31)) &&& 1
set_option maxHeartbeats 4000000 in
set_option maxRecDepth 100000 in
theorem c_X8_pinThen (l : Launch) (g : ct_G) (t : ct_St) (a1 : Int32) (a2 : Int32) (h1 : vp_in a1 4) : MI l g shG yX8_pinThen wsX8_pinThen (rmd 1) [.ref (g.2.1 30), .int a1, .int a2] t (X8_pinThen_r a1 a2 t) t := by
  refine MI.of (own := RX8) (cc := cX8_pinThen) (maxL := 3) rfl (by decide) rfl (Nat.le_of_ble_eq_true rfl) (fun p e s m args below meth cd A Q C hret ls hl => ?_)
  have hl : lv_has ls 3 [(0, .ref (g.2.1 30)), (1, .int a1), (2, .int a2)] := hl
  refine v_aload_n C dX8_pinThen_0 rfl (lv_at hl 0 rfl) ?_
  refine v_getI C iX8_pinThen_X8 k_30 rfl rfl (j := 32) rfl (by decide) rfl (C.w 1 rfl) dX8_pinThen_1 ?_
  refine v_if_eq (tgt := 18) C dX8_pinThen_4 (by decide) (fun c_1 => ?_) (fun c_1 => ?_)
  · refine v_aload_n C dX8_pinThen_18 rfl (lv_at hl 0 rfl) ?_
    refine v_iload_n C dX8_pinThen_19 rfl (lv_at hl 1 rfl) ?_
    refine v_iload_n C dX8_pinThen_20 rfl (lv_at hl 2 rfl) ?_
    refine v_calli C (c_X8_isOn l g _ _ _ h1) (cwV 2 C.2.2.2.2.1 gX8_pinThen_X8_isOn rfl rfl rfl hv_X8_isOn ⟨Nat.le_of_ble_eq_true rfl, Nat.le_of_ble_eq_true rfl⟩) k_30 rfl rfl rfl rfl hl.1 rfl (Nat.le_of_ble_eq_true rfl) dX8_pinThen_21 ⟨Nat.le_refl _, Nat.le_refl _⟩ ?_
    refine v_aload_n C dX8_pinThen_24 rfl (lv_at hl 0 rfl) ?_
    refine v_getR C iX8_pinThen_X8 k_30 rfl rfl (j := 30) rfl (by decide) rfl (C.w 3 rfl) dX8_pinThen_25 ?_
    refine v_iload_n C dX8_pinThen_28 rfl (lv_at hl 1 rfl) ?_
    refine v_iald C k_60 rfl h1 dX8_pinThen_29 ?_
    refine v_iload_n C dX8_pinThen_30 rfl (lv_at hl 2 rfl) ?_
    refine v_ishr C dX8_pinThen_31 ?_
    refine v_iconst (v := 1) C dX8_pinThen_32 (by decide) ?_
    refine v_iand C dX8_pinThen_33 ?_
    refine v_iconst (v := 1) C dX8_pinThen_34 (by decide) ?_
    refine v_icmp_ne (tgt := 42) C dX8_pinThen_35 (by decide) (fun c_2 => ?_) (fun c_2 => ?_)
    · refine v_iconst (v := 0) C dX8_pinThen_42 (by decide) ?_
      refine v_icmp_ne (tgt := 50) C dX8_pinThen_43 (by decide) (fun c_3 => ?_) (fun c_3 => ?_)
      · refine v_iconst (v := 1) C dX8_pinThen_50 (by decide) ?_
        exact hret _ _ _ _ (Eq.symm ((if_pos c_1).trans ((if_neg c_2).trans ((if_neg c_3).trans rfl)))) rfl dX8_pinThen_51
      · refine v_iconst (v := 0) C dX8_pinThen_46 (by decide) ?_
        refine v_goto (tgt := 51) C dX8_pinThen_47 (by decide) ?_
        exact hret _ _ _ _ (Eq.symm ((if_pos c_1).trans ((if_neg c_2).trans ((if_pos c_3).trans rfl)))) rfl dX8_pinThen_51
    · refine v_iconst (v := 1) C dX8_pinThen_38 (by decide) ?_
      refine v_goto (tgt := 43) C dX8_pinThen_39 (by decide) ?_
      refine v_icmp_ne (tgt := 50) C dX8_pinThen_43 (by decide) (fun c_4 => ?_) (fun c_4 => ?_)
      · refine v_iconst (v := 1) C dX8_pinThen_50 (by decide) ?_
        exact hret _ _ _ _ (Eq.symm ((if_pos c_1).trans ((if_pos c_2).trans ((if_neg c_4).trans rfl)))) rfl dX8_pinThen_51
      · refine v_iconst (v := 0) C dX8_pinThen_46 (by decide) ?_
        refine v_goto (tgt := 51) C dX8_pinThen_47 (by decide) ?_
        exact hret _ _ _ _ (Eq.symm ((if_pos c_1).trans ((if_pos c_2).trans ((if_pos c_4).trans rfl)))) rfl dX8_pinThen_51
  · refine v_aload_n C dX8_pinThen_7 rfl (lv_at hl 0 rfl) ?_
    refine v_getR C iX8_pinThen_X8 k_30 rfl rfl (j := 31) rfl (by decide) rfl (C.w 2 rfl) dX8_pinThen_8 ?_
    refine v_iload_n C dX8_pinThen_11 rfl (lv_at hl 1 rfl) ?_
    refine v_iald C k_61 rfl h1 dX8_pinThen_12 ?_
    refine v_iload_n C dX8_pinThen_13 rfl (lv_at hl 2 rfl) ?_
    refine v_ishr C dX8_pinThen_14 ?_
    refine v_iconst (v := 1) C dX8_pinThen_15 (by decide) ?_
    refine v_iand C dX8_pinThen_16 ?_
    exact hret _ _ _ _ (Eq.symm ((if_neg c_1).trans rfl)) rfl dX8_pinThen_17
theorem hv_X8_onOf : yX8_onOf.cls = RX8 ∧ yX8_onOf.cls ≠ "java/lang/invoke/MethodHandle" ∧ yX8_onOf.cls ≠ "java/lang/invoke/VarHandle" ∧ (parseMethodDescriptor yX8_onOf.desc).map (fun d => d.parameters.length) = some 1 := by decide +kernel
def X8_onOf_r (a1 : Int32) (t : ct_St) : Int32 :=
  if X8_isOn_r a1 0 t = 0 then
    if X8_isOn_r a1 1 t = 0 then
      0
    else
      2
  else
    if X8_isOn_r a1 1 t = 0 then
      1
    else
      3
set_option maxHeartbeats 4000000 in
set_option maxRecDepth 100000 in
theorem c_X8_onOf (l : Launch) (g : ct_G) (t : ct_St) (a1 : Int32) (h1 : vp_in a1 4) : MI l g shG yX8_onOf wsX8_onOf (rmd 1) [.ref (g.2.1 30), .int a1] t (X8_onOf_r a1 t) t := by
  refine MI.of (own := RX8) (cc := cX8_onOf) (maxL := 2) rfl (by decide) rfl (Nat.le_of_ble_eq_true rfl) (fun p e s m args below meth cd A Q C hret ls hl => ?_)
  have hl : lv_has ls 2 [(0, .ref (g.2.1 30)), (1, .int a1)] := hl
  refine v_aload_n C dX8_onOf_0 rfl (lv_at hl 0 rfl) ?_
  refine v_iload_n C dX8_onOf_1 rfl (lv_at hl 1 rfl) ?_
  refine v_iconst (v := 0) C dX8_onOf_2 (by decide) ?_
  refine v_calli C (c_X8_isOn l g _ _ _ h1) (cwV 2 C.2.2.2.2.1 gX8_onOf_X8_isOn rfl rfl rfl hv_X8_isOn ⟨Nat.le_of_ble_eq_true rfl, Nat.le_of_ble_eq_true rfl⟩) k_30 rfl rfl rfl rfl hl.1 rfl (Nat.le_of_ble_eq_true rfl) dX8_onOf_3 ⟨Nat.le_refl _, Nat.le_refl _⟩ ?_
  refine v_if_eq (tgt := 13) C dX8_onOf_6 (by decide) (fun c_1 => ?_) (fun c_1 => ?_)
  · refine v_iconst (v := 0) C dX8_onOf_13 (by decide) ?_
    refine v_aload_n C dX8_onOf_14 rfl (lv_at hl 0 rfl) ?_
    refine v_iload_n C dX8_onOf_15 rfl (lv_at hl 1 rfl) ?_
    refine v_iconst (v := 1) C dX8_onOf_16 (by decide) ?_
    refine v_calli C (c_X8_isOn l g _ _ _ h1) (cwV 2 C.2.2.2.2.1 gX8_onOf_X8_isOn rfl rfl rfl hv_X8_isOn ⟨Nat.le_of_ble_eq_true rfl, Nat.le_of_ble_eq_true rfl⟩) k_30 rfl rfl rfl rfl hl.1 rfl (Nat.le_of_ble_eq_true rfl) dX8_onOf_17 ⟨Nat.le_refl _, Nat.le_refl _⟩ ?_
    refine v_if_eq (tgt := 27) C dX8_onOf_20 (by decide) (fun c_2 => ?_) (fun c_2 => ?_)
    · refine v_iconst (v := 0) C dX8_onOf_27 (by decide) ?_
      refine v_iadd C dX8_onOf_28 ?_
      refine v_lit (v := 0) (by decide) ?_
      exact hret _ _ _ _ (Eq.symm ((if_pos c_1).trans ((if_pos c_2).trans rfl))) rfl dX8_onOf_29
    · refine v_iconst (v := 2) C dX8_onOf_23 (by decide) ?_
      refine v_goto (tgt := 28) C dX8_onOf_24 (by decide) ?_
      refine v_iadd C dX8_onOf_28 ?_
      refine v_lit (v := 2) (by decide) ?_
      exact hret _ _ _ _ (Eq.symm ((if_pos c_1).trans ((if_neg c_2).trans rfl))) rfl dX8_onOf_29
  · refine v_iconst (v := 1) C dX8_onOf_9 (by decide) ?_
    refine v_goto (tgt := 14) C dX8_onOf_10 (by decide) ?_
    refine v_aload_n C dX8_onOf_14 rfl (lv_at hl 0 rfl) ?_
    refine v_iload_n C dX8_onOf_15 rfl (lv_at hl 1 rfl) ?_
    refine v_iconst (v := 1) C dX8_onOf_16 (by decide) ?_
    refine v_calli C (c_X8_isOn l g _ _ _ h1) (cwV 2 C.2.2.2.2.1 gX8_onOf_X8_isOn rfl rfl rfl hv_X8_isOn ⟨Nat.le_of_ble_eq_true rfl, Nat.le_of_ble_eq_true rfl⟩) k_30 rfl rfl rfl rfl hl.1 rfl (Nat.le_of_ble_eq_true rfl) dX8_onOf_17 ⟨Nat.le_refl _, Nat.le_refl _⟩ ?_
    refine v_if_eq (tgt := 27) C dX8_onOf_20 (by decide) (fun c_3 => ?_) (fun c_3 => ?_)
    · refine v_iconst (v := 0) C dX8_onOf_27 (by decide) ?_
      refine v_iadd C dX8_onOf_28 ?_
      refine v_lit (v := 1) (by decide) ?_
      exact hret _ _ _ _ (Eq.symm ((if_neg c_1).trans ((if_pos c_3).trans rfl))) rfl dX8_onOf_29
    · refine v_iconst (v := 2) C dX8_onOf_23 (by decide) ?_
      refine v_goto (tgt := 28) C dX8_onOf_24 (by decide) ?_
      refine v_iadd C dX8_onOf_28 ?_
      refine v_lit (v := 3) (by decide) ?_
      exact hret _ _ _ _ (Eq.symm ((if_neg c_1).trans ((if_neg c_3).trans rfl))) rfl dX8_onOf_29
theorem iX8_enters_X8 : ∀ w ∈ wsX80, w ∈ wsX8_enters := fun _ h => (List.mem_cons_of_mem _ (List.mem_append_right _ h))
theorem ent_in {e : Int32} (h : e = 24) : vp_in (e - 1) 24 := by subst h; unfold vp_in; decide
theorem ent_in2 {e : Int32} (he : vp_in e 25) (h : ¬ e = 24) : vp_in e 24 := by
  obtain ⟨j, hj, rfl⟩ := vp_in_of he (by decide)
  refine vp_in_nI ?_ (by decide)
  rcases Nat.lt_or_ge j 24 with q | q
  · exact q
  · exact absurd (by rw [show j = 24 by omega]; rfl) h
theorem ent_up {e : Int32} (h : vp_in e 24) : vp_in (e + 1) 25 := by
  obtain ⟨j, hj, rfl⟩ := vp_in_of h (by decide)
  rw [nI_1]
  exact vp_in_nI (by omega) (by decide)

theorem hv_X8_enters : yX8_enters.cls = RX8 ∧ yX8_enters.cls ≠ "java/lang/invoke/MethodHandle" ∧ yX8_enters.cls ≠ "java/lang/invoke/VarHandle" ∧ (parseMethodDescriptor yX8_enters.desc).map (fun d => d.parameters.length) = some 1 := by decide +kernel
def X8_enters_it (a1 : Int32) (x : Int32) (t : ct_St) : ct_St :=
  let t1 := us t 63 (ix (x - 1)) (t 63 (ix x))
  let t2 := us t1 64 (ix (x - 1)) (t1 64 (ix x))
  let t3 := us t2 65 (ix (x - 1)) (t2 65 (ix x))
  t3
theorem X8_enters_it_fr (a1 : Int32) (x : Int32) (t : ct_St) {r : Nat} (h63 : r ≠ 63) (h64 : r ≠ 64) (h65 : r ≠ 65) : X8_enters_it a1 x t r = t r := by
  dsimp only [X8_enters_it]
  (repeat' split) <;> simp only [us_ne, ur_ne, h63, h64, h65, ne_eq, not_false_eq_true]

set_option maxHeartbeats 4000000 in
set_option maxRecDepth 100000 in
theorem cb_X8_enters {p : Program} {e : Env} {s : State} {m : MethodId} {args : Array Value} {below : List Frame} {meth : Method} {cd : Code} {A : Nat → Prop} {Q : State → Prop} (l : Launch) (g : ct_G) (C : Cx p s m args cd A g cX8_enters RX8 wsX8_enters 3) (t : ct_St) (a1 : Int32) (x : Int32) (hx : vp_in x 24) (h2 : vp_in (x - 1) 24) (K : ∀ (ls : Array Slot) (x1 : Int32), x1 = x + 1 → lv_has ls 3 [(0, .ref (g.2.1 30)), (1, .int a1), (2, .int x1)] → VW p l e (rmd 0) s m args below meth cd 0 0 Q A g shG (X8_enters_it a1 x t) (F0 m 11 ls [])) (ls : Array Slot) (hl : lv_has ls 3 [(0, .ref (g.2.1 30)), (1, .int a1), (2, .int x)]) : VW p l e (rmd 0) s m args below meth cd 0 0 Q A g shG t (F0 m 11 ls []) := by
  refine v_iload_n C dX8_enters_11 rfl (lv_at hl 2 rfl) ?_
  refine v_bipush (v := 24) C dX8_enters_12 (by decide) ?_
  refine v_icmp_ge (tgt := 65) C dX8_enters_14 (by decide) (fun h => absurd h ((vp_nle hx (by decide)))) (fun _ => ?_)
  refine v_aload_n C dX8_enters_17 rfl (lv_at hl 0 rfl) ?_
  refine v_getR C iX8_enters_X8 k_30 rfl rfl (j := 35) rfl (by decide) rfl (C.w 2 rfl) dX8_enters_18 ?_
  refine v_iload_n C dX8_enters_21 rfl (lv_at hl 2 rfl) ?_
  refine v_iconst (v := 1) C dX8_enters_22 (by decide) ?_
  refine v_isub C dX8_enters_23 ?_
  refine v_aload_n C dX8_enters_24 rfl (lv_at hl 0 rfl) ?_
  refine v_getR C iX8_enters_X8 k_30 rfl rfl (j := 35) rfl (by decide) rfl (C.w 2 rfl) dX8_enters_25 ?_
  refine v_iload_n C dX8_enters_28 rfl (lv_at hl 2 rfl) ?_
  refine v_iald C k_63 rfl hx dX8_enters_29 ?_
  refine v_iast C k_63 rfl h2 dX8_enters_30 ?_
  refine v_aload_n C dX8_enters_31 rfl (lv_at hl 0 rfl) ?_
  refine v_getR C iX8_enters_X8 k_30 rfl rfl (j := 36) rfl (by decide) rfl (C.w 3 rfl) dX8_enters_32 ?_
  refine v_iload_n C dX8_enters_35 rfl (lv_at hl 2 rfl) ?_
  refine v_iconst (v := 1) C dX8_enters_36 (by decide) ?_
  refine v_isub C dX8_enters_37 ?_
  refine v_aload_n C dX8_enters_38 rfl (lv_at hl 0 rfl) ?_
  refine v_getR C iX8_enters_X8 k_30 rfl rfl (j := 36) rfl (by decide) rfl (C.w 3 rfl) dX8_enters_39 ?_
  refine v_iload_n C dX8_enters_42 rfl (lv_at hl 2 rfl) ?_
  refine v_iald C k_64 rfl hx dX8_enters_43 ?_
  refine v_iast C k_64 rfl h2 dX8_enters_44 ?_
  refine v_aload_n C dX8_enters_45 rfl (lv_at hl 0 rfl) ?_
  refine v_getR C iX8_enters_X8 k_30 rfl rfl (j := 37) rfl (by decide) rfl (C.w 4 rfl) dX8_enters_46 ?_
  refine v_iload_n C dX8_enters_49 rfl (lv_at hl 2 rfl) ?_
  refine v_iconst (v := 1) C dX8_enters_50 (by decide) ?_
  refine v_isub C dX8_enters_51 ?_
  refine v_aload_n C dX8_enters_52 rfl (lv_at hl 0 rfl) ?_
  refine v_getR C iX8_enters_X8 k_30 rfl rfl (j := 37) rfl (by decide) rfl (C.w 4 rfl) dX8_enters_53 ?_
  refine v_iload_n C dX8_enters_56 rfl (lv_at hl 2 rfl) ?_
  refine v_iald C k_65 rfl hx dX8_enters_57 ?_
  refine v_iast C k_65 rfl h2 dX8_enters_58 ?_
  refine v_iinc (k0 := 2) (v := _ + 1) (lv' := [(2, _), (0, _), (1, _)]) C dX8_enters_59 hl rfl rfl (by decide) rfl (fun ls hl => ?_)
  refine v_goto (tgt := 11) C dX8_enters_62 (by decide) ?_
  exact VW.st rfl (K ls _ rfl (lv_sub hl [1, 2, 0] rfl))
def X8_enters_s (a1 : Int32) (t : ct_St) : ct_St :=
  if t 30 34 = 24 then
    let t5 := X8_enters_it a1 1 t
    let t6 := X8_enters_it a1 2 t5
    let t7 := X8_enters_it a1 3 t6
    let t8 := X8_enters_it a1 4 t7
    let t9 := X8_enters_it a1 5 t8
    let t10 := X8_enters_it a1 6 t9
    let t11 := X8_enters_it a1 7 t10
    let t12 := X8_enters_it a1 8 t11
    let t13 := X8_enters_it a1 9 t12
    let t14 := X8_enters_it a1 10 t13
    let t15 := X8_enters_it a1 11 t14
    let t16 := X8_enters_it a1 12 t15
    let t17 := X8_enters_it a1 13 t16
    let t18 := X8_enters_it a1 14 t17
    let t19 := X8_enters_it a1 15 t18
    let t20 := X8_enters_it a1 16 t19
    let t21 := X8_enters_it a1 17 t20
    let t22 := X8_enters_it a1 18 t21
    let t23 := X8_enters_it a1 19 t22
    let t24 := X8_enters_it a1 20 t23
    let t25 := X8_enters_it a1 21 t24
    let t26 := X8_enters_it a1 22 t25
    let t27 := X8_enters_it a1 23 t26
    let t28 := us t27 30 34 ((t27 30 34) - 1)
    let t29 := us t28 63 (ix (t28 30 34)) (t28 30 0)
    let t30 := us t29 64 (ix (t29 30 34)) a1
    let t31 := us t30 65 (ix (t30 30 34)) (t30 62 (ix a1))
    let t32 := us t31 30 34 ((t31 30 34) + 1)
    t32
  else
    let t1 := us t 63 (ix (t 30 34)) (t 30 0)
    let t2 := us t1 64 (ix (t1 30 34)) a1
    let t3 := us t2 65 (ix (t2 30 34)) (t2 62 (ix a1))
    let t4 := us t3 30 34 ((t3 30 34) + 1)
    t4
set_option maxHeartbeats 4000000 in
set_option maxRecDepth 100000 in
theorem c_X8_enters (l : Launch) (g : ct_G) (t : ct_St) (a1 : Int32) (h1 : vp_in a1 8) (he : vp_in (t 30 34) 25) : MV l g shG yX8_enters wsX8_enters (rmd 0) [.ref (g.2.1 30), .int a1] t (X8_enters_s a1 t) := by
  refine MV.of (own := RX8) (cc := cX8_enters) (maxL := 3) rfl (by decide) rfl (Nat.le_of_ble_eq_true rfl) (fun p e s m args below meth cd A Q C hret ls hl => ?_)
  have hl : lv_has ls 3 [(0, .ref (g.2.1 30)), (1, .int a1)] := hl
  refine v_aload_n C dX8_enters_0 rfl (lv_at hl 0 rfl) ?_
  refine v_getI C iX8_enters_X8 k_30 rfl rfl (j := 34) rfl (by decide) rfl (C.w 1 rfl) dX8_enters_1 ?_
  refine v_bipush (v := 24) C dX8_enters_4 (by decide) ?_
  refine v_icmp_ne (tgt := 75) C dX8_enters_6 (by decide) (fun c_1 => ?_) (fun c_1 => ?_)
  · refine v_aload_n C dX8_enters_75 rfl (lv_at hl 0 rfl) ?_
    refine v_getR C iX8_enters_X8 k_30 rfl rfl (j := 35) rfl (by decide) rfl (C.w 2 rfl) dX8_enters_76 ?_
    refine v_aload_n C dX8_enters_79 rfl (lv_at hl 0 rfl) ?_
    refine v_getI C iX8_enters_X8 k_30 rfl rfl (j := 34) rfl (by decide) rfl (C.w 1 rfl) dX8_enters_80 ?_
    refine v_aload_n C dX8_enters_83 rfl (lv_at hl 0 rfl) ?_
    refine v_getI C iX8_enters_X8 k_30 rfl rfl (j := 0) rfl (by decide) rfl (C.w 5 rfl) dX8_enters_84 ?_
    refine v_iast C k_63 rfl (ent_in2 he c_1) dX8_enters_87 ?_
    refine v_aload_n C dX8_enters_88 rfl (lv_at hl 0 rfl) ?_
    refine v_getR C iX8_enters_X8 k_30 rfl rfl (j := 36) rfl (by decide) rfl (C.w 3 rfl) dX8_enters_89 ?_
    refine v_aload_n C dX8_enters_92 rfl (lv_at hl 0 rfl) ?_
    refine v_getI C iX8_enters_X8 k_30 rfl rfl (j := 34) rfl (by decide) rfl (C.w 1 rfl) dX8_enters_93 ?_
    refine v_iload_n C dX8_enters_96 rfl (lv_at hl 1 rfl) ?_
    refine v_iast C k_64 rfl (ent_in2 he c_1) dX8_enters_97 ?_
    refine v_aload_n C dX8_enters_98 rfl (lv_at hl 0 rfl) ?_
    refine v_getR C iX8_enters_X8 k_30 rfl rfl (j := 37) rfl (by decide) rfl (C.w 4 rfl) dX8_enters_99 ?_
    refine v_aload_n C dX8_enters_102 rfl (lv_at hl 0 rfl) ?_
    refine v_getI C iX8_enters_X8 k_30 rfl rfl (j := 34) rfl (by decide) rfl (C.w 1 rfl) dX8_enters_103 ?_
    refine v_aload_n C dX8_enters_106 rfl (lv_at hl 0 rfl) ?_
    refine v_getR C iX8_enters_X8 k_30 rfl rfl (j := 33) rfl (by decide) rfl (C.w 6 rfl) dX8_enters_107 ?_
    refine v_iload_n C dX8_enters_110 rfl (lv_at hl 1 rfl) ?_
    refine v_iald C k_62 rfl h1 dX8_enters_111 ?_
    refine v_iast C k_65 rfl (ent_in2 he c_1) dX8_enters_112 ?_
    refine v_aload_n C dX8_enters_113 rfl (lv_at hl 0 rfl) ?_
    refine v_dup C dX8_enters_114 rfl ?_
    refine v_getI C iX8_enters_X8 k_30 rfl rfl (j := 34) rfl (by decide) rfl (C.w 1 rfl) dX8_enters_115 ?_
    refine v_iconst (v := 1) C dX8_enters_118 (by decide) ?_
    refine v_iadd C dX8_enters_119 ?_
    refine v_put C iX8_enters_X8 tyX8 tyX8_ok nmX8 k_30 rfl rfl (j := 34) rfl (by decide) rfl (C.w 1 rfl) rfl rfl rfl dX8_enters_120 ?_
    exact hret _ _ _ (Eq.symm ((if_neg c_1).trans rfl)) dX8_enters_123
  · refine v_iconst (v := 1) C dX8_enters_9 (by decide) ?_
    refine v_istore_n (lv' := [(2, _), (0, _), (1, _)]) C dX8_enters_10 rfl hl (by decide) rfl (fun ls hl => ?_)
    refine cb_X8_enters l g C _ _ 1 vl_1_24 (by unfold vp_in; decide) (fun ls x1 hx1 hl => ?_) ls (lv_sub hl [1, 2, 0] rfl)
    obtain rfl : x1 = 2 := hx1.trans (by decide)
    refine cb_X8_enters l g C _ _ 2 vl_2_24 (by unfold vp_in; decide) (fun ls x1 hx1 hl => ?_) ls (lv_sub hl [0, 1, 2] rfl)
    obtain rfl : x1 = 3 := hx1.trans (by decide)
    refine cb_X8_enters l g C _ _ 3 vl_3_24 (by unfold vp_in; decide) (fun ls x1 hx1 hl => ?_) ls (lv_sub hl [0, 1, 2] rfl)
    obtain rfl : x1 = 4 := hx1.trans (by decide)
    refine cb_X8_enters l g C _ _ 4 vl_4_24 (by unfold vp_in; decide) (fun ls x1 hx1 hl => ?_) ls (lv_sub hl [0, 1, 2] rfl)
    obtain rfl : x1 = 5 := hx1.trans (by decide)
    refine cb_X8_enters l g C _ _ 5 vl_5_24 (by unfold vp_in; decide) (fun ls x1 hx1 hl => ?_) ls (lv_sub hl [0, 1, 2] rfl)
    obtain rfl : x1 = 6 := hx1.trans (by decide)
    refine cb_X8_enters l g C _ _ 6 vl_6_24 (by unfold vp_in; decide) (fun ls x1 hx1 hl => ?_) ls (lv_sub hl [0, 1, 2] rfl)
    obtain rfl : x1 = 7 := hx1.trans (by decide)
    refine cb_X8_enters l g C _ _ 7 vl_7_24 (by unfold vp_in; decide) (fun ls x1 hx1 hl => ?_) ls (lv_sub hl [0, 1, 2] rfl)
    obtain rfl : x1 = 8 := hx1.trans (by decide)
    refine cb_X8_enters l g C _ _ 8 vl_8_24 (by unfold vp_in; decide) (fun ls x1 hx1 hl => ?_) ls (lv_sub hl [0, 1, 2] rfl)
    obtain rfl : x1 = 9 := hx1.trans (by decide)
    refine cb_X8_enters l g C _ _ 9 vl_9_24 (by unfold vp_in; decide) (fun ls x1 hx1 hl => ?_) ls (lv_sub hl [0, 1, 2] rfl)
    obtain rfl : x1 = 10 := hx1.trans (by decide)
    refine cb_X8_enters l g C _ _ 10 vl_10_24 (by unfold vp_in; decide) (fun ls x1 hx1 hl => ?_) ls (lv_sub hl [0, 1, 2] rfl)
    obtain rfl : x1 = 11 := hx1.trans (by decide)
    refine cb_X8_enters l g C _ _ 11 vl_11_24 (by unfold vp_in; decide) (fun ls x1 hx1 hl => ?_) ls (lv_sub hl [0, 1, 2] rfl)
    obtain rfl : x1 = 12 := hx1.trans (by decide)
    refine cb_X8_enters l g C _ _ 12 vl_12_24 (by unfold vp_in; decide) (fun ls x1 hx1 hl => ?_) ls (lv_sub hl [0, 1, 2] rfl)
    obtain rfl : x1 = 13 := hx1.trans (by decide)
    refine cb_X8_enters l g C _ _ 13 vl_13_24 (by unfold vp_in; decide) (fun ls x1 hx1 hl => ?_) ls (lv_sub hl [0, 1, 2] rfl)
    obtain rfl : x1 = 14 := hx1.trans (by decide)
    refine cb_X8_enters l g C _ _ 14 vl_14_24 (by unfold vp_in; decide) (fun ls x1 hx1 hl => ?_) ls (lv_sub hl [0, 1, 2] rfl)
    obtain rfl : x1 = 15 := hx1.trans (by decide)
    refine cb_X8_enters l g C _ _ 15 vl_15_24 (by unfold vp_in; decide) (fun ls x1 hx1 hl => ?_) ls (lv_sub hl [0, 1, 2] rfl)
    obtain rfl : x1 = 16 := hx1.trans (by decide)
    refine cb_X8_enters l g C _ _ 16 vl_16_24 (by unfold vp_in; decide) (fun ls x1 hx1 hl => ?_) ls (lv_sub hl [0, 1, 2] rfl)
    obtain rfl : x1 = 17 := hx1.trans (by decide)
    refine cb_X8_enters l g C _ _ 17 vl_17_24 (by unfold vp_in; decide) (fun ls x1 hx1 hl => ?_) ls (lv_sub hl [0, 1, 2] rfl)
    obtain rfl : x1 = 18 := hx1.trans (by decide)
    refine cb_X8_enters l g C _ _ 18 vl_18_24 (by unfold vp_in; decide) (fun ls x1 hx1 hl => ?_) ls (lv_sub hl [0, 1, 2] rfl)
    obtain rfl : x1 = 19 := hx1.trans (by decide)
    refine cb_X8_enters l g C _ _ 19 vl_19_24 (by unfold vp_in; decide) (fun ls x1 hx1 hl => ?_) ls (lv_sub hl [0, 1, 2] rfl)
    obtain rfl : x1 = 20 := hx1.trans (by decide)
    refine cb_X8_enters l g C _ _ 20 vl_20_24 (by unfold vp_in; decide) (fun ls x1 hx1 hl => ?_) ls (lv_sub hl [0, 1, 2] rfl)
    obtain rfl : x1 = 21 := hx1.trans (by decide)
    refine cb_X8_enters l g C _ _ 21 vl_21_24 (by unfold vp_in; decide) (fun ls x1 hx1 hl => ?_) ls (lv_sub hl [0, 1, 2] rfl)
    obtain rfl : x1 = 22 := hx1.trans (by decide)
    refine cb_X8_enters l g C _ _ 22 vl_22_24 (by unfold vp_in; decide) (fun ls x1 hx1 hl => ?_) ls (lv_sub hl [0, 1, 2] rfl)
    obtain rfl : x1 = 23 := hx1.trans (by decide)
    refine cb_X8_enters l g C _ _ 23 vl_23_24 (by unfold vp_in; decide) (fun ls x1 hx1 hl => ?_) ls (lv_sub hl [0, 1, 2] rfl)
    obtain rfl : x1 = 24 := hx1.trans (by decide)
    refine v_iload_n C dX8_enters_11 rfl (lv_at hl 2 rfl) ?_
    refine v_bipush (v := 24) C dX8_enters_12 (by decide) ?_
    refine v_icmp_ge (tgt := 65) C dX8_enters_14 (by decide) (fun _ => ?_) (fun h => absurd h (by decide))
    refine v_aload_n C dX8_enters_65 rfl (lv_at hl 0 rfl) ?_
    refine v_dup C dX8_enters_66 rfl ?_
    refine v_getI C iX8_enters_X8 k_30 rfl rfl (j := 34) rfl (by decide) rfl (C.w 1 rfl) dX8_enters_67 ?_
    refine v_iconst (v := 1) C dX8_enters_70 (by decide) ?_
    refine v_isub C dX8_enters_71 ?_
    refine v_put C iX8_enters_X8 tyX8 tyX8_ok nmX8 k_30 rfl rfl (j := 34) rfl (by decide) rfl (C.w 1 rfl) rfl rfl rfl dX8_enters_72 ?_
    refine v_aload_n C dX8_enters_75 rfl (lv_at hl 0 rfl) ?_
    refine v_getR C iX8_enters_X8 k_30 rfl rfl (j := 35) rfl (by decide) rfl (C.w 2 rfl) dX8_enters_76 ?_
    refine v_aload_n C dX8_enters_79 rfl (lv_at hl 0 rfl) ?_
    refine v_getI C iX8_enters_X8 k_30 rfl rfl (j := 34) rfl (by decide) rfl (C.w 1 rfl) dX8_enters_80 ?_
    refine v_aload_n C dX8_enters_83 rfl (lv_at hl 0 rfl) ?_
    refine v_getI C iX8_enters_X8 k_30 rfl rfl (j := 0) rfl (by decide) rfl (C.w 5 rfl) dX8_enters_84 ?_
    refine v_iast C k_63 rfl (ent_in c_1) dX8_enters_87 ?_
    refine v_aload_n C dX8_enters_88 rfl (lv_at hl 0 rfl) ?_
    refine v_getR C iX8_enters_X8 k_30 rfl rfl (j := 36) rfl (by decide) rfl (C.w 3 rfl) dX8_enters_89 ?_
    refine v_aload_n C dX8_enters_92 rfl (lv_at hl 0 rfl) ?_
    refine v_getI C iX8_enters_X8 k_30 rfl rfl (j := 34) rfl (by decide) rfl (C.w 1 rfl) dX8_enters_93 ?_
    refine v_iload_n C dX8_enters_96 rfl (lv_at hl 1 rfl) ?_
    refine v_iast C k_64 rfl (ent_in c_1) dX8_enters_97 ?_
    refine v_aload_n C dX8_enters_98 rfl (lv_at hl 0 rfl) ?_
    refine v_getR C iX8_enters_X8 k_30 rfl rfl (j := 37) rfl (by decide) rfl (C.w 4 rfl) dX8_enters_99 ?_
    refine v_aload_n C dX8_enters_102 rfl (lv_at hl 0 rfl) ?_
    refine v_getI C iX8_enters_X8 k_30 rfl rfl (j := 34) rfl (by decide) rfl (C.w 1 rfl) dX8_enters_103 ?_
    refine v_aload_n C dX8_enters_106 rfl (lv_at hl 0 rfl) ?_
    refine v_getR C iX8_enters_X8 k_30 rfl rfl (j := 33) rfl (by decide) rfl (C.w 6 rfl) dX8_enters_107 ?_
    refine v_iload_n C dX8_enters_110 rfl (lv_at hl 1 rfl) ?_
    refine v_iald C k_62 rfl h1 dX8_enters_111 ?_
    refine v_iast C k_65 rfl (ent_in c_1) dX8_enters_112 ?_
    refine v_aload_n C dX8_enters_113 rfl (lv_at hl 0 rfl) ?_
    refine v_dup C dX8_enters_114 rfl ?_
    refine v_getI C iX8_enters_X8 k_30 rfl rfl (j := 34) rfl (by decide) rfl (C.w 1 rfl) dX8_enters_115 ?_
    refine v_iconst (v := 1) C dX8_enters_118 (by decide) ?_
    refine v_iadd C dX8_enters_119 ?_
    refine v_put C iX8_enters_X8 tyX8 tyX8_ok nmX8 k_30 rfl rfl (j := 34) rfl (by decide) rfl (C.w 1 rfl) rfl rfl rfl dX8_enters_120 ?_
    exact hret _ _ _ (Eq.symm ((if_pos c_1).trans rfl)) dX8_enters_123
theorem X8_enters_s_fr (a1 : Int32) (t : ct_St) {r : Nat} (h30 : r ≠ 30) (h63 : r ≠ 63) (h64 : r ≠ 64) (h65 : r ≠ 65) : X8_enters_s a1 t r = t r := by
  dsimp only [X8_enters_s]
  (repeat' split) <;> simp only [us_ne, ur_ne, h30, h63, h64, h65, ne_eq, not_false_eq_true, X8_enters_it_fr]
theorem iX8_pins_X8 : ∀ w ∈ wsX80, w ∈ wsX8_pins := fun _ h => (List.mem_cons_of_mem _ (List.mem_append_right _ h))
theorem hv_X8_pins : yX8_pins.cls = RX8 ∧ yX8_pins.cls ≠ "java/lang/invoke/MethodHandle" ∧ yX8_pins.cls ≠ "java/lang/invoke/VarHandle" ∧ (parseMethodDescriptor yX8_pins.desc).map (fun d => d.parameters.length) = some 0 := by decide +kernel
def X8_pins_it (x : Int32) (t : ct_St) : ct_St :=
  let x1 := X8_pinThen_r (x / 2) (x - x / 2 * 2) t
  if x1 = t 62 (ix x) then
    t
  else
    let t2 := us t 62 (ix x) x1
    let t3 := X8_enters_s x t2
    t3
theorem X8_pins_it_fr (x : Int32) (t : ct_St) {r : Nat} (h30 : r ≠ 30) (h62 : r ≠ 62) (h63 : r ≠ 63) (h64 : r ≠ 64) (h65 : r ≠ 65) : X8_pins_it x t r = t r := by
  dsimp only [X8_pins_it]
  (repeat' split) <;> simp only [us_ne, ur_ne, h30, h62, h63, h64, h65, ne_eq, not_false_eq_true, X8_enters_s_fr]
theorem en30 (a1 : Int32) (t : ct_St) (he : vp_in (t 30 34) 25) : vp_in (X8_enters_s a1 t 30 34) 25 := by
  dsimp only [X8_enters_s]
  split
  · next h => exact ent_up (ent_in h)
  · next h => exact ent_up (ent_in2 he h)
theorem en30b (a1 : Int32) (t : ct_St) {k : Nat} (hk : k ≠ 34) : X8_enters_s a1 t 30 k = t 30 k := by
  dsimp only [X8_enters_s]
  split
  · rw [us_off hk, us_ne (by decide), us_ne (by decide), us_ne (by decide), us_off hk]
    rfl
  · rw [us_off hk]
    rfl
theorem ok_X8_enters_s (a1 : Int32) (t : ct_St) (h : okM t) : okM (X8_enters_s a1 t) := by
  unfold okM
  rw [X8_enters_s_fr a1 t (by decide) (by decide) (by decide) (by decide), X8_enters_s_fr a1 t (by decide) (by decide) (by decide) (by decide), X8_enters_s_fr a1 t (by decide) (by decide) (by decide) (by decide), X8_enters_s_fr a1 t (by decide) (by decide) (by decide) (by decide), X8_enters_s_fr a1 t (by decide) (by decide) (by decide) (by decide), en30b a1 t (by decide), en30b a1 t (by decide)]
  exact ⟨h.1, h.2.1, h.2.2.1, h.2.2.2.1, h.2.2.2.2.1, h.2.2.2.2.2.1, h.2.2.2.2.2.2.1, en30 a1 t h.2.2.2.2.2.2.2⟩
theorem ok_X8_pins_it (x : Int32) (t : ct_St) (h : okM t) : okM (X8_pins_it x t) := by
  dsimp only [X8_pins_it]
  split
  · exact h
  · exact ok_X8_enters_s _ _ (okM_ne h (by decide) (by decide) (by decide) (by decide) (by decide) (by decide))
set_option maxHeartbeats 4000000 in
set_option maxRecDepth 100000 in
theorem cb_X8_pins {p : Program} {e : Env} {s : State} {m : MethodId} {args : Array Value} {below : List Frame} {meth : Method} {cd : Code} {A : Nat → Prop} {Q : State → Prop} (l : Launch) (g : ct_G) (C : Cx p s m args cd A g cX8_pins RX8 wsX8_pins 3) (t : ct_St) (x : Int32) (hx : vp_in x 8) (h2 : vp_in (x / 2) 4) (hc : okM t) (K : ∀ (ls : Array Slot) (x1 : Int32), x1 = x + 1 → lv_has ls 3 [(0, .ref (g.2.1 30)), (1, .int x1)] → VW p l e (rmd 2) s m args below meth cd 0 0 Q A g shG (X8_pins_it x t) (F0 m 2 ls [])) (ls : Array Slot) (hl : lv_has ls 3 [(0, .ref (g.2.1 30)), (1, .int x)]) : VW p l e (rmd 2) s m args below meth cd 0 0 Q A g shG t (F0 m 2 ls []) := by
  refine v_iload_n C dX8_pins_2 rfl (lv_at hl 1 rfl) ?_
  refine v_bipush (v := 8) C dX8_pins_3 (by decide) ?_
  refine v_icmp_ge (tgt := 47) C dX8_pins_5 (by decide) (fun h => absurd h ((vp_nle hx (by decide)))) (fun _ => ?_)
  refine v_aload_n C dX8_pins_8 rfl (lv_at hl 0 rfl) ?_
  refine v_iload_n C dX8_pins_9 rfl (lv_at hl 1 rfl) ?_
  refine v_iconst (v := 2) C dX8_pins_10 (by decide) ?_
  refine v_idiv C dX8_pins_11 (by decide) ?_
  refine v_iload_n C dX8_pins_12 rfl (lv_at hl 1 rfl) ?_
  refine v_iconst (v := 2) C dX8_pins_13 (by decide) ?_
  refine v_irem C dX8_pins_14 (by decide) ?_
  refine v_calli C (c_X8_pinThen l g _ _ _ h2) (cwV 2 C.2.2.2.2.1 gX8_pins_X8_pinThen rfl rfl rfl hv_X8_pinThen ⟨Nat.le_of_ble_eq_true rfl, Nat.le_of_ble_eq_true rfl⟩) k_30 rfl rfl rfl rfl hl.1 rfl (Nat.le_of_ble_eq_true rfl) dX8_pins_15 ⟨Nat.le_refl _, Nat.le_refl _⟩ ?_
  refine v_istore_n (lv' := [(2, _), (0, _), (1, _)]) C dX8_pins_18 rfl hl (by decide) rfl (fun ls hl => ?_)
  refine v_iload_n C dX8_pins_19 rfl (lv_at hl 0 rfl) ?_
  refine v_aload_n C dX8_pins_20 rfl (lv_at hl 1 rfl) ?_
  refine v_getR C iX8_pins_X8 k_30 rfl rfl (j := 33) rfl (by decide) rfl (C.w 1 rfl) dX8_pins_21 ?_
  refine v_iload_n C dX8_pins_24 rfl (lv_at hl 2 rfl) ?_
  refine v_iald C k_62 rfl hx dX8_pins_25 ?_
  refine v_icmp_eq (tgt := 41) C dX8_pins_26 (by decide) (fun c_2 => ?_) (fun c_2 => ?_)
  · refine v_iinc (k0 := 2) (v := _ + 1) (lv' := [(1, _), (2, _), (0, _)]) C dX8_pins_41 hl rfl rfl (by decide) rfl (fun ls hl => ?_)
    refine v_goto (tgt := 2) C dX8_pins_44 (by decide) ?_
    exact VW.st (Eq.symm ((if_pos c_2).trans rfl)) (K ls _ rfl (lv_sub hl [2, 0] rfl))
  · refine v_aload_n C dX8_pins_29 rfl (lv_at hl 1 rfl) ?_
    refine v_getR C iX8_pins_X8 k_30 rfl rfl (j := 33) rfl (by decide) rfl (C.w 1 rfl) dX8_pins_30 ?_
    refine v_iload_n C dX8_pins_33 rfl (lv_at hl 2 rfl) ?_
    refine v_iload_n C dX8_pins_34 rfl (lv_at hl 0 rfl) ?_
    refine v_iast C k_62 rfl hx dX8_pins_35 ?_
    refine v_aload_n C dX8_pins_36 rfl (lv_at hl 1 rfl) ?_
    refine v_iload_n C dX8_pins_37 rfl (lv_at hl 2 rfl) ?_
    refine v_callv C (c_X8_enters l g _ _ hx hc.2.2.2.2.2.2.2) (cwV 1 C.2.2.2.2.1 gX8_pins_X8_enters rfl rfl rfl hv_X8_enters ⟨Nat.le_of_ble_eq_true rfl, Nat.le_of_ble_eq_true rfl⟩) k_30 rfl rfl rfl rfl hl.1 rfl (Nat.le_of_ble_eq_true rfl) dX8_pins_38 ⟨Nat.le_refl _, Nat.le_refl _⟩ ?_
    refine v_iinc (k0 := 2) (v := _ + 1) (lv' := [(1, _), (2, _), (0, _)]) C dX8_pins_41 hl rfl rfl (by decide) rfl (fun ls hl => ?_)
    refine v_goto (tgt := 2) C dX8_pins_44 (by decide) ?_
    exact VW.st (Eq.symm ((if_neg c_2).trans rfl)) (K ls _ rfl (lv_sub hl [2, 0] rfl))
def X8_pins_s (t : ct_St) : ct_St :=
  let t1 := X8_pins_it 0 t
  let t2 := X8_pins_it 1 t1
  let t3 := X8_pins_it 2 t2
  let t4 := X8_pins_it 3 t3
  let t5 := X8_pins_it 4 t4
  let t6 := X8_pins_it 5 t5
  let t7 := X8_pins_it 6 t6
  let t8 := X8_pins_it 7 t7
  t8
set_option maxHeartbeats 4000000 in
set_option maxRecDepth 100000 in
theorem c_X8_pins (l : Launch) (g : ct_G) (t : ct_St) (hc : okM t) : MV l g shG yX8_pins wsX8_pins (rmd 2) [.ref (g.2.1 30)] t (X8_pins_s t) := by
  refine MV.of (own := RX8) (cc := cX8_pins) (maxL := 3) rfl (by decide) rfl (Nat.le_of_ble_eq_true rfl) (fun p e s m args below meth cd A Q C hret ls hl => ?_)
  have hl : lv_has ls 3 [(0, .ref (g.2.1 30))] := hl
  refine v_iconst (v := 0) C dX8_pins_0 (by decide) ?_
  refine v_istore_n (lv' := [(1, _), (0, _)]) C dX8_pins_1 rfl hl (by decide) rfl (fun ls hl => ?_)
  refine cb_X8_pins l g C _ 0 vl_0_8 (by unfold vp_in; decide) hc (fun ls x1 hx1 hl => ?_) ls (lv_sub hl [1, 0] rfl)
  obtain rfl : x1 = 1 := hx1.trans (by decide)
  refine cb_X8_pins l g C _ 1 vl_1_8 (by unfold vp_in; decide) (ok_X8_pins_it _ _ hc) (fun ls x1 hx1 hl => ?_) ls (lv_sub hl [0, 1] rfl)
  obtain rfl : x1 = 2 := hx1.trans (by decide)
  refine cb_X8_pins l g C _ 2 vl_2_8 (by unfold vp_in; decide) (ok_X8_pins_it _ _ (ok_X8_pins_it _ _ hc)) (fun ls x1 hx1 hl => ?_) ls (lv_sub hl [0, 1] rfl)
  obtain rfl : x1 = 3 := hx1.trans (by decide)
  refine cb_X8_pins l g C _ 3 vl_3_8 (by unfold vp_in; decide) (ok_X8_pins_it _ _ (ok_X8_pins_it _ _ (ok_X8_pins_it _ _ hc))) (fun ls x1 hx1 hl => ?_) ls (lv_sub hl [0, 1] rfl)
  obtain rfl : x1 = 4 := hx1.trans (by decide)
  refine cb_X8_pins l g C _ 4 vl_4_8 (by unfold vp_in; decide) (ok_X8_pins_it _ _ (ok_X8_pins_it _ _ (ok_X8_pins_it _ _ (ok_X8_pins_it _ _ hc)))) (fun ls x1 hx1 hl => ?_) ls (lv_sub hl [0, 1] rfl)
  obtain rfl : x1 = 5 := hx1.trans (by decide)
  refine cb_X8_pins l g C _ 5 vl_5_8 (by unfold vp_in; decide) (ok_X8_pins_it _ _ (ok_X8_pins_it _ _ (ok_X8_pins_it _ _ (ok_X8_pins_it _ _ (ok_X8_pins_it _ _ hc))))) (fun ls x1 hx1 hl => ?_) ls (lv_sub hl [0, 1] rfl)
  obtain rfl : x1 = 6 := hx1.trans (by decide)
  refine cb_X8_pins l g C _ 6 vl_6_8 (by unfold vp_in; decide) (ok_X8_pins_it _ _ (ok_X8_pins_it _ _ (ok_X8_pins_it _ _ (ok_X8_pins_it _ _ (ok_X8_pins_it _ _ (ok_X8_pins_it _ _ hc)))))) (fun ls x1 hx1 hl => ?_) ls (lv_sub hl [0, 1] rfl)
  obtain rfl : x1 = 7 := hx1.trans (by decide)
  refine cb_X8_pins l g C _ 7 vl_7_8 (by unfold vp_in; decide) (ok_X8_pins_it _ _ (ok_X8_pins_it _ _ (ok_X8_pins_it _ _ (ok_X8_pins_it _ _ (ok_X8_pins_it _ _ (ok_X8_pins_it _ _ (ok_X8_pins_it _ _ hc))))))) (fun ls x1 hx1 hl => ?_) ls (lv_sub hl [0, 1] rfl)
  obtain rfl : x1 = 8 := hx1.trans (by decide)
  refine v_iload_n C dX8_pins_2 rfl (lv_at hl 1 rfl) ?_
  refine v_bipush (v := 8) C dX8_pins_3 (by decide) ?_
  refine v_icmp_ge (tgt := 47) C dX8_pins_5 (by decide) (fun _ => ?_) (fun h => absurd h (by decide))
  exact hret _ _ _ rfl dX8_pins_47
theorem ok_X8_pins_s (t : ct_St) (h : okM t) : okM (X8_pins_s t) := by
  dsimp only [X8_pins_s]
  exact ok_X8_pins_it _ _ (ok_X8_pins_it _ _ (ok_X8_pins_it _ _ (ok_X8_pins_it _ _ (ok_X8_pins_it _ _ (ok_X8_pins_it _ _ (ok_X8_pins_it _ _ (ok_X8_pins_it _ _ h)))))))
theorem X8_pins_s_fr (t : ct_St) {r : Nat} (h30 : r ≠ 30) (h62 : r ≠ 62) (h63 : r ≠ 63) (h64 : r ≠ 64) (h65 : r ≠ 65) : X8_pins_s t r = t r := by
  dsimp only [X8_pins_s]
  (repeat' split) <;> simp only [us_ne, ur_ne, h30, h62, h63, h64, h65, ne_eq, not_false_eq_true, X8_pins_it_fr]
