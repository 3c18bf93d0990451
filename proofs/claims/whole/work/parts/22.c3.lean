theorem iX7_runTick_X7 : ∀ w ∈ wsX70, w ∈ wsX7_runTick := fun _ h => (List.mem_cons_of_mem _ (List.mem_append_left _ (List.mem_append_left _ (List.mem_append_left _ (List.mem_append_left _ (List.mem_append_left _ (List.mem_append_left _ (List.mem_append_right _ h))))))))
theorem iX7_runTick_X3 : ∀ w ∈ wsX30, w ∈ wsX7_runTick := fun _ h => (List.mem_cons_of_mem _ (List.mem_append_left _ (List.mem_append_left _ (List.mem_append_left _ (List.mem_append_right _ h)))))
theorem iX7_runTick_X0 : ∀ w ∈ wsX00, w ∈ wsX7_runTick := fun _ h => (List.mem_cons_of_mem _ (List.mem_append_left _ (List.mem_append_left _ (List.mem_append_right _ h))))
theorem iX7_runTick_X2 : ∀ w ∈ wsX20, w ∈ wsX7_runTick := fun _ h => (List.mem_cons_of_mem _ (List.mem_append_left _ (List.mem_append_left _ (List.mem_append_left _ (List.mem_append_left _ (List.mem_append_right _ h))))))
theorem iX7_runTick_X1 : ∀ w ∈ wsX10, w ∈ wsX7_runTick := fun _ h => (List.mem_cons_of_mem _ (List.mem_append_left _ (List.mem_append_right _ h)))
theorem iX7_runTick_X6 : ∀ w ∈ wsX60, w ∈ wsX7_runTick := fun _ h => (List.mem_cons_of_mem _ (List.mem_append_left _ (List.mem_append_left _ (List.mem_append_left _ (List.mem_append_left _ (List.mem_append_left _ (List.mem_append_right _ h)))))))
theorem sample_0 (a1 a2 : Int32) (f : Nat → Int32) : X6_sample_s a1 a2 f 0 = f 0 ∧ X6_sample_s a1 a2 f 1 = f 1 := by
  dsimp only [X6_sample_s]
  (repeat' split) <;> exact ⟨rfl, rfl⟩
theorem okC_slow {t : ct_St} {f : Nat → Int32} (h : okC t) (hf : f 0 = t 7 0 ∧ f 1 = t 7 1) : okC (ur t 7 f) :=
  ⟨fun j hj => by rw [ur_ne _ _ (by omega)]; exact h.1 j hj, fun j hj => by rw [ur_ne _ _ (by omega)]; exact h.2.1 j hj, fun j hj => by rw [ur_ne _ _ (by omega)]; exact h.2.2.1 j hj, by rw [ur_at, hf.2]; exact h.2.2.2.1, by rw [ur_at, hf.1]; exact h.2.2.2.2.1, by rw [ur_ne _ _ (by decide)]; exact h.2.2.2.2.2⟩
theorem hv_X7_runTick : yX7_runTick.cls = RX7 ∧ yX7_runTick.cls ≠ "java/lang/invoke/MethodHandle" ∧ yX7_runTick.cls ≠ "java/lang/invoke/VarHandle" ∧ (parseMethodDescriptor yX7_runTick.desc).map (fun d => d.parameters.length) = some 0 := by decide +kernel
def X7_tin_it (y : Int32) (x : Int32) (t : ct_St) : ct_St :=
  let t1 := ur t (16 + ix x) (X3_look_s (t (16 + ix x)))
  t1
-- no frame of X7_tin_it: ['16 + ix x']
theorem ok_X7_tin_it (y x : Int32) (t : ct_St) (hx : vp_in x 4) (h : okC t) : okC (X7_tin_it y x t) := okC_ur h (by have := vp_lt hx; intro j hj; omega) (by have := vp_lt hx; omega) (by have := vp_lt hx; omega)
set_option maxHeartbeats 4000000 in
set_option maxRecDepth 100000 in
theorem cb_X7_tin {p : Program} {e : Env} {s : State} {m : MethodId} {args : Array Value} {below : List Frame} {meth : Method} {cd : Code} {A : Nat → Prop} {Q : State → Prop} (l : Launch) (g : ct_G) (C : Cx p s m args cd A g cX7_runTick RX7 wsX7_runTick 3) (t : ct_St) (y : Int32) (x : Int32) (hx : vp_in x 4) (K : ∀ (ls : Array Slot) (x1 : Int32), x1 = x + 1 → lv_has ls 3 [(0, .ref (g.2.1 0)), (1, .int y), (2, .int x1)] → VW p l e (rmd 4) s m args below meth cd 0 0 Q A g shG (X7_tin_it y x t) (F0 m 28 ls [])) (ls : Array Slot) (hl : lv_has ls 3 [(0, .ref (g.2.1 0)), (1, .int y), (2, .int x)]) : VW p l e (rmd 4) s m args below meth cd 0 0 Q A g shG t (F0 m 28 ls []) := by
  refine v_iload_n C dX7_runTick_28 rfl (lv_at hl 2 rfl) ?_
  refine v_iconst (v := 4) C dX7_runTick_29 (by decide) ?_
  refine v_icmp_ge (tgt := 48) C dX7_runTick_30 (by decide) (fun h => absurd h ((vp_nle hx (by decide)))) (fun _ => ?_)
  refine v_aload_n C dX7_runTick_33 rfl (lv_at hl 0 rfl) ?_
  refine v_getR C iX7_runTick_X7 k_0 rfl rfl (j := 1) rfl (by decide) rfl (C.w 6 rfl) dX7_runTick_34 ?_
  refine v_iload_n C dX7_runTick_37 rfl (lv_at hl 2 rfl) ?_
  refine v_aald C k_2 rfl rfl hx (q_inp (vp_lt hx)) dX7_runTick_38 ?_
  refine v_callv C (MV.un (c_X3_look l g _ _ (k_inp (vp_lt hx)) _)) (cwV 0 C.2.2.2.2.1 gX7_runTick_X3_look rfl rfl rfl hv_X3_look ⟨Nat.le_of_ble_eq_true rfl, Nat.le_of_ble_eq_true rfl⟩) (k_inp (vp_lt hx)) rfl rfl rfl rfl hl.1 rfl (Nat.le_of_ble_eq_true rfl) dX7_runTick_39 ⟨Nat.le_refl _, Nat.le_refl _⟩ ?_
  refine v_iinc (k0 := 2) (v := _ + 1) (lv' := [(2, _), (0, _), (1, _)]) C dX7_runTick_42 hl rfl rfl (by decide) rfl (fun ls hl => ?_)
  refine v_goto (tgt := 28) C dX7_runTick_45 (by decide) ?_
  exact VW.st rfl (K ls _ rfl (lv_sub hl [1, 2, 0] rfl))
def X7_tcn_it (y : Int32) (x : Int32) (t : ct_St) : ct_St :=
  let t1 := ur t (12 + ix x) (X2_pass_s (X7_hasPulse_r x t) (t (12 + ix x)))
  t1
-- no frame of X7_tcn_it: ['12 + ix x']
theorem ok_X7_tcn_it (y x : Int32) (t : ct_St) (hx : vp_in x 4) (h : okC t) : okC (X7_tcn_it y x t) := okC_ur h (by have := vp_lt hx; intro j hj; omega) (by have := vp_lt hx; omega) (by have := vp_lt hx; omega)
set_option maxHeartbeats 4000000 in
set_option maxRecDepth 100000 in
theorem cb_X7_tcn {p : Program} {e : Env} {s : State} {m : MethodId} {args : Array Value} {below : List Frame} {meth : Method} {cd : Code} {A : Nat → Prop} {Q : State → Prop} (l : Launch) (g : ct_G) (C : Cx p s m args cd A g cX7_runTick RX7 wsX7_runTick 3) (t : ct_St) (y : Int32) (x : Int32) (hx : vp_in x 4) (K : ∀ (ls : Array Slot) (x1 : Int32), x1 = x + 1 → lv_has ls 3 [(0, .ref (g.2.1 0)), (1, .int y), (2, .int x1)] → VW p l e (rmd 4) s m args below meth cd 0 0 Q A g shG (X7_tcn_it y x t) (F0 m 50 ls [])) (ls : Array Slot) (hl : lv_has ls 3 [(0, .ref (g.2.1 0)), (1, .int y), (2, .int x)]) : VW p l e (rmd 4) s m args below meth cd 0 0 Q A g shG t (F0 m 50 ls []) := by
  refine v_iload_n C dX7_runTick_50 rfl (lv_at hl 2 rfl) ?_
  refine v_iconst (v := 4) C dX7_runTick_51 (by decide) ?_
  refine v_icmp_ge (tgt := 75) C dX7_runTick_52 (by decide) (fun h => absurd h ((vp_nle hx (by decide)))) (fun _ => ?_)
  refine v_aload_n C dX7_runTick_55 rfl (lv_at hl 0 rfl) ?_
  refine v_getR C iX7_runTick_X7 k_0 rfl rfl (j := 0) rfl (by decide) rfl (C.w 2 rfl) dX7_runTick_56 ?_
  refine v_iload_n C dX7_runTick_59 rfl (lv_at hl 2 rfl) ?_
  refine v_aald C k_1 rfl rfl hx (q_cnt (vp_lt hx)) dX7_runTick_60 ?_
  refine v_aload_n C dX7_runTick_61 rfl (lv_at hl 0 rfl) ?_
  refine v_iload_n C dX7_runTick_62 rfl (lv_at hl 2 rfl) ?_
  refine v_calli C (c_X7_hasPulse l g _ _ hx) (cwV 1 C.2.2.2.2.1 gX7_runTick_X7_hasPulse rfl rfl rfl hv_X7_hasPulse ⟨Nat.le_of_ble_eq_true rfl, Nat.le_of_ble_eq_true rfl⟩) k_0 rfl rfl rfl rfl hl.1 rfl (Nat.le_of_ble_eq_true rfl) dX7_runTick_63 ⟨Nat.le_refl _, Nat.le_refl _⟩ ?_
  refine v_callv C (MV.un (c_X2_pass l g _ _ (k_cnt (vp_lt hx)) _ _)) (cwV 1 C.2.2.2.2.1 gX7_runTick_X2_pass rfl rfl rfl hv_X2_pass ⟨Nat.le_of_ble_eq_true rfl, Nat.le_of_ble_eq_true rfl⟩) (k_cnt (vp_lt hx)) rfl rfl rfl rfl hl.1 rfl (Nat.le_of_ble_eq_true rfl) dX7_runTick_66 ⟨Nat.le_refl _, Nat.le_refl _⟩ ?_
  refine v_iinc (k0 := 2) (v := _ + 1) (lv' := [(2, _), (0, _), (1, _)]) C dX7_runTick_69 hl rfl rfl (by decide) rfl (fun ls hl => ?_)
  refine v_goto (tgt := 50) C dX7_runTick_72 (by decide) ?_
  exact VW.st rfl (K ls _ rfl (lv_sub hl [1, 2, 0] rfl))
def X7_tct_it (y : Int32) (x : Int32) (t : ct_St) : ct_St :=
  let t1 := ur t (20 + ix x) (X0_notice_s (t (16 + ix x) 4) (t (12 + ix (t (20 + ix x) 0)) 4) (t (20 + ix x)))
  t1
-- no frame of X7_tct_it: ['20 + ix x']
theorem notice_0 (a1 a2 : Int32) (f : Nat → Int32) : X0_notice_s a1 a2 f 0 = f 0 ∧ X0_notice_s a1 a2 f 2 = f 2 := by
  dsimp only [X0_notice_s]
  (repeat' split) <;> exact ⟨rfl, rfl⟩
theorem ok_X7_tct_it (y x : Int32) (t : ct_St) (hx : vp_in x 4) (h : okC t) : okC (X7_tct_it y x t) := by
  have hl := vp_lt hx
  have e : ∀ j, j < 4 → ∀ k, k = 0 ∨ k = 2 → X7_tct_it y x t (20 + j) k = t (20 + j) k := by
    intro j hj k hk
    dsimp only [X7_tct_it]
    by_cases q : 20 + j = 20 + ix x
    · rw [q, ur_at]
      rcases hk with rfl | rfl
      · exact (notice_0 _ _ _).1
      · exact (notice_0 _ _ _).2
    · rw [ur_ne _ _ q]
  refine okC_of h (fun j hj => e j hj 0 (Or.inl rfl)) (fun j hj => e j hj 2 (Or.inr rfl)) (fun j hj => ?_) (ur_ne _ _ (by omega)) (by dsimp only [X7_tct_it]; rw [ur_ne _ _ (by omega)]; exact h.2.2.2.2.2)
  dsimp only [X7_tct_it]
  rw [ur_ne _ _ (by omega)]
set_option maxHeartbeats 4000000 in
set_option maxRecDepth 100000 in
theorem cb_X7_tct {p : Program} {e : Env} {s : State} {m : MethodId} {args : Array Value} {below : List Frame} {meth : Method} {cd : Code} {A : Nat → Prop} {Q : State → Prop} (l : Launch) (g : ct_G) (C : Cx p s m args cd A g cX7_runTick RX7 wsX7_runTick 3) (t : ct_St) (y : Int32) (x : Int32) (hx : vp_in x 4) (hc : okC t) (K : ∀ (ls : Array Slot) (x1 : Int32), x1 = x + 1 → lv_has ls 3 [(0, .ref (g.2.1 0)), (1, .int y), (2, .int x1)] → VW p l e (rmd 4) s m args below meth cd 0 0 Q A g shG (X7_tct_it y x t) (F0 m 77 ls [])) (ls : Array Slot) (hl : lv_has ls 3 [(0, .ref (g.2.1 0)), (1, .int y), (2, .int x)]) : VW p l e (rmd 4) s m args below meth cd 0 0 Q A g shG t (F0 m 77 ls []) := by
  refine v_iload_n C dX7_runTick_77 rfl (lv_at hl 2 rfl) ?_
  refine v_iconst (v := 4) C dX7_runTick_78 (by decide) ?_
  refine v_icmp_ge (tgt := 123) C dX7_runTick_79 (by decide) (fun h => absurd h ((vp_nle hx (by decide)))) (fun _ => ?_)
  refine v_aload_n C dX7_runTick_82 rfl (lv_at hl 0 rfl) ?_
  refine v_getR C iX7_runTick_X7 k_0 rfl rfl (j := 2) rfl (by decide) rfl (C.w 7 rfl) dX7_runTick_83 ?_
  refine v_iload_n C dX7_runTick_86 rfl (lv_at hl 2 rfl) ?_
  refine v_aald C k_3 rfl rfl hx (q_cat (vp_lt hx)) dX7_runTick_87 ?_
  refine v_aload_n C dX7_runTick_88 rfl (lv_at hl 0 rfl) ?_
  refine v_getR C iX7_runTick_X7 k_0 rfl rfl (j := 1) rfl (by decide) rfl (C.w 6 rfl) dX7_runTick_89 ?_
  refine v_iload_n C dX7_runTick_92 rfl (lv_at hl 2 rfl) ?_
  refine v_aald C k_2 rfl rfl hx (q_inp (vp_lt hx)) dX7_runTick_93 ?_
  refine v_getI C iX7_runTick_X3 (k_inp (vp_lt hx)) rfl rfl (j := 4) rfl (by decide) rfl (C.w 8 rfl) dX7_runTick_94 ?_
  refine v_aload_n C dX7_runTick_97 rfl (lv_at hl 0 rfl) ?_
  refine v_getR C iX7_runTick_X7 k_0 rfl rfl (j := 0) rfl (by decide) rfl (C.w 2 rfl) dX7_runTick_98 ?_
  refine v_aload_n C dX7_runTick_101 rfl (lv_at hl 0 rfl) ?_
  refine v_getR C iX7_runTick_X7 k_0 rfl rfl (j := 2) rfl (by decide) rfl (C.w 7 rfl) dX7_runTick_102 ?_
  refine v_iload_n C dX7_runTick_105 rfl (lv_at hl 2 rfl) ?_
  refine v_aald C k_3 rfl rfl hx (q_cat (vp_lt hx)) dX7_runTick_106 ?_
  refine v_getI C iX7_runTick_X0 (k_cat (vp_lt hx)) rfl rfl (j := 0) rfl (by decide) rfl (C.w 9 rfl) dX7_runTick_107 ?_
  refine v_aald C k_1 rfl rfl (hc.1 _ (vp_lt hx)) (q_cnt (vp_lt (hc.1 _ (vp_lt hx)))) dX7_runTick_110 ?_
  refine v_getI C iX7_runTick_X2 (k_cnt (vp_lt (hc.1 _ (vp_lt hx)))) rfl rfl (j := 4) rfl (by decide) rfl (C.w 5 rfl) dX7_runTick_111 ?_
  refine v_callv C (MV.un (c_X0_notice l g _ _ (k_cat (vp_lt hx)) _ _ _ (hc.2.1 _ (vp_lt hx)))) (cwV 2 C.2.2.2.2.1 gX7_runTick_X0_notice rfl rfl rfl hv_X0_notice ⟨Nat.le_of_ble_eq_true rfl, Nat.le_of_ble_eq_true rfl⟩) (k_cat (vp_lt hx)) rfl rfl rfl rfl hl.1 rfl (Nat.le_of_ble_eq_true rfl) dX7_runTick_114 ⟨Nat.le_refl _, Nat.le_refl _⟩ ?_
  refine v_iinc (k0 := 2) (v := _ + 1) (lv' := [(2, _), (0, _), (1, _)]) C dX7_runTick_117 hl rfl rfl (by decide) rfl (fun ls hl => ?_)
  refine v_goto (tgt := 77) C dX7_runTick_120 (by decide) ?_
  exact VW.st rfl (K ls _ rfl (lv_sub hl [1, 2, 0] rfl))
def X7_tch_it (y : Int32) (x : Int32) (t : ct_St) : ct_St :=
  let t1 := ur t (24 + ix x) (X1_follow_s (t (12 + ix (t (24 + ix x) 0))) (t (24 + ix x)))
  t1
-- no frame of X7_tch_it: ['24 + ix x']
theorem ok_X7_tch_it (y x : Int32) (t : ct_St) (hx : vp_in x 4) (h : okC t) : okC (X7_tch_it y x t) := okC_chn h hx (Or.inl (by
  dsimp only [X1_follow_s]
  (repeat' split) <;> rfl))
set_option maxHeartbeats 4000000 in
set_option maxRecDepth 100000 in
theorem cb_X7_tch {p : Program} {e : Env} {s : State} {m : MethodId} {args : Array Value} {below : List Frame} {meth : Method} {cd : Code} {A : Nat → Prop} {Q : State → Prop} (l : Launch) (g : ct_G) (C : Cx p s m args cd A g cX7_runTick RX7 wsX7_runTick 3) (t : ct_St) (y : Int32) (x : Int32) (hx : vp_in x 4) (hc : okC t) (K : ∀ (ls : Array Slot) (x1 : Int32), x1 = x + 1 → lv_has ls 3 [(0, .ref (g.2.1 0)), (1, .int y), (2, .int x1)] → VW p l e (rmd 4) s m args below meth cd 0 0 Q A g shG (X7_tch_it y x t) (F0 m 125 ls [])) (ls : Array Slot) (hl : lv_has ls 3 [(0, .ref (g.2.1 0)), (1, .int y), (2, .int x)]) : VW p l e (rmd 4) s m args below meth cd 0 0 Q A g shG t (F0 m 125 ls []) := by
  refine v_iload_n C dX7_runTick_125 rfl (lv_at hl 2 rfl) ?_
  refine v_iconst (v := 4) C dX7_runTick_126 (by decide) ?_
  refine v_icmp_ge (tgt := 159) C dX7_runTick_127 (by decide) (fun h => absurd h ((vp_nle hx (by decide)))) (fun _ => ?_)
  refine v_aload_n C dX7_runTick_130 rfl (lv_at hl 0 rfl) ?_
  refine v_getR C iX7_runTick_X7 k_0 rfl rfl (j := 3) rfl (by decide) rfl (C.w 10 rfl) dX7_runTick_131 ?_
  refine v_iload_n C dX7_runTick_134 rfl (lv_at hl 2 rfl) ?_
  refine v_aald C k_4 rfl rfl hx (q_chn (vp_lt hx)) dX7_runTick_135 ?_
  refine v_aload_n C dX7_runTick_136 rfl (lv_at hl 0 rfl) ?_
  refine v_getR C iX7_runTick_X7 k_0 rfl rfl (j := 0) rfl (by decide) rfl (C.w 2 rfl) dX7_runTick_137 ?_
  refine v_aload_n C dX7_runTick_140 rfl (lv_at hl 0 rfl) ?_
  refine v_getR C iX7_runTick_X7 k_0 rfl rfl (j := 3) rfl (by decide) rfl (C.w 10 rfl) dX7_runTick_141 ?_
  refine v_iload_n C dX7_runTick_144 rfl (lv_at hl 2 rfl) ?_
  refine v_aald C k_4 rfl rfl hx (q_chn (vp_lt hx)) dX7_runTick_145 ?_
  refine v_getI C iX7_runTick_X1 (k_chn (vp_lt hx)) rfl rfl (j := 0) rfl (by decide) rfl (C.w 11 rfl) dX7_runTick_146 ?_
  refine v_aald C k_1 rfl rfl (hc.2.2.1 _ (vp_lt hx)) (q_cnt (vp_lt (hc.2.2.1 _ (vp_lt hx)))) dX7_runTick_149 ?_
  refine v_callv C (MV.un (c_X1_follow l g _ _ (k_chn (vp_lt hx)) _ _ (k_cnt (vp_lt (hc.2.2.1 _ (vp_lt hx)))) (by have h9 := vp_lt (hc.2.2.1 _ (vp_lt hx)); omega))) (cwV 1 C.2.2.2.2.1 gX7_runTick_X1_follow rfl rfl rfl hv_X1_follow ⟨Nat.le_of_ble_eq_true rfl, Nat.le_of_ble_eq_true rfl⟩) (k_chn (vp_lt hx)) rfl rfl rfl rfl hl.1 rfl (Nat.le_of_ble_eq_true rfl) dX7_runTick_150 ⟨Nat.le_refl _, Nat.le_refl _⟩ ?_
  refine v_iinc (k0 := 2) (v := _ + 1) (lv' := [(2, _), (0, _), (1, _)]) C dX7_runTick_153 hl rfl rfl (by decide) rfl (fun ls hl => ?_)
  refine v_goto (tgt := 125) C dX7_runTick_156 (by decide) ?_
  exact VW.st rfl (K ls _ rfl (lv_sub hl [1, 2, 0] rfl))
def X7_runTick_s (t : ct_St) : ct_St :=
  let t1 := us t 0 7 ((t 0 7) + 1)
  let x2 := t1 (12 + ix (t1 7 1)) 4
  let t3 := X7_tin_it x2 0 t1
  let t4 := X7_tin_it x2 1 t3
  let t5 := X7_tin_it x2 2 t4
  let t6 := X7_tin_it x2 3 t5
  let t7 := X7_tcn_it x2 0 t6
  let t8 := X7_tcn_it x2 1 t7
  let t9 := X7_tcn_it x2 2 t8
  let t10 := X7_tcn_it x2 3 t9
  let t11 := X7_tct_it x2 0 t10
  let t12 := X7_tct_it x2 1 t11
  let t13 := X7_tct_it x2 2 t12
  let t14 := X7_tct_it x2 3 t13
  let t15 := X7_tch_it x2 0 t14
  let t16 := X7_tch_it x2 1 t15
  let t17 := X7_tch_it x2 2 t16
  let t18 := X7_tch_it x2 3 t17
  if (t18 0 7) - (t18 0 7) / (t18 7 0) * (t18 7 0) = 0 then
    let t20 := ur t18 7 (X6_sample_s x2 (t18 (12 + ix (t18 7 1)) 4) (t18 7))
    let t21 := X7_workOutPins_s t20
    t21
  else
    let t19 := X7_workOutPins_s t18
    t19
set_option maxHeartbeats 4000000 in
set_option maxRecDepth 100000 in
theorem c_X7_runTick (l : Launch) (g : ct_G) (t : ct_St) (hc : okC t) : MV l g shG yX7_runTick wsX7_runTick (rmd 4) [.ref (g.2.1 0)] t (X7_runTick_s t) := by
  refine MV.of (own := RX7) (cc := cX7_runTick) (maxL := 3) rfl (by decide) rfl (Nat.le_of_ble_eq_true rfl) (fun p e s m args below meth cd A Q C hret ls hl => ?_)
  have hl : lv_has ls 3 [(0, .ref (g.2.1 0))] := hl
  refine v_aload_n C dX7_runTick_0 rfl (lv_at hl 0 rfl) ?_
  refine v_dup C dX7_runTick_1 rfl ?_
  refine v_getI C iX7_runTick_X7 k_0 rfl rfl (j := 7) rfl (by decide) rfl (C.w 1 rfl) dX7_runTick_2 ?_
  refine v_iconst (v := 1) C dX7_runTick_5 (by decide) ?_
  refine v_iadd C dX7_runTick_6 ?_
  refine v_put C iX7_runTick_X7 tyX7 tyX7_ok nmX7 k_0 rfl rfl (j := 7) rfl (by decide) rfl (C.w 1 rfl) rfl rfl rfl dX7_runTick_7 ?_
  refine v_aload_n C dX7_runTick_10 rfl (lv_at hl 0 rfl) ?_
  refine v_getR C iX7_runTick_X7 k_0 rfl rfl (j := 0) rfl (by decide) rfl (C.w 2 rfl) dX7_runTick_11 ?_
  refine v_aload_n C dX7_runTick_14 rfl (lv_at hl 0 rfl) ?_
  refine v_getR C iX7_runTick_X7 k_0 rfl rfl (j := 6) rfl (by decide) rfl (C.w 3 rfl) dX7_runTick_15 ?_
  refine v_getI C iX7_runTick_X6 k_7 rfl rfl (j := 1) rfl (by decide) rfl (C.w 4 rfl) dX7_runTick_18 ?_
  refine v_aald C k_1 rfl rfl (okC_us hc (by intro j hj; omega) (by decide) (by decide)).2.2.2.1 (q_cnt (vp_lt (okC_us hc (by intro j hj; omega) (by decide) (by decide)).2.2.2.1)) dX7_runTick_21 ?_
  refine v_getI C iX7_runTick_X2 (k_cnt (vp_lt (okC_us hc (by intro j hj; omega) (by decide) (by decide)).2.2.2.1)) rfl rfl (j := 4) rfl (by decide) rfl (C.w 5 rfl) dX7_runTick_22 ?_
  refine v_istore_n (lv' := [(1, _), (0, _)]) C dX7_runTick_25 rfl hl (by decide) rfl (fun ls hl => ?_)
  refine v_iconst (v := 0) C dX7_runTick_26 (by decide) ?_
  refine v_istore_n (lv' := [(2, _), (1, _), (0, _)]) C dX7_runTick_27 rfl hl (by decide) rfl (fun ls hl => ?_)
  refine cb_X7_tin l g C _ _ 0 vl_0_4 (fun ls x1 hx1 hl => ?_) ls (lv_sub hl [2, 1, 0] rfl)
  obtain rfl : x1 = 1 := hx1.trans (by decide)
  refine cb_X7_tin l g C _ _ 1 vl_1_4 (fun ls x1 hx1 hl => ?_) ls (lv_sub hl [0, 1, 2] rfl)
  obtain rfl : x1 = 2 := hx1.trans (by decide)
  refine cb_X7_tin l g C _ _ 2 vl_2_4 (fun ls x1 hx1 hl => ?_) ls (lv_sub hl [0, 1, 2] rfl)
  obtain rfl : x1 = 3 := hx1.trans (by decide)
  refine cb_X7_tin l g C _ _ 3 vl_3_4 (fun ls x1 hx1 hl => ?_) ls (lv_sub hl [0, 1, 2] rfl)
  obtain rfl : x1 = 4 := hx1.trans (by decide)
  refine v_iload_n C dX7_runTick_28 rfl (lv_at hl 2 rfl) ?_
  refine v_iconst (v := 4) C dX7_runTick_29 (by decide) ?_
  refine v_icmp_ge (tgt := 48) C dX7_runTick_30 (by decide) (fun _ => ?_) (fun h => absurd h (by decide))
  refine v_iconst (v := 0) C dX7_runTick_48 (by decide) ?_
  refine v_istore_n (lv' := [(2, _), (0, _), (1, _)]) C dX7_runTick_49 rfl hl (by decide) rfl (fun ls hl => ?_)
  refine cb_X7_tcn l g C _ _ 0 vl_0_4 (fun ls x1 hx1 hl => ?_) ls (lv_sub hl [1, 2, 0] rfl)
  obtain rfl : x1 = 1 := hx1.trans (by decide)
  refine cb_X7_tcn l g C _ _ 1 vl_1_4 (fun ls x1 hx1 hl => ?_) ls (lv_sub hl [0, 1, 2] rfl)
  obtain rfl : x1 = 2 := hx1.trans (by decide)
  refine cb_X7_tcn l g C _ _ 2 vl_2_4 (fun ls x1 hx1 hl => ?_) ls (lv_sub hl [0, 1, 2] rfl)
  obtain rfl : x1 = 3 := hx1.trans (by decide)
  refine cb_X7_tcn l g C _ _ 3 vl_3_4 (fun ls x1 hx1 hl => ?_) ls (lv_sub hl [0, 1, 2] rfl)
  obtain rfl : x1 = 4 := hx1.trans (by decide)
  refine v_iload_n C dX7_runTick_50 rfl (lv_at hl 2 rfl) ?_
  refine v_iconst (v := 4) C dX7_runTick_51 (by decide) ?_
  refine v_icmp_ge (tgt := 75) C dX7_runTick_52 (by decide) (fun _ => ?_) (fun h => absurd h (by decide))
  refine v_iconst (v := 0) C dX7_runTick_75 (by decide) ?_
  refine v_istore_n (lv' := [(2, _), (0, _), (1, _)]) C dX7_runTick_76 rfl hl (by decide) rfl (fun ls hl => ?_)
  refine cb_X7_tct l g C _ _ 0 vl_0_4 (ok_X7_tcn_it _ _ _ vl_3_4 (ok_X7_tcn_it _ _ _ vl_2_4 (ok_X7_tcn_it _ _ _ vl_1_4 (ok_X7_tcn_it _ _ _ vl_0_4 (ok_X7_tin_it _ _ _ vl_3_4 (ok_X7_tin_it _ _ _ vl_2_4 (ok_X7_tin_it _ _ _ vl_1_4 (ok_X7_tin_it _ _ _ vl_0_4 (okC_us hc (by intro j hj; omega) (by decide) (by decide)))))))))) (fun ls x1 hx1 hl => ?_) ls (lv_sub hl [1, 2, 0] rfl)
  obtain rfl : x1 = 1 := hx1.trans (by decide)
  refine cb_X7_tct l g C _ _ 1 vl_1_4 (ok_X7_tct_it _ _ _ vl_0_4 (ok_X7_tcn_it _ _ _ vl_3_4 (ok_X7_tcn_it _ _ _ vl_2_4 (ok_X7_tcn_it _ _ _ vl_1_4 (ok_X7_tcn_it _ _ _ vl_0_4 (ok_X7_tin_it _ _ _ vl_3_4 (ok_X7_tin_it _ _ _ vl_2_4 (ok_X7_tin_it _ _ _ vl_1_4 (ok_X7_tin_it _ _ _ vl_0_4 (okC_us hc (by intro j hj; omega) (by decide) (by decide))))))))))) (fun ls x1 hx1 hl => ?_) ls (lv_sub hl [0, 1, 2] rfl)
  obtain rfl : x1 = 2 := hx1.trans (by decide)
  refine cb_X7_tct l g C _ _ 2 vl_2_4 (ok_X7_tct_it _ _ _ vl_1_4 (ok_X7_tct_it _ _ _ vl_0_4 (ok_X7_tcn_it _ _ _ vl_3_4 (ok_X7_tcn_it _ _ _ vl_2_4 (ok_X7_tcn_it _ _ _ vl_1_4 (ok_X7_tcn_it _ _ _ vl_0_4 (ok_X7_tin_it _ _ _ vl_3_4 (ok_X7_tin_it _ _ _ vl_2_4 (ok_X7_tin_it _ _ _ vl_1_4 (ok_X7_tin_it _ _ _ vl_0_4 (okC_us hc (by intro j hj; omega) (by decide) (by decide)))))))))))) (fun ls x1 hx1 hl => ?_) ls (lv_sub hl [0, 1, 2] rfl)
  obtain rfl : x1 = 3 := hx1.trans (by decide)
  refine cb_X7_tct l g C _ _ 3 vl_3_4 (ok_X7_tct_it _ _ _ vl_2_4 (ok_X7_tct_it _ _ _ vl_1_4 (ok_X7_tct_it _ _ _ vl_0_4 (ok_X7_tcn_it _ _ _ vl_3_4 (ok_X7_tcn_it _ _ _ vl_2_4 (ok_X7_tcn_it _ _ _ vl_1_4 (ok_X7_tcn_it _ _ _ vl_0_4 (ok_X7_tin_it _ _ _ vl_3_4 (ok_X7_tin_it _ _ _ vl_2_4 (ok_X7_tin_it _ _ _ vl_1_4 (ok_X7_tin_it _ _ _ vl_0_4 (okC_us hc (by intro j hj; omega) (by decide) (by decide))))))))))))) (fun ls x1 hx1 hl => ?_) ls (lv_sub hl [0, 1, 2] rfl)
  obtain rfl : x1 = 4 := hx1.trans (by decide)
  refine v_iload_n C dX7_runTick_77 rfl (lv_at hl 2 rfl) ?_
  refine v_iconst (v := 4) C dX7_runTick_78 (by decide) ?_
  refine v_icmp_ge (tgt := 123) C dX7_runTick_79 (by decide) (fun _ => ?_) (fun h => absurd h (by decide))
  refine v_iconst (v := 0) C dX7_runTick_123 (by decide) ?_
  refine v_istore_n (lv' := [(2, _), (0, _), (1, _)]) C dX7_runTick_124 rfl hl (by decide) rfl (fun ls hl => ?_)
  refine cb_X7_tch l g C _ _ 0 vl_0_4 (ok_X7_tct_it _ _ _ vl_3_4 (ok_X7_tct_it _ _ _ vl_2_4 (ok_X7_tct_it _ _ _ vl_1_4 (ok_X7_tct_it _ _ _ vl_0_4 (ok_X7_tcn_it _ _ _ vl_3_4 (ok_X7_tcn_it _ _ _ vl_2_4 (ok_X7_tcn_it _ _ _ vl_1_4 (ok_X7_tcn_it _ _ _ vl_0_4 (ok_X7_tin_it _ _ _ vl_3_4 (ok_X7_tin_it _ _ _ vl_2_4 (ok_X7_tin_it _ _ _ vl_1_4 (ok_X7_tin_it _ _ _ vl_0_4 (okC_us hc (by intro j hj; omega) (by decide) (by decide)))))))))))))) (fun ls x1 hx1 hl => ?_) ls (lv_sub hl [1, 2, 0] rfl)
  obtain rfl : x1 = 1 := hx1.trans (by decide)
  refine cb_X7_tch l g C _ _ 1 vl_1_4 (ok_X7_tch_it _ _ _ vl_0_4 (ok_X7_tct_it _ _ _ vl_3_4 (ok_X7_tct_it _ _ _ vl_2_4 (ok_X7_tct_it _ _ _ vl_1_4 (ok_X7_tct_it _ _ _ vl_0_4 (ok_X7_tcn_it _ _ _ vl_3_4 (ok_X7_tcn_it _ _ _ vl_2_4 (ok_X7_tcn_it _ _ _ vl_1_4 (ok_X7_tcn_it _ _ _ vl_0_4 (ok_X7_tin_it _ _ _ vl_3_4 (ok_X7_tin_it _ _ _ vl_2_4 (ok_X7_tin_it _ _ _ vl_1_4 (ok_X7_tin_it _ _ _ vl_0_4 (okC_us hc (by intro j hj; omega) (by decide) (by decide))))))))))))))) (fun ls x1 hx1 hl => ?_) ls (lv_sub hl [0, 1, 2] rfl)
  obtain rfl : x1 = 2 := hx1.trans (by decide)
  refine cb_X7_tch l g C _ _ 2 vl_2_4 (ok_X7_tch_it _ _ _ vl_1_4 (ok_X7_tch_it _ _ _ vl_0_4 (ok_X7_tct_it _ _ _ vl_3_4 (ok_X7_tct_it _ _ _ vl_2_4 (ok_X7_tct_it _ _ _ vl_1_4 (ok_X7_tct_it _ _ _ vl_0_4 (ok_X7_tcn_it _ _ _ vl_3_4 (ok_X7_tcn_it _ _ _ vl_2_4 (ok_X7_tcn_it _ _ _ vl_1_4 (ok_X7_tcn_it _ _ _ vl_0_4 (ok_X7_tin_it _ _ _ vl_3_4 (ok_X7_tin_it _ _ _ vl_2_4 (ok_X7_tin_it _ _ _ vl_1_4 (ok_X7_tin_it _ _ _ vl_0_4 (okC_us hc (by intro j hj; omega) (by decide) (by decide)))))))))))))))) (fun ls x1 hx1 hl => ?_) ls (lv_sub hl [0, 1, 2] rfl)
  obtain rfl : x1 = 3 := hx1.trans (by decide)
  refine cb_X7_tch l g C _ _ 3 vl_3_4 (ok_X7_tch_it _ _ _ vl_2_4 (ok_X7_tch_it _ _ _ vl_1_4 (ok_X7_tch_it _ _ _ vl_0_4 (ok_X7_tct_it _ _ _ vl_3_4 (ok_X7_tct_it _ _ _ vl_2_4 (ok_X7_tct_it _ _ _ vl_1_4 (ok_X7_tct_it _ _ _ vl_0_4 (ok_X7_tcn_it _ _ _ vl_3_4 (ok_X7_tcn_it _ _ _ vl_2_4 (ok_X7_tcn_it _ _ _ vl_1_4 (ok_X7_tcn_it _ _ _ vl_0_4 (ok_X7_tin_it _ _ _ vl_3_4 (ok_X7_tin_it _ _ _ vl_2_4 (ok_X7_tin_it _ _ _ vl_1_4 (ok_X7_tin_it _ _ _ vl_0_4 (okC_us hc (by intro j hj; omega) (by decide) (by decide))))))))))))))))) (fun ls x1 hx1 hl => ?_) ls (lv_sub hl [0, 1, 2] rfl)
  obtain rfl : x1 = 4 := hx1.trans (by decide)
  refine v_iload_n C dX7_runTick_125 rfl (lv_at hl 2 rfl) ?_
  refine v_iconst (v := 4) C dX7_runTick_126 (by decide) ?_
  refine v_icmp_ge (tgt := 159) C dX7_runTick_127 (by decide) (fun _ => ?_) (fun h => absurd h (by decide))
  refine v_aload_n C dX7_runTick_159 rfl (lv_at hl 0 rfl) ?_
  refine v_getI C iX7_runTick_X7 k_0 rfl rfl (j := 7) rfl (by decide) rfl (C.w 1 rfl) dX7_runTick_160 ?_
  refine v_aload_n C dX7_runTick_163 rfl (lv_at hl 0 rfl) ?_
  refine v_getR C iX7_runTick_X7 k_0 rfl rfl (j := 6) rfl (by decide) rfl (C.w 3 rfl) dX7_runTick_164 ?_
  refine v_getI C iX7_runTick_X6 k_7 rfl rfl (j := 0) rfl (by decide) rfl (C.w 12 rfl) dX7_runTick_167 ?_
  refine v_irem C dX7_runTick_170 (ok_X7_tch_it _ _ _ vl_3_4 (ok_X7_tch_it _ _ _ vl_2_4 (ok_X7_tch_it _ _ _ vl_1_4 (ok_X7_tch_it _ _ _ vl_0_4 (ok_X7_tct_it _ _ _ vl_3_4 (ok_X7_tct_it _ _ _ vl_2_4 (ok_X7_tct_it _ _ _ vl_1_4 (ok_X7_tct_it _ _ _ vl_0_4 (ok_X7_tcn_it _ _ _ vl_3_4 (ok_X7_tcn_it _ _ _ vl_2_4 (ok_X7_tcn_it _ _ _ vl_1_4 (ok_X7_tcn_it _ _ _ vl_0_4 (ok_X7_tin_it _ _ _ vl_3_4 (ok_X7_tin_it _ _ _ vl_2_4 (ok_X7_tin_it _ _ _ vl_1_4 (ok_X7_tin_it _ _ _ vl_0_4 (okC_us hc (by intro j hj; omega) (by decide) (by decide)))))))))))))))))).2.2.2.2.1 ?_
  refine v_if_ne (tgt := 197) C dX7_runTick_171 (by decide) (fun c_5 => ?_) (fun c_5 => ?_)
  · refine v_aload_n C dX7_runTick_197 rfl (lv_at hl 0 rfl) ?_
    refine v_callv C (c_X7_workOutPins l g _ (ok_X7_tch_it _ _ _ vl_3_4 (ok_X7_tch_it _ _ _ vl_2_4 (ok_X7_tch_it _ _ _ vl_1_4 (ok_X7_tch_it _ _ _ vl_0_4 (ok_X7_tct_it _ _ _ vl_3_4 (ok_X7_tct_it _ _ _ vl_2_4 (ok_X7_tct_it _ _ _ vl_1_4 (ok_X7_tct_it _ _ _ vl_0_4 (ok_X7_tcn_it _ _ _ vl_3_4 (ok_X7_tcn_it _ _ _ vl_2_4 (ok_X7_tcn_it _ _ _ vl_1_4 (ok_X7_tcn_it _ _ _ vl_0_4 (ok_X7_tin_it _ _ _ vl_3_4 (ok_X7_tin_it _ _ _ vl_2_4 (ok_X7_tin_it _ _ _ vl_1_4 (ok_X7_tin_it _ _ _ vl_0_4 (okC_us hc (by intro j hj; omega) (by decide) (by decide))))))))))))))))))) (cwV 0 C.2.2.2.2.1 gX7_runTick_X7_workOutPins rfl rfl rfl hv_X7_workOutPins ⟨Nat.le_of_ble_eq_true rfl, Nat.le_of_ble_eq_true rfl⟩) k_0 rfl rfl rfl rfl hl.1 rfl (Nat.le_of_ble_eq_true rfl) dX7_runTick_198 ⟨Nat.le_refl _, Nat.le_refl _⟩ ?_
    exact hret _ _ _ (by dsimp only [X7_runTick_s]; rw [if_neg c_5]) dX7_runTick_201
  · refine v_aload_n C dX7_runTick_174 rfl (lv_at hl 0 rfl) ?_
    refine v_getR C iX7_runTick_X7 k_0 rfl rfl (j := 6) rfl (by decide) rfl (C.w 3 rfl) dX7_runTick_175 ?_
    refine v_iload_n C dX7_runTick_178 rfl (lv_at hl 1 rfl) ?_
    refine v_aload_n C dX7_runTick_179 rfl (lv_at hl 0 rfl) ?_
    refine v_getR C iX7_runTick_X7 k_0 rfl rfl (j := 0) rfl (by decide) rfl (C.w 2 rfl) dX7_runTick_180 ?_
    refine v_aload_n C dX7_runTick_183 rfl (lv_at hl 0 rfl) ?_
    refine v_getR C iX7_runTick_X7 k_0 rfl rfl (j := 6) rfl (by decide) rfl (C.w 3 rfl) dX7_runTick_184 ?_
    refine v_getI C iX7_runTick_X6 k_7 rfl rfl (j := 1) rfl (by decide) rfl (C.w 4 rfl) dX7_runTick_187 ?_
    refine v_aald C k_1 rfl rfl (ok_X7_tch_it _ _ _ vl_3_4 (ok_X7_tch_it _ _ _ vl_2_4 (ok_X7_tch_it _ _ _ vl_1_4 (ok_X7_tch_it _ _ _ vl_0_4 (ok_X7_tct_it _ _ _ vl_3_4 (ok_X7_tct_it _ _ _ vl_2_4 (ok_X7_tct_it _ _ _ vl_1_4 (ok_X7_tct_it _ _ _ vl_0_4 (ok_X7_tcn_it _ _ _ vl_3_4 (ok_X7_tcn_it _ _ _ vl_2_4 (ok_X7_tcn_it _ _ _ vl_1_4 (ok_X7_tcn_it _ _ _ vl_0_4 (ok_X7_tin_it _ _ _ vl_3_4 (ok_X7_tin_it _ _ _ vl_2_4 (ok_X7_tin_it _ _ _ vl_1_4 (ok_X7_tin_it _ _ _ vl_0_4 (okC_us hc (by intro j hj; omega) (by decide) (by decide)))))))))))))))))).2.2.2.1 (q_cnt (vp_lt (ok_X7_tch_it _ _ _ vl_3_4 (ok_X7_tch_it _ _ _ vl_2_4 (ok_X7_tch_it _ _ _ vl_1_4 (ok_X7_tch_it _ _ _ vl_0_4 (ok_X7_tct_it _ _ _ vl_3_4 (ok_X7_tct_it _ _ _ vl_2_4 (ok_X7_tct_it _ _ _ vl_1_4 (ok_X7_tct_it _ _ _ vl_0_4 (ok_X7_tcn_it _ _ _ vl_3_4 (ok_X7_tcn_it _ _ _ vl_2_4 (ok_X7_tcn_it _ _ _ vl_1_4 (ok_X7_tcn_it _ _ _ vl_0_4 (ok_X7_tin_it _ _ _ vl_3_4 (ok_X7_tin_it _ _ _ vl_2_4 (ok_X7_tin_it _ _ _ vl_1_4 (ok_X7_tin_it _ _ _ vl_0_4 (okC_us hc (by intro j hj; omega) (by decide) (by decide)))))))))))))))))).2.2.2.1)) dX7_runTick_190 ?_
    refine v_getI C iX7_runTick_X2 (k_cnt (vp_lt (ok_X7_tch_it _ _ _ vl_3_4 (ok_X7_tch_it _ _ _ vl_2_4 (ok_X7_tch_it _ _ _ vl_1_4 (ok_X7_tch_it _ _ _ vl_0_4 (ok_X7_tct_it _ _ _ vl_3_4 (ok_X7_tct_it _ _ _ vl_2_4 (ok_X7_tct_it _ _ _ vl_1_4 (ok_X7_tct_it _ _ _ vl_0_4 (ok_X7_tcn_it _ _ _ vl_3_4 (ok_X7_tcn_it _ _ _ vl_2_4 (ok_X7_tcn_it _ _ _ vl_1_4 (ok_X7_tcn_it _ _ _ vl_0_4 (ok_X7_tin_it _ _ _ vl_3_4 (ok_X7_tin_it _ _ _ vl_2_4 (ok_X7_tin_it _ _ _ vl_1_4 (ok_X7_tin_it _ _ _ vl_0_4 (okC_us hc (by intro j hj; omega) (by decide) (by decide)))))))))))))))))).2.2.2.1)) rfl rfl (j := 4) rfl (by decide) rfl (C.w 5 rfl) dX7_runTick_191 ?_
    refine v_callv C (MV.un (c_X6_sample l g _ _ k_7 _ _ _)) (cwV 2 C.2.2.2.2.1 gX7_runTick_X6_sample rfl rfl rfl hv_X6_sample ⟨Nat.le_of_ble_eq_true rfl, Nat.le_of_ble_eq_true rfl⟩) k_7 rfl rfl rfl rfl hl.1 rfl (Nat.le_of_ble_eq_true rfl) dX7_runTick_194 ⟨Nat.le_refl _, Nat.le_refl _⟩ ?_
    refine v_aload_n C dX7_runTick_197 rfl (lv_at hl 0 rfl) ?_
    refine v_callv C (c_X7_workOutPins l g _ (okC_slow (ok_X7_tch_it _ _ _ vl_3_4 (ok_X7_tch_it _ _ _ vl_2_4 (ok_X7_tch_it _ _ _ vl_1_4 (ok_X7_tch_it _ _ _ vl_0_4 (ok_X7_tct_it _ _ _ vl_3_4 (ok_X7_tct_it _ _ _ vl_2_4 (ok_X7_tct_it _ _ _ vl_1_4 (ok_X7_tct_it _ _ _ vl_0_4 (ok_X7_tcn_it _ _ _ vl_3_4 (ok_X7_tcn_it _ _ _ vl_2_4 (ok_X7_tcn_it _ _ _ vl_1_4 (ok_X7_tcn_it _ _ _ vl_0_4 (ok_X7_tin_it _ _ _ vl_3_4 (ok_X7_tin_it _ _ _ vl_2_4 (ok_X7_tin_it _ _ _ vl_1_4 (ok_X7_tin_it _ _ _ vl_0_4 (okC_us hc (by intro j hj; omega) (by decide) (by decide)))))))))))))))))) (sample_0 _ _ _))) (cwV 0 C.2.2.2.2.1 gX7_runTick_X7_workOutPins rfl rfl rfl hv_X7_workOutPins ⟨Nat.le_of_ble_eq_true rfl, Nat.le_of_ble_eq_true rfl⟩) k_0 rfl rfl rfl rfl hl.1 rfl (Nat.le_of_ble_eq_true rfl) dX7_runTick_198 ⟨Nat.le_refl _, Nat.le_refl _⟩ ?_
    exact hret _ _ _ (by dsimp only [X7_runTick_s]; rw [if_pos c_5]) dX7_runTick_201
theorem ok_X7_runTick_s (t : ct_St) (hc : okC t) : okC (X7_runTick_s t) := by
  dsimp only [X7_runTick_s]
  split
  · exact (ok_X7_workOutPins_s _ (okC_slow (ok_X7_tch_it _ _ _ vl_3_4 (ok_X7_tch_it _ _ _ vl_2_4 (ok_X7_tch_it _ _ _ vl_1_4 (ok_X7_tch_it _ _ _ vl_0_4 (ok_X7_tct_it _ _ _ vl_3_4 (ok_X7_tct_it _ _ _ vl_2_4 (ok_X7_tct_it _ _ _ vl_1_4 (ok_X7_tct_it _ _ _ vl_0_4 (ok_X7_tcn_it _ _ _ vl_3_4 (ok_X7_tcn_it _ _ _ vl_2_4 (ok_X7_tcn_it _ _ _ vl_1_4 (ok_X7_tcn_it _ _ _ vl_0_4 (ok_X7_tin_it _ _ _ vl_3_4 (ok_X7_tin_it _ _ _ vl_2_4 (ok_X7_tin_it _ _ _ vl_1_4 (ok_X7_tin_it _ _ _ vl_0_4 (okC_us hc (by intro j hj; omega) (by decide) (by decide)))))))))))))))))) (sample_0 _ _ _)))
  · exact (ok_X7_workOutPins_s _ (ok_X7_tch_it _ _ _ vl_3_4 (ok_X7_tch_it _ _ _ vl_2_4 (ok_X7_tch_it _ _ _ vl_1_4 (ok_X7_tch_it _ _ _ vl_0_4 (ok_X7_tct_it _ _ _ vl_3_4 (ok_X7_tct_it _ _ _ vl_2_4 (ok_X7_tct_it _ _ _ vl_1_4 (ok_X7_tct_it _ _ _ vl_0_4 (ok_X7_tcn_it _ _ _ vl_3_4 (ok_X7_tcn_it _ _ _ vl_2_4 (ok_X7_tcn_it _ _ _ vl_1_4 (ok_X7_tcn_it _ _ _ vl_0_4 (ok_X7_tin_it _ _ _ vl_3_4 (ok_X7_tin_it _ _ _ vl_2_4 (ok_X7_tin_it _ _ _ vl_1_4 (ok_X7_tin_it _ _ _ vl_0_4 (okC_us hc (by intro j hj; omega) (by decide) (by decide)))))))))))))))))))
-- no frame of X7_runTick_s: ['0', '6', '7', '8', '9', '10', '11', '12 + ix x', '16 + ix x', '20 + ix x', '24 + ix x']
