theorem iX7_ticks_X7 : ∀ w ∈ wsX70, w ∈ wsX7_ticks := fun _ h => (List.mem_cons_of_mem _ (List.mem_append_left _ (List.mem_append_left _ (List.mem_append_left _ (List.mem_append_left _ (List.mem_append_left _ (List.mem_append_left _ (List.mem_append_right _ h))))))))
def X7_ticks_n : Nat → ct_St → ct_St
  | 0, t => t
  | n + 1, t => X7_ticks_n n (X7_runTick_s t)
def X7_ticks_r (a1 : Int32) (t : ct_St) : Int32 := if X7_within_r a1 0 400 = 0 then (-2) else X7_ticks_n (ix a1) t 0 7
def X7_ticks_s (a1 : Int32) (t : ct_St) : ct_St := if X7_within_r a1 0 400 = 0 then t else X7_ticks_n (ix a1) t
theorem hv_X7_ticks : yX7_ticks.cls = RX7 ∧ yX7_ticks.cls ≠ "java/lang/invoke/MethodHandle" ∧ yX7_ticks.cls ≠ "java/lang/invoke/VarHandle" ∧ (parseMethodDescriptor yX7_ticks.desc).map (fun d => d.parameters.length) = some 1 := by decide +kernel
theorem X7_ticks_in {a : Int32} (h : ¬ X7_within_r a 0 400 = 0) : vp_in a 401 := by
  unfold X7_within_r at h
  split at h
  · exact absurd rfl h
  · split at h
    · exact absurd rfl h
    · next h1 h2 => exact wi_in h1 h2 (by decide)
set_option maxHeartbeats 4000000 in
set_option maxRecDepth 100000 in
theorem cb_X7_ticks {p : Program} {e : Env} {s : State} {m : MethodId} {args : Array Value} {below : List Frame} {meth : Method} {cd : Code} {A : Nat → Prop} {Q : State → Prop} (l : Launch) (g : ct_G) (C : Cx p s m args cd A g cX7_ticks RX7 wsX7_ticks 3) (N : Nat) (hN : N < 401) (r : Int32) (u : ct_St)
    (hret : ∀ (pc : Nat) (ls : Array Slot) (x : Int32) (v : ct_St), x = r → v = u → decode cX7_ticks pc = .ok (.ireturn, 1) → VW p l e (rmd 5) s m args below meth cd 0 0 Q A g shG v (F0 m pc ls [.int x])) (hr : u 0 7 = r) :
    ∀ (n i : Nat) (t : ct_St), i + n = N → okC t → X7_ticks_n n t = u → ∀ ls : Array Slot, lv_has ls 3 [(0, .ref (g.2.1 0)), (1, .int (nI N)), (2, .int (nI i))] → VW p l e (rmd 5) s m args below meth cd 0 0 Q A g shG t (F0 m 16 ls []) := by
  intro n
  induction n with
  | zero =>
    intro i t hi hc hu ls hl
    refine v_iload_n C dX7_ticks_16 rfl (lv_at hl 2 rfl) ?_
    refine v_iload_n C dX7_ticks_17 rfl (lv_at hl 1 rfl) ?_
    refine v_icmp_ge (tgt := 31) C dX7_ticks_18 (by decide) (fun _ => ?_) (fun h => absurd (nI_le (by omega) (by omega)) h)
    refine v_aload_n C dX7_ticks_31 rfl (lv_at hl 0 rfl) ?_
    refine v_getI C iX7_ticks_X7 k_0 rfl rfl (j := 7) rfl (by decide) rfl (C.w 1 rfl) dX7_ticks_32 ?_
    have hu : t = u := hu
    exact hret _ _ _ _ (by rw [hu]; exact hr) hu dX7_ticks_35
  | succ n ih =>
    intro i t hi hc hu ls hl
    refine v_iload_n C dX7_ticks_16 rfl (lv_at hl 2 rfl) ?_
    refine v_iload_n C dX7_ticks_17 rfl (lv_at hl 1 rfl) ?_
    refine v_icmp_ge (tgt := 31) C dX7_ticks_18 (by decide) (fun h => absurd h (nI_ge (by omega) (by omega))) (fun _ => ?_)
    refine v_aload_n C dX7_ticks_21 rfl (lv_at hl 0 rfl) ?_
    refine v_callv C (c_X7_runTick l g _ hc) (cwV 0 C.2.2.2.2.1 gX7_ticks_X7_runTick rfl rfl rfl hv_X7_runTick ⟨Nat.le_of_ble_eq_true rfl, Nat.le_of_ble_eq_true rfl⟩) k_0 rfl rfl rfl rfl hl.1 rfl (Nat.le_of_ble_eq_true rfl) dX7_ticks_22 ⟨Nat.le_refl _, Nat.le_refl _⟩ ?_
    refine v_iinc (k0 := 2) (v := _ + 1) (lv' := [(2, _), (0, _), (1, _)]) C dX7_ticks_25 hl rfl rfl (by decide) rfl (fun ls hl => ?_)
    refine v_goto (tgt := 16) C dX7_ticks_28 (by decide) ?_
    have hl2 := lv_sub hl [1, 2, 0] rfl
    rw [nI_1] at hl2
    exact ih (i + 1) _ (by omega) (ok_X7_runTick_s _ hc) hu ls hl2
set_option maxHeartbeats 4000000 in
set_option maxRecDepth 100000 in
theorem c_X7_ticks (l : Launch) (g : ct_G) (t : ct_St) (a1 : Int32) (hc : okC t) : MI l g shG yX7_ticks wsX7_ticks (rmd 5) [.ref (g.2.1 0), .int a1] t (X7_ticks_r a1 t) (X7_ticks_s a1 t) := by
  refine MI.of (own := RX7) (cc := cX7_ticks) (maxL := 3) rfl (by decide) rfl (Nat.le_of_ble_eq_true rfl) (fun p e s m args below meth cd A Q C hret ls hl => ?_)
  have hl : lv_has ls 3 [(0, .ref (g.2.1 0)), (1, .int a1)] := hl
  refine v_iload_n C dX7_ticks_0 rfl (lv_at hl 1 rfl) ?_
  refine v_iconst (v := 0) C dX7_ticks_1 (by decide) ?_
  refine v_sipush (v := 400) C dX7_ticks_2 (by decide) ?_
  refine v_scalli C (c_X7_within l g _ _ _ _) (va_cwS 3 C.2.2.2.2.1 gX7_ticks_X7_within rfl rfl rfl hs_X7_within ⟨Nat.le_of_ble_eq_true rfl, Nat.le_of_ble_eq_true rfl⟩) rfl hl.1 rfl (Nat.le_of_ble_eq_true rfl) dX7_ticks_5 ⟨Nat.le_refl _, Nat.le_refl _⟩ ?_
  refine v_if_ne (tgt := 14) C dX7_ticks_8 (by decide) (fun c_1 => ?_) (fun c_1 => ?_)
  · obtain ⟨N, hN, rfl⟩ := vp_in_of (X7_ticks_in c_1) (by decide)
    refine v_iconst (v := 0) C dX7_ticks_14 (by decide) ?_
    refine v_istore_n (lv' := [(2, _), (0, _), (1, _)]) C dX7_ticks_15 rfl hl (by decide) rfl (fun ls hl => ?_)
    have e1 : ix (nI N) = N := nI_clamp (by omega)
    exact cb_X7_ticks l g C N hN _ _ hret (by unfold X7_ticks_s X7_ticks_r; rw [if_neg c_1, if_neg c_1]) N 0 t (by omega) hc (by rw [show X7_ticks_s (nI N) t = X7_ticks_n (ix (nI N)) t from if_neg c_1, e1]) ls (lv_sub hl [1, 2, 0] rfl)
  · refine v_bipush (v := (-2)) C dX7_ticks_11 (by decide) ?_
    exact hret _ _ _ _ (if_pos c_1).symm (if_pos c_1).symm dX7_ticks_13
