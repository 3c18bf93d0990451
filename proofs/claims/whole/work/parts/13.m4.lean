theorem hs_X8_twisted : yX8_twisted.cls ≠ "java/lang/invoke/MethodHandle" ∧ yX8_twisted.cls ≠ "java/lang/invoke/VarHandle" ∧ (parseMethodDescriptor yX8_twisted.desc).map (fun d => d.parameters.length) = some 1 := by decide +kernel
def X8_twisted_r (a1 : Int32) : Int32 :=
  a1 ^^^ (a1 / 2)
set_option maxHeartbeats 4000000 in
set_option maxRecDepth 100000 in
theorem c_X8_twisted (l : Launch) (g : ct_G) (t : ct_St) (a1 : Int32) : MI l g shG yX8_twisted wsX8_twisted (rmd 0) [.int a1] t (X8_twisted_r a1) t := by
  refine MI.of (own := RX8) (cc := cX8_twisted) (maxL := 1) rfl (by decide) rfl (Nat.le_of_ble_eq_true rfl) (fun p e s m args below meth cd A Q C hret ls hl => ?_)
  have hl : lv_has ls 1 [(0, .int a1)] := hl
  refine v_iload_n C dX8_twisted_0 rfl (lv_at hl 0 rfl) ?_
  refine v_iload_n C dX8_twisted_1 rfl (lv_at hl 0 rfl) ?_
  refine v_iconst (v := 2) C dX8_twisted_2 (by decide) ?_
  refine v_idiv C dX8_twisted_3 (by decide) ?_
  refine v_ixor C dX8_twisted_4 ?_
  exact hret _ _ _ _ rfl rfl dX8_twisted_5
/-- the loop of untwisted, by fuel -/
def utw : Nat → Int32 → Int32 → Int32
  | 0, acc, _ => acc
  | n + 1, acc, left => if left ≤ 0 then acc else utw n (acc ^^^ left) (left / 2)
def X8_untwisted_r (a1 : Int32) : Int32 := utw 32 0 a1
theorem hs_X8_untwisted : yX8_untwisted.cls ≠ "java/lang/invoke/MethodHandle" ∧ yX8_untwisted.cls ≠ "java/lang/invoke/VarHandle" ∧ (parseMethodDescriptor yX8_untwisted.desc).map (fun d => d.parameters.length) = some 1 := by decide +kernel
theorem half_lt {x : Int32} {n : Nat} (h0 : ¬ x ≤ 0) (h : x.toInt < 2 ^ (n + 1)) : (x / 2).toInt < 2 ^ n := by
  rw [Int32.le_iff_toInt_le, show (0 : Int32).toInt = 0 from by decide] at h0
  obtain ⟨j, hj, rfl⟩ := nI_of (x := x) (by rw [Int32.lt_iff_toInt_lt, show (0 : Int32).toInt = 0 from by decide]; omega)
  rw [show nI j / 2 = nI (j / 2) from pk_div (d := 2) hj (by decide) (by decide), nI_toInt (by omega)]
  rw [nI_toInt hj] at h
  have h2 : (2 : Int) ^ (n + 1) = 2 * 2 ^ n := by rw [Int.pow_succ]; omega
  rw [h2] at h
  omega
set_option maxHeartbeats 4000000 in
set_option maxRecDepth 100000 in
theorem cb_X8_untwisted {p : Program} {e : Env} {s : State} {m : MethodId} {args : Array Value} {below : List Frame} {meth : Method} {cd : Code} {A : Nat → Prop} {Q : State → Prop} (l : Launch) (g : ct_G) (C : Cx p s m args cd A g cX8_untwisted RX8 wsX8_untwisted 3) (t : ct_St) (a1 r : Int32)
    (hret : ∀ (pc : Nat) (ls : Array Slot) (x : Int32) (v : ct_St), x = r → v = t → decode cX8_untwisted pc = .ok (.ireturn, 1) → VW p l e (rmd 0) s m args below meth cd 0 0 Q A g shG v (F0 m pc ls [.int x])) :
    ∀ (n : Nat) (acc left : Int32), left.toInt < 2 ^ n → utw (n + 1) acc left = r → ∀ ls : Array Slot, lv_has ls 3 [(0, .int a1), (1, .int acc), (2, .int left)] → VW p l e (rmd 0) s m args below meth cd 0 0 Q A g shG t (F0 m 4 ls []) := by
  intro n
  induction n with
  | zero =>
    intro acc left h hr ls hl
    have h0 : left ≤ 0 := by
      rw [Int32.le_iff_toInt_le, show (0 : Int32).toInt = 0 from by decide]
      simp at h
      omega
    refine v_iload_n C dX8_untwisted_4 rfl (lv_at hl 2 rfl) ?_
    refine v_if_le (tgt := 19) C dX8_untwisted_5 (by decide) (fun _ => ?_) (fun h => absurd h0 h)
    refine v_iload_n C dX8_untwisted_19 rfl (lv_at hl 1 rfl) ?_
    exact hret _ _ _ _ (hr.symm.trans (if_pos h0)).symm rfl dX8_untwisted_20
  | succ n ih =>
    intro acc left h hr ls hl
    refine v_iload_n C dX8_untwisted_4 rfl (lv_at hl 2 rfl) ?_
    refine v_if_le (tgt := 19) C dX8_untwisted_5 (by decide) (fun c_1 => ?_) (fun c_1 => ?_)
    · refine v_iload_n C dX8_untwisted_19 rfl (lv_at hl 1 rfl) ?_
      exact hret _ _ _ _ (hr.symm.trans (if_pos c_1)).symm rfl dX8_untwisted_20
    · refine v_iload_n C dX8_untwisted_8 rfl (lv_at hl 1 rfl) ?_
      refine v_iload_n C dX8_untwisted_9 rfl (lv_at hl 2 rfl) ?_
      refine v_ixor C dX8_untwisted_10 ?_
      refine v_istore_n (lv' := [(1, _), (0, _), (2, _)]) C dX8_untwisted_11 rfl hl (by decide) rfl (fun ls hl => ?_)
      refine v_iload_n C dX8_untwisted_12 rfl (lv_at hl 2 rfl) ?_
      refine v_iconst (v := 2) C dX8_untwisted_13 (by decide) ?_
      refine v_idiv C dX8_untwisted_14 (by decide) ?_
      refine v_istore_n (lv' := [(2, _), (1, _), (0, _)]) C dX8_untwisted_15 rfl hl (by decide) rfl (fun ls hl => ?_)
      refine v_goto (tgt := 4) C dX8_untwisted_16 (by decide) ?_
      exact ih _ _ (half_lt c_1 h) (hr.symm.trans (if_neg c_1)).symm ls (lv_sub hl [2, 1, 0] rfl)
set_option maxHeartbeats 4000000 in
set_option maxRecDepth 100000 in
theorem c_X8_untwisted (l : Launch) (g : ct_G) (t : ct_St) (a1 : Int32) : MI l g shG yX8_untwisted wsX8_untwisted (rmd 0) [.int a1] t (X8_untwisted_r a1) t := by
  refine MI.of (own := RX8) (cc := cX8_untwisted) (maxL := 3) rfl (by decide) rfl (Nat.le_of_ble_eq_true rfl) (fun p e s m args below meth cd A Q C hret ls hl => ?_)
  have hl : lv_has ls 3 [(0, .int a1)] := hl
  refine v_iconst (v := 0) C dX8_untwisted_0 (by decide) ?_
  refine v_istore_n (lv' := [(1, _), (0, _)]) C dX8_untwisted_1 rfl hl (by decide) rfl (fun ls hl => ?_)
  refine v_iload_n C dX8_untwisted_2 rfl (lv_at hl 1 rfl) ?_
  refine v_istore_n (lv' := [(2, _), (1, _), (0, _)]) C dX8_untwisted_3 rfl hl (by decide) rfl (fun ls hl => ?_)
  exact cb_X8_untwisted l g C t a1 (X8_untwisted_r a1) hret 31 0 a1 (by have := Int32.toInt_lt a1; simpa using this) rfl ls (lv_sub hl [2, 1, 0] rfl)
