theorem x_sub {p : Program} {l : Launch} {e : Env} {R : Room} {s : State} {m : MethodId} {args : Array Value} {below : List Frame} {meth : Method} {c : Code} {cells slots : Nat} {Q : State → Prop} {A : Nat → Prop} {g : ct_G} {w0 w1 : va_W} {f : JFrame} (is : List Nat) (hs : is.map (fun i => w0[i]?) = w1.map some) (hn : va_nd is = true) (k : XW p l e R s m args below meth c cells slots Q A g w1 f) : XW p l e R s m args below meth c cells slots Q A g w0 f := fun H locs hP hD hS => k H locs (hP.sub is (fm_of_map hs)) (hD.sub is hn hs) hS
theorem ra4 (p : Nat → Nat) (a b c d : Nat) {q0 q1 q2 q3 : Nat} (h0 : p a = q0) (h1 : p b = q1) (h2 : p c = q2) (h3 : p d = q3) : va_up (va_up (va_up (va_up (fun _ => none) 0 (some q0)) 1 (some q1)) 2 (some q2)) 3 (some q3) = fun j => (([a, b, c, d] : List Nat)[j]?).map p := by
  subst h0; subst h1; subst h2; subst h3
  funext j
  match j with
  | 0 => rfl
  | 1 => rfl
  | 2 => rfl
  | 3 => rfl
  | n + 4 => simp [va_up]
theorem ra2 (p : Nat → Nat) (a b : Nat) {q0 q1 : Nat} (h0 : p a = q0) (h1 : p b = q1) : va_up (va_up (fun _ => none) 0 (some q0)) 1 (some q1) = fun j => (([a, b] : List Nat)[j]?).map p := by
  subst h0; subst h1
  funext j
  match j with
  | 0 => rfl
  | 1 => rfl
  | n + 2 => simp [va_up]
def lr (l : List Int32) : Nat → Int32 := fun j => l.getD j 0
/-- the state of two new objects -/
def t0 : ct_St := fun i => ([lr [0, 0, 0, 0, 0, 0, 0, 0, 0], (fun _ => 0), (fun _ => 0), (fun _ => 0), (fun _ => 0), (fun _ => 0), lr [0, 0, 0, 0, 0, 0], lr [4, 0, 0, 0, 0], (fun _ => 0), (fun _ => 0), (fun _ => 0), (fun _ => 0), lr [0, 99, 1, 0, 0, 0, 1, 0, (-9), 0, 0], lr [0, 99, 1, 0, 0, 0, 1, 0, (-9), 0, 0], lr [0, 99, 1, 0, 0, 0, 1, 0, (-9), 0, 0], lr [0, 99, 1, 0, 0, 0, 1, 0, (-9), 0, 0], lr [0, 0, 0, 1, 0], lr [0, 0, 0, 1, 0], lr [0, 0, 0, 1, 0], lr [0, 0, 0, 1, 0], lr [0, 0, 1, 0, 0, 0, 0], lr [0, 0, 1, 0, 0, 0, 0], lr [0, 0, 1, 0, 0, 0, 0], lr [0, 0, 1, 0, 0, 0, 0], lr [0, 0, 0, 0, 0, 0, 0, 0], lr [0, 0, 0, 0, 0, 0, 0, 0], lr [0, 0, 0, 0, 0, 0, 0, 0], lr [0, 0, 0, 0, 0, 0, 0, 0], lr [0, (-9)], lr [0, (-9)], lr [0, 0, 0, 0, 0, 0, 0, 0, 0, 0, 0, 0, 0, 0, 0, 0, 0, 0, 0, 0, 0, 0, 0, 0, 0, 0, 0, 0, 0, 0, 0, 0, 0, 0, 0, 0, 0, 0, 0, 0, 4, 0, 0, 0, 0], (fun _ => 0), (upd (upd (upd (upd (fun _ => 0) 0 99) 1 99) 2 99) 3 99), (upd (upd (upd (upd (fun _ => 0) 0 1) 1 1) 2 1) 3 1), (fun _ => 0), (fun _ => 0), (fun _ => 0), (upd (upd (upd (upd (fun _ => 0) 0 1) 1 1) 2 1) 3 1), (fun _ => 0), (upd (upd (upd (upd (fun _ => 0) 0 (-9)) 1 (-9)) 2 (-9)) 3 (-9)), (fun _ => 0), (fun _ => 0), (fun _ => 0), (fun _ => 0), (upd (upd (upd (upd (fun _ => 0) 0 1) 1 1) 2 1) 3 1), (fun _ => 0), (fun _ => 0), (fun _ => 0), (fun _ => 0), (upd (upd (upd (upd (fun _ => 0) 0 1) 1 1) 2 1) 3 1), (fun _ => 0), (fun _ => 0), (fun _ => 0), (fun _ => 0), (fun _ => 0), (fun _ => 0), (fun _ => 0), (fun _ => 0), (fun _ => 0), (fun _ => 0), (fun _ => 0), (fun _ => 0), (fun _ => 0), (fun _ => 0), (fun _ => 0), (fun _ => 0), (fun _ => 0), (upd (upd (fun _ => 0) 0 (-9)) 1 (-9))] : List (Nat → Int32)).getD i (fun _ => 0)
def cellAt (g : ct_G) (i : Nat) : Nat × va_E := (g.2.1 i, ct_e g (t0 i) (shG.getD i (.inl (0, 0))))
theorem iX0_init_X0 : ∀ w ∈ wsX00, w ∈ wsX0_init := fun _ h => (List.mem_cons_of_mem _ (List.mem_append_right _ h))
theorem hs_X0_init : yX0_init.cls ≠ "java/lang/invoke/MethodHandle" ∧ yX0_init.cls ≠ "java/lang/invoke/VarHandle" ∧ (parseMethodDescriptor yX0_init.desc).map (fun d => d.parameters.length) = some 0 := by decide +kernel
set_option maxHeartbeats 8000000 in
set_option maxRecDepth 100000 in
theorem c_X0_init (l : Launch) (g : ct_G) (h0 : Nat) : MC l g yX0_init wsX0_init { frames := 1, cells := 0, slots := 0, locals := 26 } [.ref h0] [(h0, .inr (0, [.int 0, .int 0, .int 0, .int 0, .int 0, .int 0, .int 0]))] 0 0 (fun w => w = [(h0, .inr (0, [.int 0, .int 0, .int 1, .int 0, .int 0, .int 0, .int 0]))]) := by
  refine MC.of (own := RX0) (cc := cX0_init) (maxL := 1) rfl (by decide) rfl rfl (Nat.le_of_ble_eq_true rfl) (fun p e s m args below meth cd A Q C hnx hmn hret ls hl => ?_)
  refine x_aload_n C dX0_init_0 rfl (lv_at hl 0 rfl) ?_
  refine x_obj C (C.w 1 rfl) (C.w 2 rfl) (C.w 3 rfl) hl.1 dX0_init_1 (Nat.le_of_ble_eq_true rfl) (Nat.le_of_ble_eq_true rfl) ?_
  refine x_aload_n C dX0_init_4 rfl (lv_at hl 0 rfl) ?_
  refine x_iconst (v := 1) C dX0_init_5 (by decide) ?_
  refine x_put (q0 := 0) (j := 2) (w1 := [(h0, .inr (0, [.int 0, .int 0, .int 1, .int 0, .int 0, .int 0, .int 0]))]) C iX0_init_X0 tyX0 tyX0_ok nmX0 rfl rfl rfl (by decide) (C.w 4 rfl) rfl rfl (Nat.le_of_ble_eq_true rfl) rfl dX0_init_6 ?_
  exact hret _ _ _ _ _ (Nat.le_of_ble_eq_true rfl) (Nat.le_of_ble_eq_true rfl) rfl dX0_init_9
theorem iX1_init_X1 : ∀ w ∈ wsX10, w ∈ wsX1_init := fun _ h => (List.mem_cons_of_mem _ (List.mem_append_right _ h))
theorem hs_X1_init : yX1_init.cls ≠ "java/lang/invoke/MethodHandle" ∧ yX1_init.cls ≠ "java/lang/invoke/VarHandle" ∧ (parseMethodDescriptor yX1_init.desc).map (fun d => d.parameters.length) = some 0 := by decide +kernel
set_option maxHeartbeats 8000000 in
set_option maxRecDepth 100000 in
theorem c_X1_init (l : Launch) (g : ct_G) (h0 : Nat) : MC l g yX1_init wsX1_init { frames := 1, cells := 0, slots := 0, locals := 26 } [.ref h0] [(h0, .inr (1, [.int 0, .int 0, .int 0, .int 0, .int 0, .int 0, .int 0, .int 0]))] 0 0 (fun w => w = [(h0, .inr (1, [.int 0, .int 0, .int 0, .int 0, .int 0, .int 0, .int 0, .int 0]))]) := by
  refine MC.of (own := RX1) (cc := cX1_init) (maxL := 1) rfl (by decide) rfl rfl (Nat.le_of_ble_eq_true rfl) (fun p e s m args below meth cd A Q C hnx hmn hret ls hl => ?_)
  refine x_aload_n C dX1_init_0 rfl (lv_at hl 0 rfl) ?_
  refine x_obj C (C.w 1 rfl) (C.w 2 rfl) (C.w 3 rfl) hl.1 dX1_init_1 (Nat.le_of_ble_eq_true rfl) (Nat.le_of_ble_eq_true rfl) ?_
  refine x_aload_n C dX1_init_4 rfl (lv_at hl 0 rfl) ?_
  refine x_iconst (v := 0) C dX1_init_5 (by decide) ?_
  refine x_put (q0 := 0) (j := 1) (w1 := [(h0, .inr (1, [.int 0, .int 0, .int 0, .int 0, .int 0, .int 0, .int 0, .int 0]))]) C iX1_init_X1 tyX1 tyX1_ok nmX1 rfl rfl rfl (by decide) (C.w 4 rfl) rfl rfl (Nat.le_of_ble_eq_true rfl) rfl dX1_init_6 ?_
  exact hret _ _ _ _ _ (Nat.le_of_ble_eq_true rfl) (Nat.le_of_ble_eq_true rfl) rfl dX1_init_9
theorem iX2_init_X2 : ∀ w ∈ wsX20, w ∈ wsX2_init := fun _ h => (List.mem_cons_of_mem _ (List.mem_append_right _ h))
theorem hs_X2_init : yX2_init.cls ≠ "java/lang/invoke/MethodHandle" ∧ yX2_init.cls ≠ "java/lang/invoke/VarHandle" ∧ (parseMethodDescriptor yX2_init.desc).map (fun d => d.parameters.length) = some 0 := by decide +kernel
set_option maxHeartbeats 8000000 in
set_option maxRecDepth 100000 in
theorem c_X2_init (l : Launch) (g : ct_G) (h0 : Nat) : MC l g yX2_init wsX2_init { frames := 1, cells := 0, slots := 0, locals := 26 } [.ref h0] [(h0, .inr (2, [.int 0, .int 0, .int 0, .int 0, .int 0, .int 0, .int 0, .int 0, .int 0, .int 0, .int 0]))] 0 0 (fun w => w = [(h0, .inr (2, [.int 0, .int 99, .int 1, .int 0, .int 0, .int 0, .int 1, .int 0, .int (-9), .int 0, .int 0]))]) := by
  refine MC.of (own := RX2) (cc := cX2_init) (maxL := 1) rfl (by decide) rfl rfl (Nat.le_of_ble_eq_true rfl) (fun p e s m args below meth cd A Q C hnx hmn hret ls hl => ?_)
  refine x_aload_n C dX2_init_0 rfl (lv_at hl 0 rfl) ?_
  refine x_obj C (C.w 1 rfl) (C.w 2 rfl) (C.w 3 rfl) hl.1 dX2_init_1 (Nat.le_of_ble_eq_true rfl) (Nat.le_of_ble_eq_true rfl) ?_
  refine x_aload_n C dX2_init_4 rfl (lv_at hl 0 rfl) ?_
  refine x_iconst (v := 0) C dX2_init_5 (by decide) ?_
  refine x_put (q0 := 0) (j := 0) (w1 := [(h0, .inr (2, [.int 0, .int 0, .int 0, .int 0, .int 0, .int 0, .int 0, .int 0, .int 0, .int 0, .int 0]))]) C iX2_init_X2 tyX2 tyX2_ok nmX2 rfl rfl rfl (by decide) (C.w 4 rfl) rfl rfl (Nat.le_of_ble_eq_true rfl) rfl dX2_init_6 ?_
  refine x_aload_n C dX2_init_9 rfl (lv_at hl 0 rfl) ?_
  refine x_bipush (v := 99) C dX2_init_10 (by decide) ?_
  refine x_put (q0 := 0) (j := 1) (w1 := [(h0, .inr (2, [.int 0, .int 99, .int 0, .int 0, .int 0, .int 0, .int 0, .int 0, .int 0, .int 0, .int 0]))]) C iX2_init_X2 tyX2 tyX2_ok nmX2 rfl rfl rfl (by decide) (C.w 5 rfl) rfl rfl (Nat.le_of_ble_eq_true rfl) rfl dX2_init_12 ?_
  refine x_aload_n C dX2_init_15 rfl (lv_at hl 0 rfl) ?_
  refine x_iconst (v := 1) C dX2_init_16 (by decide) ?_
  refine x_put (q0 := 0) (j := 2) (w1 := [(h0, .inr (2, [.int 0, .int 99, .int 1, .int 0, .int 0, .int 0, .int 0, .int 0, .int 0, .int 0, .int 0]))]) C iX2_init_X2 tyX2 tyX2_ok nmX2 rfl rfl rfl (by decide) (C.w 6 rfl) rfl rfl (Nat.le_of_ble_eq_true rfl) rfl dX2_init_17 ?_
  refine x_aload_n C dX2_init_20 rfl (lv_at hl 0 rfl) ?_
  refine x_iconst (v := 0) C dX2_init_21 (by decide) ?_
  refine x_put (q0 := 0) (j := 3) (w1 := [(h0, .inr (2, [.int 0, .int 99, .int 1, .int 0, .int 0, .int 0, .int 0, .int 0, .int 0, .int 0, .int 0]))]) C iX2_init_X2 tyX2 tyX2_ok nmX2 rfl rfl rfl (by decide) (C.w 7 rfl) rfl rfl (Nat.le_of_ble_eq_true rfl) rfl dX2_init_22 ?_
  refine x_aload_n C dX2_init_25 rfl (lv_at hl 0 rfl) ?_
  refine x_iconst (v := 1) C dX2_init_26 (by decide) ?_
  refine x_put (q0 := 0) (j := 6) (w1 := [(h0, .inr (2, [.int 0, .int 99, .int 1, .int 0, .int 0, .int 0, .int 1, .int 0, .int 0, .int 0, .int 0]))]) C iX2_init_X2 tyX2 tyX2_ok nmX2 rfl rfl rfl (by decide) (C.w 8 rfl) rfl rfl (Nat.le_of_ble_eq_true rfl) rfl dX2_init_27 ?_
  refine x_aload_n C dX2_init_30 rfl (lv_at hl 0 rfl) ?_
  refine x_bipush (v := (-9)) C dX2_init_31 (by decide) ?_
  refine x_put (q0 := 0) (j := 8) (w1 := [(h0, .inr (2, [.int 0, .int 99, .int 1, .int 0, .int 0, .int 0, .int 1, .int 0, .int (-9), .int 0, .int 0]))]) C iX2_init_X2 tyX2 tyX2_ok nmX2 rfl rfl rfl (by decide) (C.w 9 rfl) rfl rfl (Nat.le_of_ble_eq_true rfl) rfl dX2_init_33 ?_
  exact hret _ _ _ _ _ (Nat.le_of_ble_eq_true rfl) (Nat.le_of_ble_eq_true rfl) rfl dX2_init_36
theorem iX3_init_X3 : ∀ w ∈ wsX30, w ∈ wsX3_init := fun _ h => (List.mem_cons_of_mem _ (List.mem_append_right _ h))
theorem hs_X3_init : yX3_init.cls ≠ "java/lang/invoke/MethodHandle" ∧ yX3_init.cls ≠ "java/lang/invoke/VarHandle" ∧ (parseMethodDescriptor yX3_init.desc).map (fun d => d.parameters.length) = some 0 := by decide +kernel
set_option maxHeartbeats 8000000 in
set_option maxRecDepth 100000 in
theorem c_X3_init (l : Launch) (g : ct_G) (h0 : Nat) : MC l g yX3_init wsX3_init { frames := 1, cells := 0, slots := 0, locals := 26 } [.ref h0] [(h0, .inr (3, [.int 0, .int 0, .int 0, .int 0, .int 0]))] 0 0 (fun w => w = [(h0, .inr (3, [.int 0, .int 0, .int 0, .int 1, .int 0]))]) := by
  refine MC.of (own := RX3) (cc := cX3_init) (maxL := 1) rfl (by decide) rfl rfl (Nat.le_of_ble_eq_true rfl) (fun p e s m args below meth cd A Q C hnx hmn hret ls hl => ?_)
  refine x_aload_n C dX3_init_0 rfl (lv_at hl 0 rfl) ?_
  refine x_obj C (C.w 1 rfl) (C.w 2 rfl) (C.w 3 rfl) hl.1 dX3_init_1 (Nat.le_of_ble_eq_true rfl) (Nat.le_of_ble_eq_true rfl) ?_
  refine x_aload_n C dX3_init_4 rfl (lv_at hl 0 rfl) ?_
  refine x_iconst (v := 1) C dX3_init_5 (by decide) ?_
  refine x_put (q0 := 0) (j := 3) (w1 := [(h0, .inr (3, [.int 0, .int 0, .int 0, .int 1, .int 0]))]) C iX3_init_X3 tyX3 tyX3_ok nmX3 rfl rfl rfl (by decide) (C.w 4 rfl) rfl rfl (Nat.le_of_ble_eq_true rfl) rfl dX3_init_6 ?_
  exact hret _ _ _ _ _ (Nat.le_of_ble_eq_true rfl) (Nat.le_of_ble_eq_true rfl) rfl dX3_init_9
theorem iX4_init_X4 : ∀ w ∈ wsX40, w ∈ wsX4_init := fun _ h => (List.mem_cons_of_mem _ (List.mem_append_right _ h))
theorem hs_X4_init : yX4_init.cls ≠ "java/lang/invoke/MethodHandle" ∧ yX4_init.cls ≠ "java/lang/invoke/VarHandle" ∧ (parseMethodDescriptor yX4_init.desc).map (fun d => d.parameters.length) = some 0 := by decide +kernel
set_option maxHeartbeats 8000000 in
set_option maxRecDepth 100000 in
theorem c_X4_init (l : Launch) (g : ct_G) (h0 : Nat) : MC l g yX4_init wsX4_init { frames := 1, cells := 0, slots := 0, locals := 26 } [.ref h0] [(h0, .inr (4, [.int 0, .int 0]))] 0 0 (fun w => w = [(h0, .inr (4, [.int 0, .int (-9)]))]) := by
  refine MC.of (own := RX4) (cc := cX4_init) (maxL := 1) rfl (by decide) rfl rfl (Nat.le_of_ble_eq_true rfl) (fun p e s m args below meth cd A Q C hnx hmn hret ls hl => ?_)
  refine x_aload_n C dX4_init_0 rfl (lv_at hl 0 rfl) ?_
  refine x_obj C (C.w 1 rfl) (C.w 2 rfl) (C.w 3 rfl) hl.1 dX4_init_1 (Nat.le_of_ble_eq_true rfl) (Nat.le_of_ble_eq_true rfl) ?_
  refine x_aload_n C dX4_init_4 rfl (lv_at hl 0 rfl) ?_
  refine x_bipush (v := (-9)) C dX4_init_5 (by decide) ?_
  refine x_put (q0 := 0) (j := 1) (w1 := [(h0, .inr (4, [.int 0, .int (-9)]))]) C iX4_init_X4 tyX4 tyX4_ok nmX4 rfl rfl rfl (by decide) (C.w 4 rfl) rfl rfl (Nat.le_of_ble_eq_true rfl) rfl dX4_init_7 ?_
  exact hret _ _ _ _ _ (Nat.le_of_ble_eq_true rfl) (Nat.le_of_ble_eq_true rfl) rfl dX4_init_10
theorem iX6_init_X6 : ∀ w ∈ wsX60, w ∈ wsX6_init := fun _ h => (List.mem_cons_of_mem _ (List.mem_append_right _ h))
theorem hs_X6_init : yX6_init.cls ≠ "java/lang/invoke/MethodHandle" ∧ yX6_init.cls ≠ "java/lang/invoke/VarHandle" ∧ (parseMethodDescriptor yX6_init.desc).map (fun d => d.parameters.length) = some 0 := by decide +kernel
set_option maxHeartbeats 8000000 in
set_option maxRecDepth 100000 in
theorem c_X6_init (l : Launch) (g : ct_G) (h0 : Nat) : MC l g yX6_init wsX6_init { frames := 1, cells := 0, slots := 0, locals := 26 } [.ref h0] [(h0, .inr (6, [.int 0, .int 0, .int 0, .int 0, .int 0]))] 0 0 (fun w => w = [(h0, .inr (6, [.int 4, .int 0, .int 0, .int 0, .int 0]))]) := by
  refine MC.of (own := RX6) (cc := cX6_init) (maxL := 1) rfl (by decide) rfl rfl (Nat.le_of_ble_eq_true rfl) (fun p e s m args below meth cd A Q C hnx hmn hret ls hl => ?_)
  refine x_aload_n C dX6_init_0 rfl (lv_at hl 0 rfl) ?_
  refine x_obj C (C.w 1 rfl) (C.w 2 rfl) (C.w 3 rfl) hl.1 dX6_init_1 (Nat.le_of_ble_eq_true rfl) (Nat.le_of_ble_eq_true rfl) ?_
  refine x_aload_n C dX6_init_4 rfl (lv_at hl 0 rfl) ?_
  refine x_iconst (v := 4) C dX6_init_5 (by decide) ?_
  refine x_put (q0 := 0) (j := 0) (w1 := [(h0, .inr (6, [.int 4, .int 0, .int 0, .int 0, .int 0]))]) C iX6_init_X6 tyX6 tyX6_ok nmX6 rfl rfl rfl (by decide) (C.w 4 rfl) rfl rfl (Nat.le_of_ble_eq_true rfl) rfl dX6_init_6 ?_
  refine x_aload_n C dX6_init_9 rfl (lv_at hl 0 rfl) ?_
  refine x_iconst (v := 0) C dX6_init_10 (by decide) ?_
  refine x_put (q0 := 0) (j := 2) (w1 := [(h0, .inr (6, [.int 4, .int 0, .int 0, .int 0, .int 0]))]) C iX6_init_X6 tyX6 tyX6_ok nmX6 rfl rfl rfl (by decide) (C.w 5 rfl) rfl rfl (Nat.le_of_ble_eq_true rfl) rfl dX6_init_11 ?_
  exact hret _ _ _ _ _ (Nat.le_of_ble_eq_true rfl) (Nat.le_of_ble_eq_true rfl) rfl dX6_init_14
theorem iX5_init_X5 : ∀ w ∈ wsX50, w ∈ wsX5_init := fun _ h => (List.mem_cons_of_mem _ (List.mem_append_right _ h))
theorem hs_X5_init : yX5_init.cls ≠ "java/lang/invoke/MethodHandle" ∧ yX5_init.cls ≠ "java/lang/invoke/VarHandle" ∧ (parseMethodDescriptor yX5_init.desc).map (fun d => d.parameters.length) = some 0 := by decide +kernel
set_option maxHeartbeats 8000000 in
set_option maxRecDepth 100000 in
theorem c_X5_init (l : Launch) (g : ct_G) (h0 : Nat) : MC l g yX5_init wsX5_init { frames := 1, cells := 4, slots := 80, locals := 26 } [.ref h0] [(h0, .inr (5, [.null, .null, .null, .null, .int 0, .int 0]))] 4 80 (fun w => ∃ q1 q2 q3 q4 : Nat, w = [(h0, .inr (5, [.ref q1, .ref q2, .ref q3, .ref q4, .int 0, .int 0])), (q1, .inl (g.2.2 0, 8, .inl (fun _ => 0))), (q2, .inl (g.2.2 0, 24, .inl (fun _ => 0))), (q3, .inl (g.2.2 0, 24, .inl (fun _ => 0))), (q4, .inl (g.2.2 0, 24, .inl (fun _ => 0)))]) := by
  refine MC.of (own := RX5) (cc := cX5_init) (maxL := 1) rfl (by decide) rfl rfl (Nat.le_of_ble_eq_true rfl) (fun p e s m args below meth cd A Q C hnx hmn hret ls hl => ?_)
  refine x_aload_n C dX5_init_0 rfl (lv_at hl 0 rfl) ?_
  refine x_obj C (C.w 1 rfl) (C.w 2 rfl) (C.w 3 rfl) hl.1 dX5_init_1 (Nat.le_of_ble_eq_true rfl) (Nat.le_of_ble_eq_true rfl) ?_
  refine x_aload_n C dX5_init_4 rfl (lv_at hl 0 rfl) ?_
  refine x_bipush (v := 8) C dX5_init_5 (by decide) ?_
  refine x_newa (atype := .int) (ty := .int) (tn := 0) (N' := 8) (w1 := fun q => [(h0, .inr (5, [.null, .null, .null, .null, .int 0, .int 0])), (q, .inl (g.2.2 0, 8, .inl (fun _ => 0)))]) C (C.w 4 rfl) rfl rfl (fun u => Iff.rfl) (fun _ => rfl) (by decide) (by decide) (by decide) ⟨Nat.le_of_ble_eq_true rfl, Nat.le_of_ble_eq_true rfl⟩ (fun q => rfl) dX5_init_7 (fun q1 => ?_)
  refine x_putF (q0 := 0) (j := 0) (w1 := [(h0, .inr (5, [.ref q1, .null, .null, .null, .int 0, .int 0])), (q1, .inl (g.2.2 0, 8, .inl (fun _ => 0)))]) C hmn iX5_init_X5 tyX5 tyX5_ok nmX5 rfl rfl rfl rfl (by decide) (C.w 5 rfl) rfl rfl (Nat.le_of_ble_eq_true rfl) rfl dX5_init_9 ?_
  refine x_aload_n C dX5_init_12 rfl (lv_at hl 0 rfl) ?_
  refine x_bipush (v := 24) C dX5_init_13 (by decide) ?_
  refine x_newa (atype := .int) (ty := .int) (tn := 0) (N' := 24) (w1 := fun q => [(h0, .inr (5, [.ref q1, .null, .null, .null, .int 0, .int 0])), (q1, .inl (g.2.2 0, 8, .inl (fun _ => 0))), (q, .inl (g.2.2 0, 24, .inl (fun _ => 0)))]) C (C.w 4 rfl) rfl rfl (fun u => Iff.rfl) (fun _ => rfl) (by decide) (by decide) (by decide) ⟨Nat.le_of_ble_eq_true rfl, Nat.le_of_ble_eq_true rfl⟩ (fun q => rfl) dX5_init_15 (fun q2 => ?_)
  refine x_putF (q0 := 0) (j := 1) (w1 := [(h0, .inr (5, [.ref q1, .ref q2, .null, .null, .int 0, .int 0])), (q1, .inl (g.2.2 0, 8, .inl (fun _ => 0))), (q2, .inl (g.2.2 0, 24, .inl (fun _ => 0)))]) C hmn iX5_init_X5 tyX5 tyX5_ok nmX5 rfl rfl rfl rfl (by decide) (C.w 6 rfl) rfl rfl (Nat.le_of_ble_eq_true rfl) rfl dX5_init_17 ?_
  refine x_aload_n C dX5_init_20 rfl (lv_at hl 0 rfl) ?_
  refine x_bipush (v := 24) C dX5_init_21 (by decide) ?_
  refine x_newa (atype := .int) (ty := .int) (tn := 0) (N' := 24) (w1 := fun q => [(h0, .inr (5, [.ref q1, .ref q2, .null, .null, .int 0, .int 0])), (q1, .inl (g.2.2 0, 8, .inl (fun _ => 0))), (q2, .inl (g.2.2 0, 24, .inl (fun _ => 0))), (q, .inl (g.2.2 0, 24, .inl (fun _ => 0)))]) C (C.w 4 rfl) rfl rfl (fun u => Iff.rfl) (fun _ => rfl) (by decide) (by decide) (by decide) ⟨Nat.le_of_ble_eq_true rfl, Nat.le_of_ble_eq_true rfl⟩ (fun q => rfl) dX5_init_23 (fun q3 => ?_)
  refine x_putF (q0 := 0) (j := 2) (w1 := [(h0, .inr (5, [.ref q1, .ref q2, .ref q3, .null, .int 0, .int 0])), (q1, .inl (g.2.2 0, 8, .inl (fun _ => 0))), (q2, .inl (g.2.2 0, 24, .inl (fun _ => 0))), (q3, .inl (g.2.2 0, 24, .inl (fun _ => 0)))]) C hmn iX5_init_X5 tyX5 tyX5_ok nmX5 rfl rfl rfl rfl (by decide) (C.w 7 rfl) rfl rfl (Nat.le_of_ble_eq_true rfl) rfl dX5_init_25 ?_
  refine x_aload_n C dX5_init_28 rfl (lv_at hl 0 rfl) ?_
  refine x_bipush (v := 24) C dX5_init_29 (by decide) ?_
  refine x_newa (atype := .int) (ty := .int) (tn := 0) (N' := 24) (w1 := fun q => [(h0, .inr (5, [.ref q1, .ref q2, .ref q3, .null, .int 0, .int 0])), (q1, .inl (g.2.2 0, 8, .inl (fun _ => 0))), (q2, .inl (g.2.2 0, 24, .inl (fun _ => 0))), (q3, .inl (g.2.2 0, 24, .inl (fun _ => 0))), (q, .inl (g.2.2 0, 24, .inl (fun _ => 0)))]) C (C.w 4 rfl) rfl rfl (fun u => Iff.rfl) (fun _ => rfl) (by decide) (by decide) (by decide) ⟨Nat.le_of_ble_eq_true rfl, Nat.le_of_ble_eq_true rfl⟩ (fun q => rfl) dX5_init_31 (fun q4 => ?_)
  refine x_putF (q0 := 0) (j := 3) (w1 := [(h0, .inr (5, [.ref q1, .ref q2, .ref q3, .ref q4, .int 0, .int 0])), (q1, .inl (g.2.2 0, 8, .inl (fun _ => 0))), (q2, .inl (g.2.2 0, 24, .inl (fun _ => 0))), (q3, .inl (g.2.2 0, 24, .inl (fun _ => 0))), (q4, .inl (g.2.2 0, 24, .inl (fun _ => 0)))]) C hmn iX5_init_X5 tyX5 tyX5_ok nmX5 rfl rfl rfl rfl (by decide) (C.w 8 rfl) rfl rfl (Nat.le_of_ble_eq_true rfl) rfl dX5_init_33 ?_
  exact hret _ _ _ _ _ (Nat.le_of_ble_eq_true rfl) (Nat.le_of_ble_eq_true rfl) ⟨q1, q2, q3, q4, rfl⟩ dX5_init_36
