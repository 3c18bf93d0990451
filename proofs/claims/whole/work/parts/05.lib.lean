/-! the system's cells: a shape that stays, and a state: of each cell (by its number) what its places hold -/
abbrev ct_St : Type := Nat → Nat → Int32
/-- the state with the cell i's places replaced -/
def ur (t : ct_St) (i : Nat) (f : Nat → Int32) : ct_St := fun a => if a = i then f else t a
/-- the state with one place written -/
def us (t : ct_St) (i k : Nat) (v : Int32) : ct_St := ur t i (upd (t i) k v)
/-- a Java int as a place -/
abbrev ix (x : Int32) : Nat := x.toNatClampNeg
/-- a cell's kind: an array of ints (type, length); an array of cells (type, their numbers); an object (class, of each field the number of the cell that it names, if it is a reference) -/
abbrev ct_K : Type := (Nat × Nat) ⊕ (Nat × List Nat) ⊕ (Nat × List (Option Nat))
abbrev ct_G : Type := va_G × (Nat → Nat) × (Nat → ClassId)
def ct_fv (g : ct_G) (f : Nat → Int32) (fs : List (Option Nat)) (j : Nat) : Value := match fs.getD j none with
  | some r => .ref (g.2.1 r)
  | none => .int (f j)
def ct_e (g : ct_G) (f : Nat → Int32) (k : ct_K) : va_E := match k with
  | .inl a => .inl (g.2.2 a.1, a.2, .inl f)
  | .inr (.inl a) => .inl (g.2.2 a.1, a.2.length, .inr (.inr (.inr (.inr (fun j => (a.2[j]?).map g.2.1)))))
  | .inr (.inr o) => .inr (o.1, (List.range o.2.length).map (ct_fv g f o.2))
def ct_w (g : ct_G) (sh : List ct_K) (t : ct_St) : va_W := (List.range sh.length).map (fun i => (g.2.1 i, ct_e g (t i) (sh.getD i (.inl (0, 0)))))
theorem ur_at (t : ct_St) (i : Nat) (f : Nat → Int32) : ur t i f i = f := if_pos rfl
theorem ur_ne (t : ct_St) {i a : Nat} (f : Nat → Int32) (h : a ≠ i) : ur t i f a = t a := if_neg h
theorem ur_self (t : ct_St) (i : Nat) : ur t i (t i) = t := by
  funext a
  unfold ur
  split
  · next h => rw [h]
  · rfl
theorem ur_ur (t : ct_St) (i : Nat) (f h : Nat → Int32) : ur (ur t i f) i h = ur t i h := by
  funext a
  unfold ur
  split <;> rfl
theorem us_ur (t : ct_St) (i : Nat) (f : Nat → Int32) (k : Nat) (v : Int32) : us (ur t i f) i k v = ur t i (upd f k v) := by
  unfold us
  rw [ur_at, ur_ur]
theorem ct_w_at {g : ct_G} {sh : List ct_K} {t : ct_St} {i : Nat} {k : ct_K} (h : sh[i]? = some k) : (ct_w g sh t)[i]? = some (g.2.1 i, ct_e g (t i) k) := by
  have hl := (List.getElem?_eq_some_iff.mp h).1
  simp [ct_w, List.getElem?_map, List.getElem?_range hl, List.getD_eq_getElem?_getD, h]
theorem ct_w_set {g : ct_G} {sh : List ct_K} {t : ct_St} {i : Nat} {k : ct_K} {f : Nat → Int32} (h : sh[i]? = some k) : (ct_w g sh t).set i (g.2.1 i, ct_e g f k) = ct_w g sh (ur t i f) := by
  have hl := (List.getElem?_eq_some_iff.mp h).1
  apply List.ext_getElem?
  intro j
  by_cases hj : j < sh.length
  · by_cases hji : j = i
    · subst hji
      have h1 : j < (ct_w g sh t).length := by simp [ct_w]; exact hl
      rw [List.getElem?_set_self h1, ct_w_at h, ur_at]
    · obtain ⟨kj, hkj⟩ : ∃ kj, sh[j]? = some kj := ⟨_, List.getElem?_eq_getElem hj⟩
      rw [List.getElem?_set_ne (Ne.symm hji), ct_w_at hkj, ct_w_at hkj, ur_ne t f hji]
  · have e1 : ((ct_w g sh t).set i (g.2.1 i, ct_e g f k))[j]? = none := List.getElem?_eq_none (by simp [ct_w]; omega)
    have e2 : (ct_w g sh (ur t i f))[j]? = none := List.getElem?_eq_none (by simp [ct_w]; omega)
    rw [e1, e2]
theorem ct_fs_len {g : ct_G} {f : Nat → Int32} {fs : List (Option Nat)} : ((List.range fs.length).map (ct_fv g f fs)).length = fs.length := by simp
theorem ct_fs_i {g : ct_G} {f : Nat → Int32} {fs : List (Option Nat)} {k : Nat} (h : fs[k]? = some none) : ((List.range fs.length).map (ct_fv g f fs))[k]? = some (.int (f k)) := by
  have hl := (List.getElem?_eq_some_iff.mp h).1
  simp [List.getElem?_map, List.getElem?_range hl, ct_fv, List.getD_eq_getElem?_getD, h]
theorem ct_fs_r {g : ct_G} {f : Nat → Int32} {fs : List (Option Nat)} {k r : Nat} (h : fs[k]? = some (some r)) : ((List.range fs.length).map (ct_fv g f fs))[k]? = some (.ref (g.2.1 r)) := by
  have hl := (List.getElem?_eq_some_iff.mp h).1
  simp [List.getElem?_map, List.getElem?_range hl, ct_fv, List.getD_eq_getElem?_getD, h]
theorem ct_fs_set {g : ct_G} {f : Nat → Int32} {fs : List (Option Nat)} {k : Nat} {v : Int32} (h : fs[k]? = some none) : ((List.range fs.length).map (ct_fv g f fs)).set k (.int v) = (List.range fs.length).map (ct_fv g (upd f k v) fs) := by
  have hl := (List.getElem?_eq_some_iff.mp h).1
  apply List.ext_getElem?
  intro j
  by_cases hj : j < fs.length
  · by_cases hjk : j = k
    · subst hjk
      rw [List.getElem?_set_self (by rw [ct_fs_len]; exact hl), ct_fs_i h]
      simp [upd]
    · rw [List.getElem?_set_ne (Ne.symm hjk)]
      simp only [List.getElem?_map, List.getElem?_range hj, Option.map_some]
      unfold ct_fv
      split
      · rfl
      · simp [upd, hjk]
  · rw [List.getElem?_eq_none (by simp; omega), List.getElem?_eq_none (by simp; omega)]
/-- the kinds of arrays, by number -/
def ct_ty (g : ct_G) : List (ClassId × FieldType) := [(g.2.2 0, .int), (g.2.2 1, .boolean), (g.2.2 2, .object RX2), (g.2.2 3, .object RX3), (g.2.2 4, .object RX0), (g.2.2 5, .object RX1), (g.2.2 6, .object RX4)]
/-- the one link between nest mates that a method uses -/
def ct_nk (U : State) : Prop := va_Nw (.methodLinkNest RX5 37 yX7_within "ChipTimers") U
/-- a method's start: the cells hold the state t -/
def ct_B (g : ct_G) (sh : List ct_K) (t : ct_St) (sz : Nat) (U : State) : Prop := U.heap.size = sz ∧ va_P g.1 vwCl (ct_w g sh t) U.heap ∧ va_K g.1 vwCl (ct_ty g) U ∧ va_D (fun _ => True) (ct_w g sh t) ∧ ct_nk U
/-- a method's contract: from the state t, by the arguments av, it answers r, and the state is u -/
def MI (l : Launch) (g : ct_G) (sh : List ct_K) (y : MethodName) (ws : List Cond) (rm : Room) (av : List Value) (t : ct_St) (r : Int32) (u : ct_St) : Prop := ∀ sz : Nat, Met l y ws rm (va_Pc av (ct_B g sh t sz)) (va_Qi (fun (x : Int32) (v : ct_St) => x = r ∧ v = u) (fun v T => va_P g.1 vwCl (ct_w g sh v) T.heap ∧ va_D (va_A (ct_w g sh t) sz) (ct_w g sh v)) (va_A (ct_w g sh t) sz)) 0 0 (va_A (ct_w g sh t) sz)
/-- the same of a method that answers nothing -/
def MV (l : Launch) (g : ct_G) (sh : List ct_K) (y : MethodName) (ws : List Cond) (rm : Room) (av : List Value) (t : ct_St) (u : ct_St) : Prop := ∀ sz : Nat, Met l y ws rm (va_Pc av (ct_B g sh t sz)) (va_Qv (fun (v : ct_St) => v = u) (fun v T => va_P g.1 vwCl (ct_w g sh v) T.heap ∧ va_D (va_A (ct_w g sh t) sz) (ct_w g sh v)) (va_A (ct_w g sh t) sz)) 0 0 (va_A (ct_w g sh t) sz)
theorem ct_blind {av : List Value} {g : ct_G} {sh : List ct_K} {t : ct_St} {sz : Nat} : FrameBlind (va_Pc av (ct_B g sh t sz)) := fun a U f mk q => by
  obtain ⟨q0, q1, qP, qK, qD, qN⟩ := q
  exact ⟨q0, q1, qP, va_K.moved (u := U) (U := U.calling f mk a) (Vm.Alike.refl U.vm) qK, qD, va_Nw.same rfl (U := U.calling f mk a) rfl qN⟩
section CTV
variable {p : Program} {l : Launch} {e : Env} {R : Room} {s : State} {m : MethodId} {args : Array Value} {below : List Frame} {meth : Method} {c : Code} {cells slots : Nat} {Q : State → Prop} {A : Nat → Prop} {g : ct_G} {sh : List ct_K} {t : ct_St} {cc : ByteArray} {own : String} {ws : List Cond} {nL : Nat} {pc : Nat} {ls : Array Slot} {rest : List Value}
/-- the machine at the frame f, its cells in the state t, comes to Q -/
def VW (p : Program) (l : Launch) (e : Env) (R : Room) (s : State) (m : MethodId) (args : Array Value) (below : List Frame) (meth : Method) (c : Code) (cells slots : Nat) (Q : State → Prop) (A : Nat → Prop) (g : ct_G) (sh : List ct_K) (t : ct_St) (f : JFrame) : Prop := ∀ (H : Heap) (locs : List Loc), va_P g.1 vwCl (ct_w g sh t) H → va_D A (ct_w g sh t) → va_S A s.heap H locs → W p l e R s m args below meth c H locs cells slots Q f
/-- what holds all through a method -/
def Cx (p : Program) (s : State) (m : MethodId) (args : Array Value) (c : Code) (A : Nat → Prop) (g : ct_G) (cc : ByteArray) (own : String) (ws : List Cond) (nL : Nat) : Prop :=
  p.tables.exec = Jvm.exec ∧ c.code = cc ∧ c.maxLocals = nL ∧ s.vm.findClass own = some m.cls ∧ (∀ w ∈ ws, w.before args s = true) ∧ va_K g.1 vwCl (ct_ty g) s ∧ (∀ q, s.heap.size ≤ q → A q) ∧ ct_nk s
theorem Cx.w (C : Cx p s m args c A g cc own ws nL) (i : Nat) {x : Cond} (h : ws[i]? = some x) : x.before args s = true := C.2.2.2.2.1 x (List.mem_of_getElem? h)
theorem Cx.fix (C : Cx p s m args c A g cc own ws nL) : CallFix p m c cc nL s args ws own := ⟨C.1, C.2.1, C.2.2.1, C.2.2.2.1, C.2.2.2.2.1⟩
theorem VW.of {f1 f2 : JFrame} (h : ∀ (H : Heap) (locs : List Loc), W p l e R s m args below meth c H locs cells slots Q f2 → W p l e R s m args below meth c H locs cells slots Q f1) (k : VW p l e R s m args below meth c cells slots Q A g sh t f2) : VW p l e R s m args below meth c cells slots Q A g sh t f1 := fun H locs hP hD hS => h H locs (k H locs hP hD hS)
theorem VW.by (P : Prop) {f : JFrame} (k1 : P → VW p l e R s m args below meth c cells slots Q A g sh t f) (k2 : ¬ P → VW p l e R s m args below meth c cells slots Q A g sh t f) : VW p l e R s m args below meth c cells slots Q A g sh t f := (Classical.em P).elim k1 k2
theorem VW.gen {f : JFrame} (k : ∀ u : ct_St, u = t → VW p l e R s m args below meth c cells slots Q A g sh u f) : VW p l e R s m args below meth c cells slots Q A g sh t f := k t rfl
theorem VW.st {u : ct_St} {f : JFrame} (h : t = u) (k : VW p l e R s m args below meth c cells slots Q A g sh u f) : VW p l e R s m args below meth c cells slots Q A g sh t f := by rw [h]; exact k
theorem VW.fr {f f2 : JFrame} (h : f = f2) (k : VW p l e R s m args below meth c cells slots Q A g sh t f2) : VW p l e R s m args below meth c cells slots Q A g sh t f := by rw [h]; exact k
theorem v_topi {x : Int32} (k : ∀ y : Int32, y = x → VW p l e R s m args below meth c cells slots Q A g sh t (F0 m pc ls (.int y :: rest))) : VW p l e R s m args below meth c cells slots Q A g sh t (F0 m pc ls (.int x :: rest)) := k x rfl
theorem v_iconst (C : Cx p s m args c A g cc own ws nL) {n : Int} {v : Int32} (d : decode cc pc = .ok (.iconst n, 1)) (hv : Int32.ofInt n = v) (k : VW p l e R s m args below meth c cells slots Q A g sh t (F0 m (pc + 1) ls (.int v :: rest))) : VW p l e R s m args below meth c cells slots Q A g sh t (F0 m pc ls rest) := VW.of (fun _ _ => lv_iconst C.1 C.2.1 d hv) k
theorem v_bipush (C : Cx p s m args c A g cc own ws nL) {n : Int} {v : Int32} (d : decode cc pc = .ok (.bipush n, 2)) (hv : (Int8.ofInt n).toInt32 = v) (k : VW p l e R s m args below meth c cells slots Q A g sh t (F0 m (pc + 2) ls (.int v :: rest))) : VW p l e R s m args below meth c cells slots Q A g sh t (F0 m pc ls rest) := VW.of (fun _ _ => lv_bipush C.1 C.2.1 d hv) k
theorem v_sipush (C : Cx p s m args c A g cc own ws nL) {n : Int} {v : Int32} (d : decode cc pc = .ok (.sipush n, 3)) (hv : (Int16.ofInt n).toInt32 = v) (k : VW p l e R s m args below meth c cells slots Q A g sh t (F0 m (pc + 3) ls (.int v :: rest))) : VW p l e R s m args below meth c cells slots Q A g sh t (F0 m pc ls rest) := VW.of (fun _ _ => lv_sipush C.1 C.2.1 d hv) k
theorem v_iload_n (C : Cx p s m args c A g cc own ws nL) {k0 : Fin 4} {i : Nat} {x : Int32} (d : decode cc pc = .ok (.iload_n k0, 1)) (hi : (k0 : Nat) = i) (hl : ls[i]? = some (.val (.int x))) (k : VW p l e R s m args below meth c cells slots Q A g sh t (F0 m (pc + 1) ls (.int x :: rest))) : VW p l e R s m args below meth c cells slots Q A g sh t (F0 m pc ls rest) := VW.of (fun _ _ => lv_iload_n C.1 C.2.1 d hi hl) k
theorem v_iload (C : Cx p s m args c A g cc own ws nL) {i : Nat} {x : Int32} (d : decode cc pc = .ok (.iload i, 2)) (hl : ls[i]? = some (.val (.int x))) (k : VW p l e R s m args below meth c cells slots Q A g sh t (F0 m (pc + 2) ls (.int x :: rest))) : VW p l e R s m args below meth c cells slots Q A g sh t (F0 m pc ls rest) := VW.of (fun _ _ => lv_iload C.1 C.2.1 d hl) k
theorem v_aload_n (C : Cx p s m args c A g cc own ws nL) {k0 : Fin 4} {i : Nat} {x : Nat} (d : decode cc pc = .ok (.aload_n k0, 1)) (hi : (k0 : Nat) = i) (hl : ls[i]? = some (.val (.ref x))) (k : VW p l e R s m args below meth c cells slots Q A g sh t (F0 m (pc + 1) ls (.ref x :: rest))) : VW p l e R s m args below meth c cells slots Q A g sh t (F0 m pc ls rest) := VW.of (fun _ _ => lv_aload_n C.1 C.2.1 d hi hl) k
theorem v_aload (C : Cx p s m args c A g cc own ws nL) {i : Nat} {x : Nat} (d : decode cc pc = .ok (.aload i, 2)) (hl : ls[i]? = some (.val (.ref x))) (k : VW p l e R s m args below meth c cells slots Q A g sh t (F0 m (pc + 2) ls (.ref x :: rest))) : VW p l e R s m args below meth c cells slots Q A g sh t (F0 m pc ls rest) := VW.of (fun _ _ => lv_aload C.1 C.2.1 d hl) k
theorem v_istore_n (C : Cx p s m args c A g cc own ws nL) {k0 : Fin 4} {i : Nat} {x : Int32} {lv lv' : List (Nat × Value)} (d : decode cc pc = .ok (.istore_n k0, 1)) (hi : (k0 : Nat) = i) (h : lv_has ls nL lv) (hn : i < nL) (hl : (i, Value.int x) :: lv.filter (fun q => !(q.1 == i) && !(q.1 + 1 == i && q.2.category == 2)) = lv') (k : ∀ ls' : Array Slot, lv_has ls' nL lv' → VW p l e R s m args below meth c cells slots Q A g sh t (F0 m (pc + 1) ls' rest)) : VW p l e R s m args below meth c cells slots Q A g sh t (F0 m pc ls (.int x :: rest)) := fun H locs hP hD hS => lv_istore_n C.1 C.2.1 d hi h hn hl (fun ls' h' => k ls' h' H locs hP hD hS)
theorem v_istore (C : Cx p s m args c A g cc own ws nL) {i : Nat} {x : Int32} {lv lv' : List (Nat × Value)} (d : decode cc pc = .ok (.istore i, 2)) (h : lv_has ls nL lv) (hn : i < nL) (hl : (i, Value.int x) :: lv.filter (fun q => !(q.1 == i) && !(q.1 + 1 == i && q.2.category == 2)) = lv') (k : ∀ ls' : Array Slot, lv_has ls' nL lv' → VW p l e R s m args below meth c cells slots Q A g sh t (F0 m (pc + 2) ls' rest)) : VW p l e R s m args below meth c cells slots Q A g sh t (F0 m pc ls (.int x :: rest)) := fun H locs hP hD hS => lv_istore C.1 C.2.1 d h hn hl (fun ls' h' => k ls' h' H locs hP hD hS)
theorem v_astore_n (C : Cx p s m args c A g cc own ws nL) {k0 : Fin 4} {i : Nat} {x : Nat} {lv lv' : List (Nat × Value)} (d : decode cc pc = .ok (.astore_n k0, 1)) (hi : (k0 : Nat) = i) (h : lv_has ls nL lv) (hn : i < nL) (hl : (i, Value.ref x) :: lv.filter (fun q => !(q.1 == i) && !(q.1 + 1 == i && q.2.category == 2)) = lv') (k : ∀ ls' : Array Slot, lv_has ls' nL lv' → VW p l e R s m args below meth c cells slots Q A g sh t (F0 m (pc + 1) ls' rest)) : VW p l e R s m args below meth c cells slots Q A g sh t (F0 m pc ls (.ref x :: rest)) := fun H locs hP hD hS => lv_astore_n C.1 C.2.1 d hi h hn hl (fun ls' h' => k ls' h' H locs hP hD hS)
theorem v_astore (C : Cx p s m args c A g cc own ws nL) {i : Nat} {x : Nat} {lv lv' : List (Nat × Value)} (d : decode cc pc = .ok (.astore i, 2)) (h : lv_has ls nL lv) (hn : i < nL) (hl : (i, Value.ref x) :: lv.filter (fun q => !(q.1 == i) && !(q.1 + 1 == i && q.2.category == 2)) = lv') (k : ∀ ls' : Array Slot, lv_has ls' nL lv' → VW p l e R s m args below meth c cells slots Q A g sh t (F0 m (pc + 2) ls' rest)) : VW p l e R s m args below meth c cells slots Q A g sh t (F0 m pc ls (.ref x :: rest)) := fun H locs hP hD hS => lv_astore C.1 C.2.1 d h hn hl (fun ls' h' => k ls' h' H locs hP hD hS)
theorem v_iinc (C : Cx p s m args c A g cc own ws nL) {i k0 : Nat} {n : Int} {x v : Int32} {lv lv' : List (Nat × Value)} (d : decode cc pc = .ok (.iinc i n, 3)) (h : lv_has ls nL lv) (hk : lv[k0]? = some (i, .int x)) (hv : x + Int32.ofInt n = v) (hn : i < nL) (hl : (i, Value.int v) :: lv.filter (fun q => !(q.1 == i) && !(q.1 + 1 == i && q.2.category == 2)) = lv') (k : ∀ ls' : Array Slot, lv_has ls' nL lv' → VW p l e R s m args below meth c cells slots Q A g sh t (F0 m (pc + 3) ls' rest)) : VW p l e R s m args below meth c cells slots Q A g sh t (F0 m pc ls rest) := fun H locs hP hD hS => lv_iinc C.1 C.2.1 d h hk hv hn hl (fun ls' h' => k ls' h' H locs hP hD hS)
theorem v_iadd (C : Cx p s m args c A g cc own ws nL) {x y : Int32} (d : decode cc pc = .ok (.iadd, 1)) (k : VW p l e R s m args below meth c cells slots Q A g sh t (F0 m (pc + 1) ls (.int (x + y) :: rest))) : VW p l e R s m args below meth c cells slots Q A g sh t (F0 m pc ls (.int y :: .int x :: rest)) := VW.of (fun _ _ => lv_iadd C.1 C.2.1 d) k
theorem v_isub (C : Cx p s m args c A g cc own ws nL) {x y : Int32} (d : decode cc pc = .ok (.isub, 1)) (k : VW p l e R s m args below meth c cells slots Q A g sh t (F0 m (pc + 1) ls (.int (x - y) :: rest))) : VW p l e R s m args below meth c cells slots Q A g sh t (F0 m pc ls (.int y :: .int x :: rest)) := VW.of (fun _ _ => lv_isub C.1 C.2.1 d) k
theorem v_imul (C : Cx p s m args c A g cc own ws nL) {x y : Int32} (d : decode cc pc = .ok (.imul, 1)) (k : VW p l e R s m args below meth c cells slots Q A g sh t (F0 m (pc + 1) ls (.int (x * y) :: rest))) : VW p l e R s m args below meth c cells slots Q A g sh t (F0 m pc ls (.int y :: .int x :: rest)) := VW.of (fun _ _ => lv_imul C.1 C.2.1 d) k
theorem v_iand (C : Cx p s m args c A g cc own ws nL) {x y : Int32} (d : decode cc pc = .ok (.iand, 1)) (k : VW p l e R s m args below meth c cells slots Q A g sh t (F0 m (pc + 1) ls (.int (x &&& y) :: rest))) : VW p l e R s m args below meth c cells slots Q A g sh t (F0 m pc ls (.int y :: .int x :: rest)) := VW.of (fun _ _ => lv_iand C.1 C.2.1 d) k
theorem v_ior (C : Cx p s m args c A g cc own ws nL) {x y : Int32} (d : decode cc pc = .ok (.ior, 1)) (k : VW p l e R s m args below meth c cells slots Q A g sh t (F0 m (pc + 1) ls (.int (x ||| y) :: rest))) : VW p l e R s m args below meth c cells slots Q A g sh t (F0 m pc ls (.int y :: .int x :: rest)) := VW.of (fun _ _ => lv_ior C.1 C.2.1 d) k
theorem v_ixor (C : Cx p s m args c A g cc own ws nL) {x y : Int32} (d : decode cc pc = .ok (.ixor, 1)) (k : VW p l e R s m args below meth c cells slots Q A g sh t (F0 m (pc + 1) ls (.int (x ^^^ y) :: rest))) : VW p l e R s m args below meth c cells slots Q A g sh t (F0 m pc ls (.int y :: .int x :: rest)) := VW.of (fun _ _ => lv_ixor C.1 C.2.1 d) k
theorem v_ishl (C : Cx p s m args c A g cc own ws nL) {x y : Int32} (d : decode cc pc = .ok (.ishl, 1)) (k : VW p l e R s m args below meth c cells slots Q A g sh t (F0 m (pc + 1) ls (.int (x <<< (y &&& 31)) :: rest))) : VW p l e R s m args below meth c cells slots Q A g sh t (F0 m pc ls (.int y :: .int x :: rest)) := VW.of (fun _ _ => lv_ishl C.1 C.2.1 d) k
theorem v_ishr (C : Cx p s m args c A g cc own ws nL) {x y : Int32} (d : decode cc pc = .ok (.ishr, 1)) (k : VW p l e R s m args below meth c cells slots Q A g sh t (F0 m (pc + 1) ls (.int (x >>> (y &&& 31)) :: rest))) : VW p l e R s m args below meth c cells slots Q A g sh t (F0 m pc ls (.int y :: .int x :: rest)) := VW.of (fun _ _ => lv_ishr C.1 C.2.1 d) k
theorem v_iushr (C : Cx p s m args c A g cc own ws nL) {x y v : Int32} (d : decode cc pc = .ok (.iushr, 1)) (hv : (x.toUInt32 >>> (y.toUInt32 &&& Int32.toUInt32 31)).toInt32 = v) (k : VW p l e R s m args below meth c cells slots Q A g sh t (F0 m (pc + 1) ls (.int v :: rest))) : VW p l e R s m args below meth c cells slots Q A g sh t (F0 m pc ls (.int y :: .int x :: rest)) := VW.of (fun _ _ => lv_iushr C.1 C.2.1 d hv) k
theorem v_idiv (C : Cx p s m args c A g cc own ws nL) {x y : Int32} (d : decode cc pc = .ok (.idiv, 1)) (hne : ¬ y = 0) (k : VW p l e R s m args below meth c cells slots Q A g sh t (F0 m (pc + 1) ls (.int (x / y) :: rest))) : VW p l e R s m args below meth c cells slots Q A g sh t (F0 m pc ls (.int y :: .int x :: rest)) := VW.of (fun _ _ => lv_idiv C.1 C.2.1 d hne) k
theorem v_irem (C : Cx p s m args c A g cc own ws nL) {x y : Int32} (d : decode cc pc = .ok (.irem, 1)) (hne : ¬ y = 0) (k : VW p l e R s m args below meth c cells slots Q A g sh t (F0 m (pc + 1) ls (.int (x - x / y * y) :: rest))) : VW p l e R s m args below meth c cells slots Q A g sh t (F0 m pc ls (.int y :: .int x :: rest)) := VW.of (fun _ _ => lv_irem C.1 C.2.1 d hne) k
theorem v_dup (C : Cx p s m args c A g cc own ws nL) {va : Value} (d : decode cc pc = .ok (.dup, 1)) (hva : va.category = 1) (k : VW p l e R s m args below meth c cells slots Q A g sh t (F0 m (pc + 1) ls (va :: va :: rest))) : VW p l e R s m args below meth c cells slots Q A g sh t (F0 m pc ls (va :: rest)) := VW.of (fun _ _ => lv_dup C.1 C.2.1 d hva) k
theorem v_dup2 (C : Cx p s m args c A g cc own ws nL) {va vb : Value} (d : decode cc pc = .ok (.dup2, 1)) (hva : va.category = 1) (hvb : vb.category = 1) (k : VW p l e R s m args below meth c cells slots Q A g sh t (F0 m (pc + 1) ls (va :: vb :: va :: vb :: rest))) : VW p l e R s m args below meth c cells slots Q A g sh t (F0 m pc ls (va :: vb :: rest)) := VW.of (fun _ _ => lv_dup2_11 C.1 C.2.1 d hva hvb) k
theorem v_dup_x1 (C : Cx p s m args c A g cc own ws nL) {va vb : Value} (d : decode cc pc = .ok (.dup_x1, 1)) (hva : va.category = 1) (hvb : vb.category = 1) (k : VW p l e R s m args below meth c cells slots Q A g sh t (F0 m (pc + 1) ls (va :: vb :: va :: rest))) : VW p l e R s m args below meth c cells slots Q A g sh t (F0 m pc ls (va :: vb :: rest)) := VW.of (fun _ _ => lv_dup_x1 C.1 C.2.1 d hva hvb) k
theorem v_pop (C : Cx p s m args c A g cc own ws nL) {va : Value} (d : decode cc pc = .ok (.pop, 1)) (hva : va.category = 1) (k : VW p l e R s m args below meth c cells slots Q A g sh t (F0 m (pc + 1) ls rest)) : VW p l e R s m args below meth c cells slots Q A g sh t (F0 m pc ls (va :: rest)) := VW.of (fun _ _ => lv_pop C.1 C.2.1 d hva) k
theorem v_goto (C : Cx p s m args c A g cc own ws nL) {off : Int} {tgt : Nat} (d : decode cc pc = .ok (.goto off, 3)) (ht : (pc : Int) + off = (tgt : Int)) (k : VW p l e R s m args below meth c cells slots Q A g sh t (F0 m tgt ls rest)) : VW p l e R s m args below meth c cells slots Q A g sh t (F0 m pc ls rest) := VW.of (fun _ _ => lv_goto C.1 C.2.1 d ht) k
theorem v_ldcw (C : Cx p s m args c A g cc own ws nL) {index : Nat} {v : Int32} (hc : (Jvm.Cond.constant own index v).before args s = true) (d : decode cc pc = .ok (.ldc_w index, 3)) (k : VW p l e R s m args below meth c cells slots Q A g sh t (F0 m (pc + 3) ls (.int v :: rest))) : VW p l e R s m args below meth c cells slots Q A g sh t (F0 m pc ls rest) := VW.of (fun _ _ => lv_ldcw C.1 C.2.1 C.2.2.2.1 hc d) k
theorem v_ldc (C : Cx p s m args c A g cc own ws nL) {index : Nat} {v : Int32} (hc : (Jvm.Cond.constant own index v).before args s = true) (d : decode cc pc = .ok (.ldc index, 2)) (k : VW p l e R s m args below meth c cells slots Q A g sh t (F0 m (pc + 2) ls (.int v :: rest))) : VW p l e R s m args below meth c cells slots Q A g sh t (F0 m pc ls rest) := VW.of (fun _ _ => lv_ldc C.1 C.2.1 C.2.2.2.1 hc d) k
theorem v_if_eq (C : Cx p s m args c A g cc own ws nL) {x : Int32} {off : Int} {tgt : Nat} (d : decode cc pc = .ok (.ifCond .eq off, 3)) (ht : (pc : Int) + off = (tgt : Int)) (kt : x = 0 → VW p l e R s m args below meth c cells slots Q A g sh t (F0 m tgt ls rest)) (kf : ¬ x = 0 → VW p l e R s m args below meth c cells slots Q A g sh t (F0 m (pc + 3) ls rest)) : VW p l e R s m args below meth c cells slots Q A g sh t (F0 m pc ls (.int x :: rest)) := fun H locs hP hD hS => lv_if_eq C.1 C.2.1 d ht (fun q => kt q H locs hP hD hS) (fun q => kf q H locs hP hD hS)
theorem v_if_ne (C : Cx p s m args c A g cc own ws nL) {x : Int32} {off : Int} {tgt : Nat} (d : decode cc pc = .ok (.ifCond .ne off, 3)) (ht : (pc : Int) + off = (tgt : Int)) (kt : ¬ x = 0 → VW p l e R s m args below meth c cells slots Q A g sh t (F0 m tgt ls rest)) (kf : x = 0 → VW p l e R s m args below meth c cells slots Q A g sh t (F0 m (pc + 3) ls rest)) : VW p l e R s m args below meth c cells slots Q A g sh t (F0 m pc ls (.int x :: rest)) := fun H locs hP hD hS => lv_if_ne C.1 C.2.1 d ht (fun q => kt q H locs hP hD hS) (fun q => kf q H locs hP hD hS)
theorem v_if_lt (C : Cx p s m args c A g cc own ws nL) {x : Int32} {off : Int} {tgt : Nat} (d : decode cc pc = .ok (.ifCond .lt off, 3)) (ht : (pc : Int) + off = (tgt : Int)) (kt : x < 0 → VW p l e R s m args below meth c cells slots Q A g sh t (F0 m tgt ls rest)) (kf : ¬ x < 0 → VW p l e R s m args below meth c cells slots Q A g sh t (F0 m (pc + 3) ls rest)) : VW p l e R s m args below meth c cells slots Q A g sh t (F0 m pc ls (.int x :: rest)) := fun H locs hP hD hS => lv_if_lt C.1 C.2.1 d ht (fun q => kt q H locs hP hD hS) (fun q => kf q H locs hP hD hS)
theorem v_if_ge (C : Cx p s m args c A g cc own ws nL) {x : Int32} {off : Int} {tgt : Nat} (d : decode cc pc = .ok (.ifCond .ge off, 3)) (ht : (pc : Int) + off = (tgt : Int)) (kt : 0 ≤ x → VW p l e R s m args below meth c cells slots Q A g sh t (F0 m tgt ls rest)) (kf : ¬ 0 ≤ x → VW p l e R s m args below meth c cells slots Q A g sh t (F0 m (pc + 3) ls rest)) : VW p l e R s m args below meth c cells slots Q A g sh t (F0 m pc ls (.int x :: rest)) := fun H locs hP hD hS => lv_if_ge C.1 C.2.1 d ht (fun q => kt q H locs hP hD hS) (fun q => kf q H locs hP hD hS)
theorem v_if_gt (C : Cx p s m args c A g cc own ws nL) {x : Int32} {off : Int} {tgt : Nat} (d : decode cc pc = .ok (.ifCond .gt off, 3)) (ht : (pc : Int) + off = (tgt : Int)) (kt : 0 < x → VW p l e R s m args below meth c cells slots Q A g sh t (F0 m tgt ls rest)) (kf : ¬ 0 < x → VW p l e R s m args below meth c cells slots Q A g sh t (F0 m (pc + 3) ls rest)) : VW p l e R s m args below meth c cells slots Q A g sh t (F0 m pc ls (.int x :: rest)) := fun H locs hP hD hS => lv_if_gt C.1 C.2.1 d ht (fun q => kt q H locs hP hD hS) (fun q => kf q H locs hP hD hS)
theorem v_if_le (C : Cx p s m args c A g cc own ws nL) {x : Int32} {off : Int} {tgt : Nat} (d : decode cc pc = .ok (.ifCond .le off, 3)) (ht : (pc : Int) + off = (tgt : Int)) (kt : x ≤ 0 → VW p l e R s m args below meth c cells slots Q A g sh t (F0 m tgt ls rest)) (kf : ¬ x ≤ 0 → VW p l e R s m args below meth c cells slots Q A g sh t (F0 m (pc + 3) ls rest)) : VW p l e R s m args below meth c cells slots Q A g sh t (F0 m pc ls (.int x :: rest)) := fun H locs hP hD hS => lv_if_le C.1 C.2.1 d ht (fun q => kt q H locs hP hD hS) (fun q => kf q H locs hP hD hS)
theorem v_icmp_eq (C : Cx p s m args c A g cc own ws nL) {x y : Int32} {off : Int} {tgt : Nat} (d : decode cc pc = .ok (.if_icmp .eq off, 3)) (ht : (pc : Int) + off = (tgt : Int)) (kt : x = y → VW p l e R s m args below meth c cells slots Q A g sh t (F0 m tgt ls rest)) (kf : ¬ x = y → VW p l e R s m args below meth c cells slots Q A g sh t (F0 m (pc + 3) ls rest)) : VW p l e R s m args below meth c cells slots Q A g sh t (F0 m pc ls (.int y :: .int x :: rest)) := fun H locs hP hD hS => lv_icmp_eq C.1 C.2.1 d ht (fun q => kt q H locs hP hD hS) (fun q => kf q H locs hP hD hS)
theorem v_icmp_ne (C : Cx p s m args c A g cc own ws nL) {x y : Int32} {off : Int} {tgt : Nat} (d : decode cc pc = .ok (.if_icmp .ne off, 3)) (ht : (pc : Int) + off = (tgt : Int)) (kt : ¬ x = y → VW p l e R s m args below meth c cells slots Q A g sh t (F0 m tgt ls rest)) (kf : x = y → VW p l e R s m args below meth c cells slots Q A g sh t (F0 m (pc + 3) ls rest)) : VW p l e R s m args below meth c cells slots Q A g sh t (F0 m pc ls (.int y :: .int x :: rest)) := fun H locs hP hD hS => lv_icmp_ne C.1 C.2.1 d ht (fun q => kt q H locs hP hD hS) (fun q => kf q H locs hP hD hS)
theorem v_icmp_lt (C : Cx p s m args c A g cc own ws nL) {x y : Int32} {off : Int} {tgt : Nat} (d : decode cc pc = .ok (.if_icmp .lt off, 3)) (ht : (pc : Int) + off = (tgt : Int)) (kt : x < y → VW p l e R s m args below meth c cells slots Q A g sh t (F0 m tgt ls rest)) (kf : ¬ x < y → VW p l e R s m args below meth c cells slots Q A g sh t (F0 m (pc + 3) ls rest)) : VW p l e R s m args below meth c cells slots Q A g sh t (F0 m pc ls (.int y :: .int x :: rest)) := fun H locs hP hD hS => lv_icmp_lt C.1 C.2.1 d ht (fun q => kt q H locs hP hD hS) (fun q => kf q H locs hP hD hS)
theorem v_icmp_ge (C : Cx p s m args c A g cc own ws nL) {x y : Int32} {off : Int} {tgt : Nat} (d : decode cc pc = .ok (.if_icmp .ge off, 3)) (ht : (pc : Int) + off = (tgt : Int)) (kt : y ≤ x → VW p l e R s m args below meth c cells slots Q A g sh t (F0 m tgt ls rest)) (kf : ¬ y ≤ x → VW p l e R s m args below meth c cells slots Q A g sh t (F0 m (pc + 3) ls rest)) : VW p l e R s m args below meth c cells slots Q A g sh t (F0 m pc ls (.int y :: .int x :: rest)) := fun H locs hP hD hS => lv_icmp_ge C.1 C.2.1 d ht (fun q => kt q H locs hP hD hS) (fun q => kf q H locs hP hD hS)
theorem v_icmp_gt (C : Cx p s m args c A g cc own ws nL) {x y : Int32} {off : Int} {tgt : Nat} (d : decode cc pc = .ok (.if_icmp .gt off, 3)) (ht : (pc : Int) + off = (tgt : Int)) (kt : y < x → VW p l e R s m args below meth c cells slots Q A g sh t (F0 m tgt ls rest)) (kf : ¬ y < x → VW p l e R s m args below meth c cells slots Q A g sh t (F0 m (pc + 3) ls rest)) : VW p l e R s m args below meth c cells slots Q A g sh t (F0 m pc ls (.int y :: .int x :: rest)) := fun H locs hP hD hS => lv_icmp_gt C.1 C.2.1 d ht (fun q => kt q H locs hP hD hS) (fun q => kf q H locs hP hD hS)
theorem v_icmp_le (C : Cx p s m args c A g cc own ws nL) {x y : Int32} {off : Int} {tgt : Nat} (d : decode cc pc = .ok (.if_icmp .le off, 3)) (ht : (pc : Int) + off = (tgt : Int)) (kt : x ≤ y → VW p l e R s m args below meth c cells slots Q A g sh t (F0 m tgt ls rest)) (kf : ¬ x ≤ y → VW p l e R s m args below meth c cells slots Q A g sh t (F0 m (pc + 3) ls rest)) : VW p l e R s m args below meth c cells slots Q A g sh t (F0 m pc ls (.int y :: .int x :: rest)) := fun H locs hP hD hS => lv_icmp_le C.1 C.2.1 d ht (fun q => kt q H locs hP hD hS) (fun q => kf q H locs hP hD hS)
theorem v_tabIn (C : Cx p s m args c A g cc own ws nL) {dflt lo hi : Int} {offs : Array Int} {len : Nat} {x v : Int32} {off : Int} {tgt : Nat} (d : decode cc pc = .ok (.tableswitch dflt lo hi offs, len)) (hx : x = v) (h1 : ¬ v.toInt < lo) (h2 : ¬ hi < v.toInt) (ho : offs[(v.toInt - lo).toNat]? = some off) (ht : (pc : Int) + off = (tgt : Int)) (k : VW p l e R s m args below meth c cells slots Q A g sh t (F0 m tgt ls rest)) : VW p l e R s m args below meth c cells slots Q A g sh t (F0 m pc ls (.int x :: rest)) := VW.of (fun _ _ => lv_tableIn C.1 C.2.1 d (by rw [hx]; exact h1) (by rw [hx]; exact h2) (by rw [hx]; exact ho) ht) k
theorem v_tabOut (C : Cx p s m args c A g cc own ws nL) {dflt lo hi : Int} {offs : Array Int} {len : Nat} {x : Int32} {tgt : Nat} (d : decode cc pc = .ok (.tableswitch dflt lo hi offs, len)) (h : x.toInt < lo ∨ hi < x.toInt) (ht : (pc : Int) + dflt = (tgt : Int)) (k : VW p l e R s m args below meth c cells slots Q A g sh t (F0 m tgt ls rest)) : VW p l e R s m args below meth c cells slots Q A g sh t (F0 m pc ls (.int x :: rest)) := VW.of (fun _ _ => lv_tableOut C.1 C.2.1 d h ht) k
theorem v_look (C : Cx p s m args c A g cc own ws nL) {dflt : Int} {ps : Array (Int × Int)} {len : Nat} {x : Int32} {off : Int} {tgt : Nat} (d : decode cc pc = .ok (.lookupswitch dflt ps, len)) (hp : (ps.toList.zip (ps.toList.drop 1)).all (fun (a, next) => a.1 < next.1) = true) (ho : Op.lookupswitch.offset ps.toList dflt x.toInt = off) (ht : (pc : Int) + off = (tgt : Int)) (k : VW p l e R s m args below meth c cells slots Q A g sh t (F0 m tgt ls rest)) : VW p l e R s m args below meth c cells slots Q A g sh t (F0 m pc ls (.int x :: rest)) := VW.of (fun _ _ => lv_lookup C.1 C.2.1 d hp ho ht) k
theorem v_min (C : Cx p s m args c A g cc own ws nL) {index : Nat} (hlink : (Cond.methodLink own index Lib.Math.min.name).before args s = true) (hstat : (Cond.static Lib.Math.min.name).before args s = true) (hini : (Cond.initialized "java/lang/Math").before args s = true) (hcode : (Cond.code Lib.Math.min.name Lib.Math.min.code 2 (some .int)).before args s = true) (hls : ls.size = nL) (hfr : 1 ≤ R.frames) (hlo : (rest.map fun v => v.category).sum + 13 ≤ R.locals) (hcs : cells ≤ R.cells ∧ slots ≤ R.slots) {x y : Int32} (d : decode cc pc = .ok (.invokestatic index, 3)) (k : VW p l e R s m args below meth c cells slots Q A g sh t (F0 m (pc + 3) ls (.int (if y < x then y else x) :: rest))) : VW p l e R s m args below meth c cells slots Q A g sh t (F0 m pc ls (.int y :: .int x :: rest)) := VW.of (fun _ _ => va_mmin C.1 C.2.1 (C.2.2.1.trans hls.symm) C.2.2.2.1 hlink hstat hini hcode hfr hlo hcs.1 hcs.2 d) k
theorem v_getI (C : Cx p s m args c A g cc own ws nL) {CC : String} {T : u_T} {N ci i j index : Nat} {fs : List (Option Nat)} {rf nm ds : String} {fb : Bool} {a : Nat} (hin : ∀ w ∈ u_ws CC T N, w ∈ ws) (hk : sh[i]? = some (.inr (.inr (ci, fs)))) (ha : g.2.1 i = a) (hc : vwCl[ci]? = some (CC, T, N)) (hT : T j = (rf, nm, ds, fb)) (hjN : j < N) (hj : fs[j]? = some none) (hlink : (Cond.fieldLink own index rf nm ds).before args s = true) (d : decode cc pc = .ok (.getfield index, 3)) (k : VW p l e R s m args below meth c cells slots Q A g sh t (F0 m (pc + 3) ls (.int (t i j) :: rest))) : VW p l e R s m args below meth c cells slots Q A g sh t (F0 m pc ls (.ref a :: rest)) := by
  intro H locs hP hD hS
  subst ha
  exact va_get C.1 C.2.1 C.2.2.2.2.1 hin C.2.2.2.1 C.2.2.2.2.2.1 hP i (ct_w_at hk) hc j hjN (by rw [hT]; exact hlink) (by rw [hT]; exact fun _ h => h) (ct_fs_i hj) d (k H locs hP hD hS)
theorem v_getR (C : Cx p s m args c A g cc own ws nL) {CC : String} {T : u_T} {N ci i j index r : Nat} {fs : List (Option Nat)} {rf nm ds : String} {fb : Bool} {a : Nat} (hin : ∀ w ∈ u_ws CC T N, w ∈ ws) (hk : sh[i]? = some (.inr (.inr (ci, fs)))) (ha : g.2.1 i = a) (hc : vwCl[ci]? = some (CC, T, N)) (hT : T j = (rf, nm, ds, fb)) (hjN : j < N) (hj : fs[j]? = some (some r)) (hlink : (Cond.fieldLink own index rf nm ds).before args s = true) (d : decode cc pc = .ok (.getfield index, 3)) (k : VW p l e R s m args below meth c cells slots Q A g sh t (F0 m (pc + 3) ls (.ref (g.2.1 r) :: rest))) : VW p l e R s m args below meth c cells slots Q A g sh t (F0 m pc ls (.ref a :: rest)) := by
  intro H locs hP hD hS
  subst ha
  exact va_get C.1 C.2.1 C.2.2.2.2.1 hin C.2.2.2.1 C.2.2.2.2.2.1 hP i (ct_w_at hk) hc j hjN (by rw [hT]; exact hlink) (by rw [hT]; exact fun _ h => h) (ct_fs_r hj) d (k H locs hP hD hS)
theorem v_put (C : Cx p s m args c A g cc own ws nL) {CC : String} {T : u_T} {N ci i j index : Nat} {fs : List (Option Nat)} {rf nm ds : String} {a : Nat} {ty : FieldType} {v : Int32} (hin : ∀ w ∈ u_ws CC T N, w ∈ ws) (ty0 : Nat → FieldType) (hty : ∀ k, k < N → parseFieldDescriptor (T k).2.2.1 = some (ty0 k)) (hnm : ∀ a, a < N → ∀ b, b < N → a ≠ b → (T a).2.1 ≠ (T b).2.1) (hk : sh[i]? = some (.inr (.inr (ci, fs)))) (ha : g.2.1 i = a) (hc : vwCl[ci]? = some (CC, T, N)) (hT : T j = (rf, nm, ds, false)) (hjN : j < N) (hj : fs[j]? = some none) (hlink : (Cond.fieldLink own index rf nm ds).before args s = true) (hd : ty0 j = ty) (hn : narrow ty (.int v) = .int v) (hf : fits ty (.int v) = true) (d : decode cc pc = .ok (.putfield index, 3)) (k : VW p l e R s m args below meth c cells slots Q A g sh (us t i j v) (F0 m (pc + 3) ls rest)) : VW p l e R s m args below meth c cells slots Q A g sh t (F0 m pc ls (.int v :: .ref a :: rest)) := by
  intro H locs hP hD hS
  subst ha
  have he : ((List.range fs.length).map (ct_fv g (t i) fs)).set j (.int v) = (List.range fs.length).map (ct_fv g (upd (t i) j v) fs) := ct_fs_set hj
  have hw : (ct_w g sh t).set i (g.2.1 i, .inr (ci, ((List.range fs.length).map (ct_fv g (t i) fs)).set j (.int v))) = ct_w g sh (us t i j v) := by
    rw [he]
    exact ct_w_set (f := upd (t i) j v) hk
  refine va_put C.1 C.2.1 C.2.2.2.2.1 hin ty0 hty hnm C.2.2.2.1 C.2.2.2.2.2.1 hP hD hS i (ct_w_at hk) hc j hjN (by rw [hT]; exact hlink) (by rw [hT]; exact fun _ h => h) (by rw [hT]) (by rw [hty j hjN, hd]) hn hf (by rw [ct_fs_len]; exact (List.getElem?_eq_some_iff.mp hj).1) d (fun H1 locs1 hP1 hD1 hS1 => ?_)
  rw [hw] at hP1 hD1
  exact k H1 locs1 hP1 hD1 hS1
theorem v_iald (C : Cx p s m args c A g cc own ws nL) {i n : Nat} {a : Nat} {x : Int32} (hk : sh[i]? = some (.inl (0, n))) (ha : g.2.1 i = a) (hx : vp_in x n) (d : decode cc pc = .ok (.iaload, 1)) (k : VW p l e R s m args below meth c cells slots Q A g sh t (F0 m (pc + 1) ls (.int (t i (ix x)) :: rest))) : VW p l e R s m args below meth c cells slots Q A g sh t (F0 m pc ls (.int x :: .ref a :: rest)) := by
  intro H locs hP hD hS
  subst ha
  exact va_iald C.1 C.2.1 C.2.2.2.2.2.1 hP i 0 (ct_w_at hk) rfl hx d (k H locs hP hD hS)
theorem v_zald (C : Cx p s m args c A g cc own ws nL) {i n : Nat} {a : Nat} {x : Int32} (hk : sh[i]? = some (.inl (1, n))) (ha : g.2.1 i = a) (hx : vp_in x n) (d : decode cc pc = .ok (.baload, 1)) (k : VW p l e R s m args below meth c cells slots Q A g sh t (F0 m (pc + 1) ls (.int (t i (ix x)) :: rest))) : VW p l e R s m args below meth c cells slots Q A g sh t (F0 m pc ls (.int x :: .ref a :: rest)) := by
  intro H locs hP hD hS
  subst ha
  exact va_zald C.1 C.2.1 C.2.2.2.2.2.1 hP i 1 (ct_w_at hk) rfl hx d (k H locs hP hD hS)
theorem v_iast (C : Cx p s m args c A g cc own ws nL) {i n : Nat} {a : Nat} {x y : Int32} (hk : sh[i]? = some (.inl (0, n))) (ha : g.2.1 i = a) (hx : vp_in x n) (d : decode cc pc = .ok (.iastore, 1)) (k : VW p l e R s m args below meth c cells slots Q A g sh (us t i (ix x) y) (F0 m (pc + 1) ls rest)) : VW p l e R s m args below meth c cells slots Q A g sh t (F0 m pc ls (.int y :: .int x :: .ref a :: rest)) := by
  intro H locs hP hD hS
  subst ha
  have hw : (ct_w g sh t).set i (g.2.1 i, .inl (g.2.2 0, n, .inl (upd (t i) (ix x) y))) = ct_w g sh (us t i (ix x) y) := ct_w_set (f := upd (t i) (ix x) y) hk
  refine va_iast C.1 C.2.1 C.2.2.2.2.2.1 hP hD hS i 0 (ct_w_at hk) rfl hx d (fun H1 locs1 hP1 hD1 hS1 => ?_)
  rw [hw] at hP1 hD1
  exact k H1 locs1 hP1 hD1 hS1
theorem v_zast (C : Cx p s m args c A g cc own ws nL) {i n : Nat} {a : Nat} {x y z : Int32} (hk : sh[i]? = some (.inl (1, n))) (ha : g.2.1 i = a) (hx : vp_in x n) (hz : vp_nar .boolean y = z) (d : decode cc pc = .ok (.bastore, 1)) (k : VW p l e R s m args below meth c cells slots Q A g sh (us t i (ix x) z) (F0 m (pc + 1) ls rest)) : VW p l e R s m args below meth c cells slots Q A g sh t (F0 m pc ls (.int y :: .int x :: .ref a :: rest)) := by
  intro H locs hP hD hS
  subst ha
  subst hz
  have hw : (ct_w g sh t).set i (g.2.1 i, .inl (g.2.2 1, n, .inl (upd (t i) (ix x) (vp_nar .boolean y)))) = ct_w g sh (us t i (ix x) (vp_nar .boolean y)) := ct_w_set (f := upd (t i) (ix x) (vp_nar .boolean y)) hk
  refine va_zast C.1 C.2.1 C.2.2.2.2.2.1 hP hD hS i 1 (ct_w_at hk) rfl hx d (fun H1 locs1 hP1 hD1 hS1 => ?_)
  rw [hw] at hP1 hD1
  exact k H1 locs1 hP1 hD1 hS1
theorem v_aald (C : Cx p s m args c A g cc own ws nL) {i ty : Nat} {l0 : List Nat} {CC : String} {a r : Nat} {x : Int32} (hk : sh[i]? = some (.inr (.inl (ty, l0)))) (ha : g.2.1 i = a) (hty : (ct_ty g)[ty]? = some (g.2.2 ty, .object CC)) (hx : vp_in x l0.length) (hr : l0[ix x]? = some r) (d : decode cc pc = .ok (.aaload, 1)) (k : VW p l e R s m args below meth c cells slots Q A g sh t (F0 m (pc + 1) ls (.ref (g.2.1 r) :: rest))) : VW p l e R s m args below meth c cells slots Q A g sh t (F0 m pc ls (.int x :: .ref a :: rest)) := by
  intro H locs hP hD hS
  subst ha
  refine va_aldq C.1 C.2.1 C.2.2.2.2.2.1 hP i ty (ct_w_at hk) hty hx d ?_
  show W _ _ _ _ _ _ _ _ _ _ _ _ _ _ _ (F0 m (pc + 1) ls (va_rf ((l0[ix x]?).map g.2.1) :: rest))
  rw [hr]
  exact k H locs hP hD hS
theorem v_calli (C : Cx p s m args c A g cc own ws nL) {y : MethodName} {ws' : List Cond} {rm : Room} {As : List Value} {r : Int32} {u : ct_St} {bytes : ByteArray} {maxL n index : Nat} {ret : Option FieldType} {st : List Value} {i ci b : Nat} {fs : List (Option Nat)} {q : vw_C} {CC : String} (hM : MI l g sh y ws' rm (.ref b :: As) t r u) (cw : CallW R s args own CC index y bytes maxL ret ws' rm 0 0 n) (hk : sh[i]? = some (.inr (.inr (ci, fs)))) (hb : g.2.1 i = b) (hc : vwCl[ci]? = some q) (hq : q.1 = CC) (hn : As.length = n) (hls : ls.size = nL) (hst : st = As.reverse ++ .ref b :: rest) (hcat : (rest.map fun v => v.category).sum ≤ 8) (d : decode cc pc = .ok (.invokevirtual index, 3)) (hf : cells ≤ R.cells ∧ slots ≤ R.slots) (k : VW p l e R s m args below meth c cells slots Q A g sh u (F0 m (pc + 3) ls (.int r :: rest))) : VW p l e R s m args below meth c cells slots Q A g sh t (F0 m pc ls st) := by
  intro H locs hP hD hS
  subst hb
  have hFc : ∀ q, va_A (ct_w g sh t) H.size q → A q := by
    intro q h
    rcases h with ⟨k0, e0, h⟩ | h
    · exact hD.2 k0 (q, e0) h
    · exact C.2.2.2.2.2.2.1 q (Nat.le_trans hS.1 h)
  refine va_calli (va_runV (As := As) (rest := rest) C.fix (hM H.size) cw ⟨ct_blind, hq ▸ va_recv C.2.2.2.2.2.1 hP hc (ct_w_at (by exact hk)), fun U hU hW => ⟨rfl, by rw [hU], by rw [hU]; exact hP, va_K.moved hW.alike C.2.2.2.2.2.1, hD.weaken (fun _ _ _ _ => trivial), va_Nw.warmM hW C.2.2.2.2.2.2.2⟩⟩ rfl hn hls hst (lv_room hcat) d hf) hS (fun q _ h => hFc q h) hFc (fun r1 v T H1 locs1 ht hvm hw hB hz1 hk1 hS1 => ?_)
  obtain ⟨rfl, rfl⟩ := hw
  obtain ⟨hP1, hD1⟩ := hB
  rw [ht] at hP1
  exact k H1 locs1 hP1 (hD1.weaken (fun k0 q0 _ h => hFc q0.1 h)) hS1
theorem v_callv (C : Cx p s m args c A g cc own ws nL) {y : MethodName} {ws' : List Cond} {rm : Room} {As : List Value} {u : ct_St} {bytes : ByteArray} {maxL n index : Nat} {ret : Option FieldType} {st : List Value} {i ci b : Nat} {fs : List (Option Nat)} {q : vw_C} {CC : String} (hM : MV l g sh y ws' rm (.ref b :: As) t u) (cw : CallW R s args own CC index y bytes maxL ret ws' rm 0 0 n) (hk : sh[i]? = some (.inr (.inr (ci, fs)))) (hb : g.2.1 i = b) (hc : vwCl[ci]? = some q) (hq : q.1 = CC) (hn : As.length = n) (hls : ls.size = nL) (hst : st = As.reverse ++ .ref b :: rest) (hcat : (rest.map fun v => v.category).sum ≤ 8) (d : decode cc pc = .ok (.invokevirtual index, 3)) (hf : cells ≤ R.cells ∧ slots ≤ R.slots) (k : VW p l e R s m args below meth c cells slots Q A g sh u (F0 m (pc + 3) ls rest)) : VW p l e R s m args below meth c cells slots Q A g sh t (F0 m pc ls st) := by
  intro H locs hP hD hS
  subst hb
  have hFc : ∀ q, va_A (ct_w g sh t) H.size q → A q := by
    intro q h
    rcases h with ⟨k0, e0, h⟩ | h
    · exact hD.2 k0 (q, e0) h
    · exact C.2.2.2.2.2.2.1 q (Nat.le_trans hS.1 h)
  refine va_callv (va_runV (As := As) (rest := rest) C.fix (hM H.size) cw ⟨ct_blind, hq ▸ va_recv C.2.2.2.2.2.1 hP hc (ct_w_at (by exact hk)), fun U hU hW => ⟨rfl, by rw [hU], by rw [hU]; exact hP, va_K.moved hW.alike C.2.2.2.2.2.1, hD.weaken (fun _ _ _ _ => trivial), va_Nw.warmM hW C.2.2.2.2.2.2.2⟩⟩ rfl hn hls hst (lv_room hcat) d hf) hS (fun q _ h => hFc q h) hFc (fun v T H1 locs1 ht hvm hw hB hz1 hk1 hS1 => ?_)
  subst hw
  obtain ⟨hP1, hD1⟩ := hB
  rw [ht] at hP1
  exact k H1 locs1 hP1 (hD1.weaken (fun k0 q0 _ h => hFc q0.1 h)) hS1
theorem v_scalli (C : Cx p s m args c A g cc own ws nL) {y : MethodName} {ws' : List Cond} {rm : Room} {As : List Value} {r : Int32} {u : ct_St} {bytes : ByteArray} {maxL n index : Nat} {ret : Option FieldType} {st : List Value} (hM : MI l g sh y ws' rm As t r u) (cw : CallB R s args own index y bytes maxL ret ws' rm 0 0 n ∧ (Cond.static y).before args s = true) (hn : As.length = n) (hls : ls.size = nL) (hst : st = As.reverse ++ rest) (hcat : (rest.map fun v => v.category).sum ≤ 8) (d : decode cc pc = .ok (.invokestatic index, 3)) (hf : cells ≤ R.cells ∧ slots ≤ R.slots) (k : VW p l e R s m args below meth c cells slots Q A g sh u (F0 m (pc + 3) ls (.int r :: rest))) : VW p l e R s m args below meth c cells slots Q A g sh t (F0 m pc ls st) := by
  intro H locs hP hD hS
  have hFc : ∀ q, va_A (ct_w g sh t) H.size q → A q := by
    intro q h
    rcases h with ⟨k0, e0, h⟩ | h
    · exact hD.2 k0 (q, e0) h
    · exact C.2.2.2.2.2.2.1 q (Nat.le_trans hS.1 h)
  refine va_calli (va_runS (As := As) (rest := rest) C.fix (hM H.size) cw ⟨ct_blind, fun U hU hW => ⟨rfl, by rw [hU], by rw [hU]; exact hP, va_K.moved hW.alike C.2.2.2.2.2.1, hD.weaken (fun _ _ _ _ => trivial), va_Nw.warmM hW C.2.2.2.2.2.2.2⟩⟩ rfl hn hls hst (lv_room hcat) d hf) hS (fun q _ h => hFc q h) hFc (fun r1 v T H1 locs1 ht hvm hw hB hz1 hk1 hS1 => ?_)
  obtain ⟨rfl, rfl⟩ := hw
  obtain ⟨hP1, hD1⟩ := hB
  rw [ht] at hP1
  exact k H1 locs1 hP1 (hD1.weaken (fun k0 q0 _ h => hFc q0.1 h)) hS1
theorem v_ncalli (C : Cx p s m args c A g cc own ws nL) {y : MethodName} {ws' : List Cond} {rm : Room} {As : List Value} {r : Int32} {u : ct_St} {bytes : ByteArray} {maxL n index : Nat} {ret : Option FieldType} {st : List Value} {host : String} (hM : MI l g sh y ws' rm As t r u) (cw : va_CN R s args own index y host bytes maxL ret ws' rm 0 0 n ∧ (Cond.static y).before args s = true ∧ True) (hn : As.length = n) (hls : ls.size = nL) (hst : st = As.reverse ++ rest) (hcat : (rest.map fun v => v.category).sum ≤ 8) (d : decode cc pc = .ok (.invokestatic index, 3)) (hf : cells ≤ R.cells ∧ slots ≤ R.slots) (k : VW p l e R s m args below meth c cells slots Q A g sh u (F0 m (pc + 3) ls (.int r :: rest))) : VW p l e R s m args below meth c cells slots Q A g sh t (F0 m pc ls st) := by
  intro H locs hP hD hS
  have hFc : ∀ q, va_A (ct_w g sh t) H.size q → A q := by
    intro q h
    rcases h with ⟨k0, e0, h⟩ | h
    · exact hD.2 k0 (q, e0) h
    · exact C.2.2.2.2.2.2.1 q (Nat.le_trans hS.1 h)
  refine va_calli (va_runSN (As := As) (rest := rest) C.fix (hM H.size) cw ⟨ct_blind, fun U hU hW => ⟨rfl, by rw [hU], by rw [hU]; exact hP, va_K.moved hW.alike C.2.2.2.2.2.1, hD.weaken (fun _ _ _ _ => trivial), va_Nw.warmM hW C.2.2.2.2.2.2.2⟩⟩ rfl hn hls hst (lv_room hcat) d hf) hS (fun q _ h => hFc q h) hFc (fun r1 v T H1 locs1 ht hvm hw hB hz1 hk1 hS1 => ?_)
  obtain ⟨rfl, rfl⟩ := hw
  obtain ⟨hP1, hD1⟩ := hB
  rw [ht] at hP1
  exact k H1 locs1 hP1 (hD1.weaken (fun k0 q0 _ h => hFc q0.1 h)) hS1
end CTV
theorem MI.of {l : Launch} {g : ct_G} {sh : List ct_K} {y : MethodName} {own : String} {ws ws' : List Cond} {rm : Room} {av : List Value} {cc : ByteArray} {maxL : Nat} {t u : ct_St} {r : Int32} (ho : y.cls = own) (hy : plainName y.cls = true) (hw : ws = Cond.code y cc maxL (some .int) :: ws') (hl : (lg_sl av).length ≤ maxL)
    (body : ∀ (p : Program) (e : Env) (s : State) (m : MethodId) (args : Array Value) (below : List Frame) (meth : Method) (c : Code) (A : Nat → Prop) (Q : State → Prop), Cx p s m args c A g cc own ws maxL → (∀ (pc : Nat) (ls : Array Slot) (x : Int32) (v : ct_St), x = r → v = u → decode cc pc = .ok (.ireturn, 1) → VW p l e rm s m args below meth c 0 0 Q A g sh v (F0 m pc ls [.int x])) → ∀ ls : Array Slot, lv_has ls maxL (lv_args 0 av) → VW p l e rm s m args below meth c 0 0 Q A g sh t (F0 m 0 ls [])) : MI l g sh y ws rm av t r u := by
  intro sz
  refine Met.ofW (cc := cc) (maxL := maxL) (ret := (some .int)) hy hw ?_
  intro p e s m args below meth c s₁ B hml hv
  obtain ⟨rfl, hsz, hP, hK, hD0, hnk⟩ := hv
  have hts := atoms_spec (ws := ws) B.pre
  have hown := findClass_of_methodNamed B.named
  rw [ho] at hown
  subst hsz
  have hl0 := lv_entry av (n := maxL) hl
  rw [lg_entry_eq]
  refine body p e s m _ below meth c (va_A (ct_w g sh t) s.heap.size) _ ⟨B.exec, B.bytes, hml, hown, hts, hK, fun q h => Or.inr h, hnk⟩ ?_ _ hl0 s.heap [] hP hD0.self va_S.rf
  intro pc ls x v hx hu hd H locs hP hD hS
  subst hx; subst hu
  exact W.iret B.exec B.bytes B.returns (fun T ht hW => ⟨⟨_, _, rfl, ⟨rfl, rfl⟩, by rw [ht]; exact hP, hD⟩, hS.F ht⟩) hS.2.2 hd (hlocks := B.notSynchronized)
theorem MZ.of {l : Launch} {g : ct_G} {sh : List ct_K} {y : MethodName} {own : String} {ws ws' : List Cond} {rm : Room} {av : List Value} {cc : ByteArray} {maxL : Nat} {t u : ct_St} {r : Int32} (ho : y.cls = own) (hy : plainName y.cls = true) (hw : ws = Cond.code y cc maxL (some .boolean) :: ws') (hl : (lg_sl av).length ≤ maxL)
    (body : ∀ (p : Program) (e : Env) (s : State) (m : MethodId) (args : Array Value) (below : List Frame) (meth : Method) (c : Code) (A : Nat → Prop) (Q : State → Prop), Cx p s m args c A g cc own ws maxL → (∀ (pc : Nat) (ls : Array Slot) (x : Int32) (v : ct_St), x = r → v = u → narrow .boolean (.int x) = .int x → decode cc pc = .ok (.ireturn, 1) → VW p l e rm s m args below meth c 0 0 Q A g sh v (F0 m pc ls [.int x])) → ∀ ls : Array Slot, lv_has ls maxL (lv_args 0 av) → VW p l e rm s m args below meth c 0 0 Q A g sh t (F0 m 0 ls [])) : MI l g sh y ws rm av t r u := by
  intro sz
  refine Met.ofW (cc := cc) (maxL := maxL) (ret := (some .boolean)) hy hw ?_
  intro p e s m args below meth c s₁ B hml hv
  obtain ⟨rfl, hsz, hP, hK, hD0, hnk⟩ := hv
  have hts := atoms_spec (ws := ws) B.pre
  have hown := findClass_of_methodNamed B.named
  rw [ho] at hown
  subst hsz
  have hl0 := lv_entry av (n := maxL) hl
  rw [lg_entry_eq]
  refine body p e s m _ below meth c (va_A (ct_w g sh t) s.heap.size) _ ⟨B.exec, B.bytes, hml, hown, hts, hK, fun q h => Or.inr h, hnk⟩ ?_ _ hl0 s.heap [] hP hD0.self va_S.rf
  intro pc ls x v hx hu hn hd H locs hP hD hS
  subst hx; subst hu
  exact W.zret B.exec B.bytes B.returns hn (fun T ht hW => ⟨⟨_, _, rfl, ⟨rfl, rfl⟩, by rw [ht]; exact hP, hD⟩, hS.F ht⟩) hS.2.2 hd (hlocks := B.notSynchronized)
theorem MV.of {l : Launch} {g : ct_G} {sh : List ct_K} {y : MethodName} {own : String} {ws ws' : List Cond} {rm : Room} {av : List Value} {cc : ByteArray} {maxL : Nat} {t u : ct_St} (ho : y.cls = own) (hy : plainName y.cls = true) (hw : ws = Cond.code y cc maxL none :: ws') (hl : (lg_sl av).length ≤ maxL)
    (body : ∀ (p : Program) (e : Env) (s : State) (m : MethodId) (args : Array Value) (below : List Frame) (meth : Method) (c : Code) (A : Nat → Prop) (Q : State → Prop), Cx p s m args c A g cc own ws maxL → (∀ (pc : Nat) (ls : Array Slot) (v : ct_St), v = u → decode cc pc = .ok (.return_, 1) → VW p l e rm s m args below meth c 0 0 Q A g sh v (F0 m pc ls [])) → ∀ ls : Array Slot, lv_has ls maxL (lv_args 0 av) → VW p l e rm s m args below meth c 0 0 Q A g sh t (F0 m 0 ls [])) : MV l g sh y ws rm av t u := by
  intro sz
  refine Met.ofW (cc := cc) (maxL := maxL) (ret := none) hy hw ?_
  intro p e s m args below meth c s₁ B hml hv
  obtain ⟨rfl, hsz, hP, hK, hD0, hnk⟩ := hv
  have hts := atoms_spec (ws := ws) B.pre
  have hown := findClass_of_methodNamed B.named
  rw [ho] at hown
  subst hsz
  have hl0 := lv_entry av (n := maxL) hl
  rw [lg_entry_eq]
  refine body p e s m _ below meth c (va_A (ct_w g sh t) s.heap.size) _ ⟨B.exec, B.bytes, hml, hown, hts, hK, fun q h => Or.inr h, hnk⟩ ?_ _ hl0 s.heap [] hP hD0.self va_S.rf
  intro pc ls v hu hd H locs hP hD hS
  subst hu
  exact W.vret B.exec B.bytes B.returns (fun T ht hW => ⟨⟨_, rfl, rfl, by rw [ht]; exact hP, hD⟩, hS.F ht⟩) hS.2.2 hd (hlocks := B.notSynchronized)
