/-! THE CLAIM OUT OF ONE WALK OF THE LAW'S BODY. Your part is whole_start (and what it stands on); all else here is the same for every law, but numbers. -/
def R_law : String := "ChipTimersLaw"
def lw_P (b : Addr) (xs : List Int32) (args : Array Value) (s : State) : Prop := args = #[.ref b] ∧ s.IntsAt b xs ∧ xs.length ≤ 2560 ∧ (Jvm.Cond.and given_1 narrow_1).before args s = true
def lw_Q (_ : Array Value) (s : State) (o : Outcome) (t : State) : Prop := o = .returned (some (.int 1)) ∧ Framed s o t [] 622689 7234182
def lw_Z (below : List Frame) (a : Array Value) (s : State) : State → Prop := fun t => ∃ o, t.status = .running ∧ Ended t below o ∧ lw_Q a s o t
/-- the law's own end, with 1 on the stack, nothing written that was there before, its room as the claim has it -/
theorem lw_ret {p : Program} {l : Launch} {e : Env} {s : State} {m : MethodId} {below : List Frame} {meth : Method} {c : Code} {b : Nat} (hx : p.tables.exec = Jvm.exec) (hb : c.code = code) (hr : meth.sig.returnType = ret) (hlocks : meth.locks = false) {pc : Nat} {H : Heap} {ls : Array Slot} (hdg : decode code pc = .ok (.ireturn, 1)) : W p l e room_1 s m #[Value.ref b] below meth c H [] 622689 7234182 (lw_Z below #[Value.ref b] s) (F0 m pc ls [.int 1]) := by
  intro T hT X
  obtain ⟨fs, hret, hrun, hended, hW, hframe⟩ := X.leave (v := some (.int 1)) (hlocks := hlocks) (fun h => by rw [hr] at h; cases h)
  have hmeth' : T.vm.method? m = some meth := X.method'
  refine ⟨T.setFrames fs, ?_, .returned (some (.int 1)), hrun, hended, rfl, ⟨_, rfl⟩, hW, hframe⟩
  jvm_step X.here [X.here.top, hx, hb, hdg, hmeth', hr, ret, narrow_b1]
  (try refine ⟨rfl, ?_⟩); (try refine ⟨rfl, ?_⟩)
  first | (intro acts; rw [hret _ acts rfl rfl rfl]) | rw [hret _ _ rfl rfl rfl]
  exact Steps.refl _
/-- what holds at the law's entry: the machine, the code, the tables' words (any of lw_tbl by 'hts w (by decide +kernel)'), the script of L ints xs at the cell b, what the Statement gives of the start (any of its parts by flat_of_before) -/
def lw_At (p : Program) (s : State) (m : MethodId) (meth : Method) (c : Code) (b L : Nat) (xs : Nat → Int32) : Prop :=
  p.tables.exec = Jvm.exec ∧ c.code = code ∧ meth.sig.returnType = ret ∧ c.maxLocals = 4 ∧ s.vm.findClass R_law = some m.cls ∧ (∀ w ∈ lw_tbl, w.before #[Value.ref b] s = true) ∧ va_X b L xs s s.heap ∧ b < s.heap.size ∧ meth.locks = false ∧ (Jvm.Cond.and given_1 narrow_1).before #[Value.ref b] s = true
theorem v_sld {p : Program} {l : Launch} {e : Env} {R : Room} {s : State} {m : MethodId} {args : Array Value} {below : List Frame} {meth : Method} {c : Code} {cells slots : Nat} {Q : State → Prop} {g : ct_G} {sh : List ct_K} {t : ct_St} {cc : ByteArray} {own : String} {ws : List Cond} {nL pc b L : Nat} {ls : Array Slot} {rest : List Value} {xs : Nat → Int32} {x : Int32} (C : Cx p s m args c (fun q : Nat => s.heap.size ≤ q) g cc own ws nL) (hX : va_X b L xs s s.heap) (hbl : b < s.heap.size) (hin : vp_in x L) (d : decode cc pc = .ok (.iaload, 1)) (k : VW p l e R s m args below meth c cells slots Q (fun q : Nat => s.heap.size ≤ q) g sh t (F0 m (pc + 1) ls (.int (xs (ix x)) :: rest))) : VW p l e R s m args below meth c cells slots Q (fun q : Nat => s.heap.size ≤ q) g sh t (F0 m pc ls (.int x :: .ref b :: rest)) := fun H locs hP hD hS => va_sld C.1 C.2.1 hX hbl (Nat.not_le.mpr hbl) hS hin d (k H locs hP hD hS)
theorem v_slen {p : Program} {l : Launch} {e : Env} {R : Room} {s : State} {m : MethodId} {args : Array Value} {below : List Frame} {meth : Method} {c : Code} {cells slots : Nat} {Q : State → Prop} {g : ct_G} {sh : List ct_K} {t : ct_St} {cc : ByteArray} {own : String} {ws : List Cond} {nL pc b L : Nat} {ls : Array Slot} {rest : List Value} {xs : Nat → Int32} (C : Cx p s m args c (fun q : Nat => s.heap.size ≤ q) g cc own ws nL) (hX : va_X b L xs s s.heap) (hbl : b < s.heap.size) (d : decode cc pc = .ok (.arraylength, 1)) (k : VW p l e R s m args below meth c cells slots Q (fun q : Nat => s.heap.size ≤ q) g sh t (F0 m (pc + 1) ls (.int (Int32.ofNat L) :: rest))) : VW p l e R s m args below meth c cells slots Q (fun q : Nat => s.heap.size ≤ q) g sh t (F0 m pc ls (.ref b :: rest)) := fun H locs hP hD hS => va_slen C.1 C.2.1 hX hbl (Nat.not_le.mpr hbl) hS d (k H locs hP hD hS)
set_option maxHeartbeats 4000000 in
set_option maxRecDepth 100000 in
theorem lc_counter {p : Program} {l : Launch} {e : Env} {s : State} {m : MethodId} {below : List Frame} {meth : Method} {c : Code} {g : ct_G} {b L : Nat} {xs : Nat → Int32} (C : Cx p s m #[Value.ref b] c (fun q : Nat => s.heap.size ≤ q) g cL_law RL wsL_law 4) (hX : va_X b L xs s s.heap) (hbl : b < s.heap.size) {i : Nat} (h1 : vp_in (nI i + 1) L) (h2 : vp_in (nI i + 2) L) (h3 : vp_in (nI i + 3) L) (h4 : vp_in (nI i + 4) L) (t : ct_St) (hJ : J t) (K : ∀ u, J u → ∀ ls, lv_has ls 4 [(0, .ref b), (1, .ref (g.2.1 0)), (2, .ref (g.2.1 30)), (3, .int (nI i))] → VW p l e room_1 s m #[Value.ref b] below meth c 68 499 (lw_Z below #[Value.ref b] s) (fun q : Nat => s.heap.size ≤ q) g shG u (F0 m 963 ls [])) (ls : Array Slot) (hl : lv_has ls 4 [(0, .ref b), (1, .ref (g.2.1 0)), (2, .ref (g.2.1 30)), (3, .int (nI i))]) : VW p l e room_1 s m #[Value.ref b] below meth c 68 499 (lw_Z below #[Value.ref b] s) (fun q : Nat => s.heap.size ≤ q) g shG t (F0 m 148 ls []) := by
  refine v_aload_n C dL_law_148 rfl (lv_at hl 1 rfl) ?_
  refine v_aload_n C dL_law_149 rfl (lv_at hl 0 rfl) ?_
  refine v_iload_n C dL_law_150 rfl (lv_at hl 3 rfl) ?_
  refine v_iconst (v := 1) C dL_law_151 (by decide) ?_
  refine v_iadd C dL_law_152 ?_
  refine v_sld C hX hbl h1 dL_law_153 ?_
  refine v_aload_n C dL_law_154 rfl (lv_at hl 0 rfl) ?_
  refine v_iload_n C dL_law_155 rfl (lv_at hl 3 rfl) ?_
  refine v_iconst (v := 2) C dL_law_156 (by decide) ?_
  refine v_iadd C dL_law_157 ?_
  refine v_sld C hX hbl h2 dL_law_158 ?_
  refine v_aload_n C dL_law_159 rfl (lv_at hl 0 rfl) ?_
  refine v_iload_n C dL_law_160 rfl (lv_at hl 3 rfl) ?_
  refine v_iconst (v := 3) C dL_law_161 (by decide) ?_
  refine v_iadd C dL_law_162 ?_
  refine v_sld C hX hbl h3 dL_law_163 ?_
  refine v_aload_n C dL_law_164 rfl (lv_at hl 0 rfl) ?_
  refine v_iload_n C dL_law_165 rfl (lv_at hl 3 rfl) ?_
  refine v_iconst (v := 4) C dL_law_166 (by decide) ?_
  refine v_iadd C dL_law_167 ?_
  refine v_sld C hX hbl h4 dL_law_168 ?_
  refine v_calli C (c_X7_counter l g t (xs (ix (nI i + 1))) (xs (ix (nI i + 2))) (xs (ix (nI i + 3))) (xs (ix (nI i + 4)))) (cwV 4 C.2.2.2.2.1 gL_law_X7_counter rfl rfl rfl hv_X7_counter ⟨Nat.le_of_ble_eq_true rfl, Nat.le_of_ble_eq_true rfl⟩) k_0 rfl rfl rfl rfl hl.1 rfl (Nat.le_of_ble_eq_true rfl) dL_law_169 ⟨Nat.le_of_ble_eq_true rfl, Nat.le_of_ble_eq_true rfl⟩ ?_
  refine v_aload_n C dL_law_172 rfl (lv_at hl 2 rfl) ?_
  refine v_aload_n C dL_law_173 rfl (lv_at hl 0 rfl) ?_
  refine v_iload_n C dL_law_174 rfl (lv_at hl 3 rfl) ?_
  refine v_iconst (v := 1) C dL_law_175 (by decide) ?_
  refine v_iadd C dL_law_176 ?_
  refine v_sld C hX hbl h1 dL_law_177 ?_
  refine v_aload_n C dL_law_178 rfl (lv_at hl 0 rfl) ?_
  refine v_iload_n C dL_law_179 rfl (lv_at hl 3 rfl) ?_
  refine v_iconst (v := 2) C dL_law_180 (by decide) ?_
  refine v_iadd C dL_law_181 ?_
  refine v_sld C hX hbl h2 dL_law_182 ?_
  refine v_aload_n C dL_law_183 rfl (lv_at hl 0 rfl) ?_
  refine v_iload_n C dL_law_184 rfl (lv_at hl 3 rfl) ?_
  refine v_iconst (v := 3) C dL_law_185 (by decide) ?_
  refine v_iadd C dL_law_186 ?_
  refine v_sld C hX hbl h3 dL_law_187 ?_
  refine v_aload_n C dL_law_188 rfl (lv_at hl 0 rfl) ?_
  refine v_iload_n C dL_law_189 rfl (lv_at hl 3 rfl) ?_
  refine v_iconst (v := 4) C dL_law_190 (by decide) ?_
  refine v_iadd C dL_law_191 ?_
  refine v_sld C hX hbl h4 dL_law_192 ?_
  refine v_calli C (c_X8_counter l g (X7_counter_s (xs (ix (nI i + 1))) (xs (ix (nI i + 2))) (xs (ix (nI i + 3))) (xs (ix (nI i + 4))) t) (xs (ix (nI i + 1))) (xs (ix (nI i + 2))) (xs (ix (nI i + 3))) (xs (ix (nI i + 4)))) (cwV 4 C.2.2.2.2.1 gL_law_X8_counter rfl rfl rfl hv_X8_counter ⟨Nat.le_of_ble_eq_true rfl, Nat.le_of_ble_eq_true rfl⟩) k_30 rfl rfl rfl rfl hl.1 rfl (Nat.le_of_ble_eq_true rfl) dL_law_193 ⟨Nat.le_of_ble_eq_true rfl, Nat.le_of_ble_eq_true rfl⟩ ?_
  refine v_icmp_eq (tgt := 963) C dL_law_196 (by decide) (fun _ => ?_) (fun h => absurd (op_counter t (xs (ix (nI i + 1))) (xs (ix (nI i + 2))) (xs (ix (nI i + 3))) (xs (ix (nI i + 4))) hJ).1 h)
  exact K _ (op_counter t (xs (ix (nI i + 1))) (xs (ix (nI i + 2))) (xs (ix (nI i + 3))) (xs (ix (nI i + 4))) hJ).2 ls hl
set_option maxHeartbeats 4000000 in
set_option maxRecDepth 100000 in
theorem lc_source {p : Program} {l : Launch} {e : Env} {s : State} {m : MethodId} {below : List Frame} {meth : Method} {c : Code} {g : ct_G} {b L : Nat} {xs : Nat → Int32} (C : Cx p s m #[Value.ref b] c (fun q : Nat => s.heap.size ≤ q) g cL_law RL wsL_law 4) (hX : va_X b L xs s s.heap) (hbl : b < s.heap.size) {i : Nat} (h1 : vp_in (nI i + 1) L) (h2 : vp_in (nI i + 2) L) (t : ct_St) (hJ : J t) (K : ∀ u, J u → ∀ ls, lv_has ls 4 [(0, .ref b), (1, .ref (g.2.1 0)), (2, .ref (g.2.1 30)), (3, .int (nI i))] → VW p l e room_1 s m #[Value.ref b] below meth c 68 499 (lw_Z below #[Value.ref b] s) (fun q : Nat => s.heap.size ≤ q) g shG u (F0 m 963 ls [])) (ls : Array Slot) (hl : lv_has ls 4 [(0, .ref b), (1, .ref (g.2.1 0)), (2, .ref (g.2.1 30)), (3, .int (nI i))]) : VW p l e room_1 s m #[Value.ref b] below meth c 68 499 (lw_Z below #[Value.ref b] s) (fun q : Nat => s.heap.size ≤ q) g shG t (F0 m 201 ls []) := by
  refine v_aload_n C dL_law_201 rfl (lv_at hl 1 rfl) ?_
  refine v_aload_n C dL_law_202 rfl (lv_at hl 0 rfl) ?_
  refine v_iload_n C dL_law_203 rfl (lv_at hl 3 rfl) ?_
  refine v_iconst (v := 1) C dL_law_204 (by decide) ?_
  refine v_iadd C dL_law_205 ?_
  refine v_sld C hX hbl h1 dL_law_206 ?_
  refine v_aload_n C dL_law_207 rfl (lv_at hl 0 rfl) ?_
  refine v_iload_n C dL_law_208 rfl (lv_at hl 3 rfl) ?_
  refine v_iconst (v := 2) C dL_law_209 (by decide) ?_
  refine v_iadd C dL_law_210 ?_
  refine v_sld C hX hbl h2 dL_law_211 ?_
  refine v_calli C (c_X7_source l g t (xs (ix (nI i + 1))) (xs (ix (nI i + 2)))) (cwV 2 C.2.2.2.2.1 gL_law_X7_source rfl rfl rfl hv_X7_source ⟨Nat.le_of_ble_eq_true rfl, Nat.le_of_ble_eq_true rfl⟩) k_0 rfl rfl rfl rfl hl.1 rfl (Nat.le_of_ble_eq_true rfl) dL_law_212 ⟨Nat.le_of_ble_eq_true rfl, Nat.le_of_ble_eq_true rfl⟩ ?_
  refine v_aload_n C dL_law_215 rfl (lv_at hl 2 rfl) ?_
  refine v_aload_n C dL_law_216 rfl (lv_at hl 0 rfl) ?_
  refine v_iload_n C dL_law_217 rfl (lv_at hl 3 rfl) ?_
  refine v_iconst (v := 1) C dL_law_218 (by decide) ?_
  refine v_iadd C dL_law_219 ?_
  refine v_sld C hX hbl h1 dL_law_220 ?_
  refine v_aload_n C dL_law_221 rfl (lv_at hl 0 rfl) ?_
  refine v_iload_n C dL_law_222 rfl (lv_at hl 3 rfl) ?_
  refine v_iconst (v := 2) C dL_law_223 (by decide) ?_
  refine v_iadd C dL_law_224 ?_
  refine v_sld C hX hbl h2 dL_law_225 ?_
  refine v_calli C (c_X8_source l g (X7_source_s (xs (ix (nI i + 1))) (xs (ix (nI i + 2))) t) (xs (ix (nI i + 1))) (xs (ix (nI i + 2)))) (cwV 2 C.2.2.2.2.1 gL_law_X8_source rfl rfl rfl hv_X8_source ⟨Nat.le_of_ble_eq_true rfl, Nat.le_of_ble_eq_true rfl⟩) k_30 rfl rfl rfl rfl hl.1 rfl (Nat.le_of_ble_eq_true rfl) dL_law_226 ⟨Nat.le_of_ble_eq_true rfl, Nat.le_of_ble_eq_true rfl⟩ ?_
  refine v_icmp_eq (tgt := 963) C dL_law_229 (by decide) (fun _ => ?_) (fun h => absurd (op_source t (xs (ix (nI i + 1))) (xs (ix (nI i + 2))) hJ).1 h)
  exact K _ (op_source t (xs (ix (nI i + 1))) (xs (ix (nI i + 2))) hJ).2 ls hl
set_option maxHeartbeats 4000000 in
set_option maxRecDepth 100000 in
theorem lc_count {p : Program} {l : Launch} {e : Env} {s : State} {m : MethodId} {below : List Frame} {meth : Method} {c : Code} {g : ct_G} {b L : Nat} {xs : Nat → Int32} (C : Cx p s m #[Value.ref b] c (fun q : Nat => s.heap.size ≤ q) g cL_law RL wsL_law 4) (hX : va_X b L xs s s.heap) (hbl : b < s.heap.size) {i : Nat} (h1 : vp_in (nI i + 1) L) (h2 : vp_in (nI i + 2) L) (t : ct_St) (hJ : J t) (K : ∀ u, J u → ∀ ls, lv_has ls 4 [(0, .ref b), (1, .ref (g.2.1 0)), (2, .ref (g.2.1 30)), (3, .int (nI i))] → VW p l e room_1 s m #[Value.ref b] below meth c 68 499 (lw_Z below #[Value.ref b] s) (fun q : Nat => s.heap.size ≤ q) g shG u (F0 m 963 ls [])) (ls : Array Slot) (hl : lv_has ls 4 [(0, .ref b), (1, .ref (g.2.1 0)), (2, .ref (g.2.1 30)), (3, .int (nI i))]) : VW p l e room_1 s m #[Value.ref b] below meth c 68 499 (lw_Z below #[Value.ref b] s) (fun q : Nat => s.heap.size ≤ q) g shG t (F0 m 234 ls []) := by
  refine v_aload_n C dL_law_234 rfl (lv_at hl 1 rfl) ?_
  refine v_aload_n C dL_law_235 rfl (lv_at hl 0 rfl) ?_
  refine v_iload_n C dL_law_236 rfl (lv_at hl 3 rfl) ?_
  refine v_iconst (v := 1) C dL_law_237 (by decide) ?_
  refine v_iadd C dL_law_238 ?_
  refine v_sld C hX hbl h1 dL_law_239 ?_
  refine v_aload_n C dL_law_240 rfl (lv_at hl 0 rfl) ?_
  refine v_iload_n C dL_law_241 rfl (lv_at hl 3 rfl) ?_
  refine v_iconst (v := 2) C dL_law_242 (by decide) ?_
  refine v_iadd C dL_law_243 ?_
  refine v_sld C hX hbl h2 dL_law_244 ?_
  refine v_calli C (c_X7_count l g t (xs (ix (nI i + 1))) (xs (ix (nI i + 2)))) (cwV 2 C.2.2.2.2.1 gL_law_X7_count rfl rfl rfl hv_X7_count ⟨Nat.le_of_ble_eq_true rfl, Nat.le_of_ble_eq_true rfl⟩) k_0 rfl rfl rfl rfl hl.1 rfl (Nat.le_of_ble_eq_true rfl) dL_law_245 ⟨Nat.le_of_ble_eq_true rfl, Nat.le_of_ble_eq_true rfl⟩ ?_
  refine v_aload_n C dL_law_248 rfl (lv_at hl 2 rfl) ?_
  refine v_aload_n C dL_law_249 rfl (lv_at hl 0 rfl) ?_
  refine v_iload_n C dL_law_250 rfl (lv_at hl 3 rfl) ?_
  refine v_iconst (v := 1) C dL_law_251 (by decide) ?_
  refine v_iadd C dL_law_252 ?_
  refine v_sld C hX hbl h1 dL_law_253 ?_
  refine v_aload_n C dL_law_254 rfl (lv_at hl 0 rfl) ?_
  refine v_iload_n C dL_law_255 rfl (lv_at hl 3 rfl) ?_
  refine v_iconst (v := 2) C dL_law_256 (by decide) ?_
  refine v_iadd C dL_law_257 ?_
  refine v_sld C hX hbl h2 dL_law_258 ?_
  refine v_calli C (c_X8_count l g (X7_count_s (xs (ix (nI i + 1))) (xs (ix (nI i + 2))) t) (xs (ix (nI i + 1))) (xs (ix (nI i + 2)))) (cwV 2 C.2.2.2.2.1 gL_law_X8_count rfl rfl rfl hv_X8_count ⟨Nat.le_of_ble_eq_true rfl, Nat.le_of_ble_eq_true rfl⟩) k_30 rfl rfl rfl rfl hl.1 rfl (Nat.le_of_ble_eq_true rfl) dL_law_259 ⟨Nat.le_of_ble_eq_true rfl, Nat.le_of_ble_eq_true rfl⟩ ?_
  refine v_icmp_eq (tgt := 963) C dL_law_262 (by decide) (fun _ => ?_) (fun h => absurd (op_count t (xs (ix (nI i + 1))) (xs (ix (nI i + 2))) hJ).1 h)
  exact K _ (op_count t (xs (ix (nI i + 1))) (xs (ix (nI i + 2))) hJ).2 ls hl
set_option maxHeartbeats 4000000 in
set_option maxRecDepth 100000 in
theorem lc_top {p : Program} {l : Launch} {e : Env} {s : State} {m : MethodId} {below : List Frame} {meth : Method} {c : Code} {g : ct_G} {b L : Nat} {xs : Nat → Int32} (C : Cx p s m #[Value.ref b] c (fun q : Nat => s.heap.size ≤ q) g cL_law RL wsL_law 4) (hX : va_X b L xs s s.heap) (hbl : b < s.heap.size) {i : Nat} (h1 : vp_in (nI i + 1) L) (h2 : vp_in (nI i + 2) L) (t : ct_St) (hJ : J t) (K : ∀ u, J u → ∀ ls, lv_has ls 4 [(0, .ref b), (1, .ref (g.2.1 0)), (2, .ref (g.2.1 30)), (3, .int (nI i))] → VW p l e room_1 s m #[Value.ref b] below meth c 68 499 (lw_Z below #[Value.ref b] s) (fun q : Nat => s.heap.size ≤ q) g shG u (F0 m 963 ls [])) (ls : Array Slot) (hl : lv_has ls 4 [(0, .ref b), (1, .ref (g.2.1 0)), (2, .ref (g.2.1 30)), (3, .int (nI i))]) : VW p l e room_1 s m #[Value.ref b] below meth c 68 499 (lw_Z below #[Value.ref b] s) (fun q : Nat => s.heap.size ≤ q) g shG t (F0 m 267 ls []) := by
  refine v_aload_n C dL_law_267 rfl (lv_at hl 1 rfl) ?_
  refine v_aload_n C dL_law_268 rfl (lv_at hl 0 rfl) ?_
  refine v_iload_n C dL_law_269 rfl (lv_at hl 3 rfl) ?_
  refine v_iconst (v := 1) C dL_law_270 (by decide) ?_
  refine v_iadd C dL_law_271 ?_
  refine v_sld C hX hbl h1 dL_law_272 ?_
  refine v_aload_n C dL_law_273 rfl (lv_at hl 0 rfl) ?_
  refine v_iload_n C dL_law_274 rfl (lv_at hl 3 rfl) ?_
  refine v_iconst (v := 2) C dL_law_275 (by decide) ?_
  refine v_iadd C dL_law_276 ?_
  refine v_sld C hX hbl h2 dL_law_277 ?_
  refine v_calli C (c_X7_top l g t (xs (ix (nI i + 1))) (xs (ix (nI i + 2)))) (cwV 2 C.2.2.2.2.1 gL_law_X7_top rfl rfl rfl hv_X7_top ⟨Nat.le_of_ble_eq_true rfl, Nat.le_of_ble_eq_true rfl⟩) k_0 rfl rfl rfl rfl hl.1 rfl (Nat.le_of_ble_eq_true rfl) dL_law_278 ⟨Nat.le_of_ble_eq_true rfl, Nat.le_of_ble_eq_true rfl⟩ ?_
  refine v_aload_n C dL_law_281 rfl (lv_at hl 2 rfl) ?_
  refine v_aload_n C dL_law_282 rfl (lv_at hl 0 rfl) ?_
  refine v_iload_n C dL_law_283 rfl (lv_at hl 3 rfl) ?_
  refine v_iconst (v := 1) C dL_law_284 (by decide) ?_
  refine v_iadd C dL_law_285 ?_
  refine v_sld C hX hbl h1 dL_law_286 ?_
  refine v_aload_n C dL_law_287 rfl (lv_at hl 0 rfl) ?_
  refine v_iload_n C dL_law_288 rfl (lv_at hl 3 rfl) ?_
  refine v_iconst (v := 2) C dL_law_289 (by decide) ?_
  refine v_iadd C dL_law_290 ?_
  refine v_sld C hX hbl h2 dL_law_291 ?_
  refine v_calli C (c_X8_top l g (X7_top_s (xs (ix (nI i + 1))) (xs (ix (nI i + 2))) t) (xs (ix (nI i + 1))) (xs (ix (nI i + 2)))) (cwV 2 C.2.2.2.2.1 gL_law_X8_top rfl rfl rfl hv_X8_top ⟨Nat.le_of_ble_eq_true rfl, Nat.le_of_ble_eq_true rfl⟩) k_30 rfl rfl rfl rfl hl.1 rfl (Nat.le_of_ble_eq_true rfl) dL_law_292 ⟨Nat.le_of_ble_eq_true rfl, Nat.le_of_ble_eq_true rfl⟩ ?_
  refine v_icmp_eq (tgt := 963) C dL_law_295 (by decide) (fun _ => ?_) (fun h => absurd (op_top t (xs (ix (nI i + 1))) (xs (ix (nI i + 2))) hJ).1 h)
  exact K _ (op_top t (xs (ix (nI i + 1))) (xs (ix (nI i + 2))) hJ).2 ls hl
set_option maxHeartbeats 4000000 in
set_option maxRecDepth 100000 in
theorem lc_ofCounter {p : Program} {l : Launch} {e : Env} {s : State} {m : MethodId} {below : List Frame} {meth : Method} {c : Code} {g : ct_G} {b L : Nat} {xs : Nat → Int32} (C : Cx p s m #[Value.ref b] c (fun q : Nat => s.heap.size ≤ q) g cL_law RL wsL_law 4) (hX : va_X b L xs s s.heap) (hbl : b < s.heap.size) {i : Nat} (h1 : vp_in (nI i + 1) L) (h2 : vp_in (nI i + 2) L) (t : ct_St) (hJ : J t) (K : ∀ u, J u → ∀ ls, lv_has ls 4 [(0, .ref b), (1, .ref (g.2.1 0)), (2, .ref (g.2.1 30)), (3, .int (nI i))] → VW p l e room_1 s m #[Value.ref b] below meth c 68 499 (lw_Z below #[Value.ref b] s) (fun q : Nat => s.heap.size ≤ q) g shG u (F0 m 963 ls [])) (ls : Array Slot) (hl : lv_has ls 4 [(0, .ref b), (1, .ref (g.2.1 0)), (2, .ref (g.2.1 30)), (3, .int (nI i))]) : VW p l e room_1 s m #[Value.ref b] below meth c 68 499 (lw_Z below #[Value.ref b] s) (fun q : Nat => s.heap.size ≤ q) g shG t (F0 m 300 ls []) := by
  refine v_aload_n C dL_law_300 rfl (lv_at hl 1 rfl) ?_
  refine v_aload_n C dL_law_301 rfl (lv_at hl 0 rfl) ?_
  refine v_iload_n C dL_law_302 rfl (lv_at hl 3 rfl) ?_
  refine v_iconst (v := 1) C dL_law_303 (by decide) ?_
  refine v_iadd C dL_law_304 ?_
  refine v_sld C hX hbl h1 dL_law_305 ?_
  refine v_aload_n C dL_law_306 rfl (lv_at hl 0 rfl) ?_
  refine v_iload_n C dL_law_307 rfl (lv_at hl 3 rfl) ?_
  refine v_iconst (v := 2) C dL_law_308 (by decide) ?_
  refine v_iadd C dL_law_309 ?_
  refine v_sld C hX hbl h2 dL_law_310 ?_
  refine v_calli C (c_X7_ofCounter l g t (xs (ix (nI i + 1))) (xs (ix (nI i + 2)))) (cwV 2 C.2.2.2.2.1 gL_law_X7_ofCounter rfl rfl rfl hv_X7_ofCounter ⟨Nat.le_of_ble_eq_true rfl, Nat.le_of_ble_eq_true rfl⟩) k_0 rfl rfl rfl rfl hl.1 rfl (Nat.le_of_ble_eq_true rfl) dL_law_311 ⟨Nat.le_of_ble_eq_true rfl, Nat.le_of_ble_eq_true rfl⟩ ?_
  refine v_aload_n C dL_law_314 rfl (lv_at hl 2 rfl) ?_
  refine v_aload_n C dL_law_315 rfl (lv_at hl 0 rfl) ?_
  refine v_iload_n C dL_law_316 rfl (lv_at hl 3 rfl) ?_
  refine v_iconst (v := 1) C dL_law_317 (by decide) ?_
  refine v_iadd C dL_law_318 ?_
  refine v_sld C hX hbl h1 dL_law_319 ?_
  refine v_aload_n C dL_law_320 rfl (lv_at hl 0 rfl) ?_
  refine v_iload_n C dL_law_321 rfl (lv_at hl 3 rfl) ?_
  refine v_iconst (v := 2) C dL_law_322 (by decide) ?_
  refine v_iadd C dL_law_323 ?_
  refine v_sld C hX hbl h2 dL_law_324 ?_
  refine v_calli C (c_X8_ofCounter l g t (xs (ix (nI i + 1))) (xs (ix (nI i + 2)))) (cwV 2 C.2.2.2.2.1 gL_law_X8_ofCounter rfl rfl rfl hv_X8_ofCounter ⟨Nat.le_of_ble_eq_true rfl, Nat.le_of_ble_eq_true rfl⟩) k_30 rfl rfl rfl rfl hl.1 rfl (Nat.le_of_ble_eq_true rfl) dL_law_325 ⟨Nat.le_of_ble_eq_true rfl, Nat.le_of_ble_eq_true rfl⟩ ?_
  refine v_icmp_eq (tgt := 963) C dL_law_328 (by decide) (fun _ => ?_) (fun h => absurd (op_ofCounter t (xs (ix (nI i + 1))) (xs (ix (nI i + 2))) hJ) h)
  exact K _ hJ ls hl
set_option maxHeartbeats 4000000 in
set_option maxRecDepth 100000 in
theorem lc_input {p : Program} {l : Launch} {e : Env} {s : State} {m : MethodId} {below : List Frame} {meth : Method} {c : Code} {g : ct_G} {b L : Nat} {xs : Nat → Int32} (C : Cx p s m #[Value.ref b] c (fun q : Nat => s.heap.size ≤ q) g cL_law RL wsL_law 4) (hX : va_X b L xs s s.heap) (hbl : b < s.heap.size) {i : Nat} (h1 : vp_in (nI i + 1) L) (h2 : vp_in (nI i + 2) L) (t : ct_St) (hJ : J t) (K : ∀ u, J u → ∀ ls, lv_has ls 4 [(0, .ref b), (1, .ref (g.2.1 0)), (2, .ref (g.2.1 30)), (3, .int (nI i))] → VW p l e room_1 s m #[Value.ref b] below meth c 68 499 (lw_Z below #[Value.ref b] s) (fun q : Nat => s.heap.size ≤ q) g shG u (F0 m 963 ls [])) (ls : Array Slot) (hl : lv_has ls 4 [(0, .ref b), (1, .ref (g.2.1 0)), (2, .ref (g.2.1 30)), (3, .int (nI i))]) : VW p l e room_1 s m #[Value.ref b] below meth c 68 499 (lw_Z below #[Value.ref b] s) (fun q : Nat => s.heap.size ≤ q) g shG t (F0 m 333 ls []) := by
  refine v_aload_n C dL_law_333 rfl (lv_at hl 1 rfl) ?_
  refine v_aload_n C dL_law_334 rfl (lv_at hl 0 rfl) ?_
  refine v_iload_n C dL_law_335 rfl (lv_at hl 3 rfl) ?_
  refine v_iconst (v := 1) C dL_law_336 (by decide) ?_
  refine v_iadd C dL_law_337 ?_
  refine v_sld C hX hbl h1 dL_law_338 ?_
  refine v_aload_n C dL_law_339 rfl (lv_at hl 0 rfl) ?_
  refine v_iload_n C dL_law_340 rfl (lv_at hl 3 rfl) ?_
  refine v_iconst (v := 2) C dL_law_341 (by decide) ?_
  refine v_iadd C dL_law_342 ?_
  refine v_sld C hX hbl h2 dL_law_343 ?_
  refine v_calli C (c_X7_input l g t (xs (ix (nI i + 1))) (xs (ix (nI i + 2)))) (cwV 2 C.2.2.2.2.1 gL_law_X7_input rfl rfl rfl hv_X7_input ⟨Nat.le_of_ble_eq_true rfl, Nat.le_of_ble_eq_true rfl⟩) k_0 rfl rfl rfl rfl hl.1 rfl (Nat.le_of_ble_eq_true rfl) dL_law_344 ⟨Nat.le_of_ble_eq_true rfl, Nat.le_of_ble_eq_true rfl⟩ ?_
  refine v_aload_n C dL_law_347 rfl (lv_at hl 2 rfl) ?_
  refine v_aload_n C dL_law_348 rfl (lv_at hl 0 rfl) ?_
  refine v_iload_n C dL_law_349 rfl (lv_at hl 3 rfl) ?_
  refine v_iconst (v := 1) C dL_law_350 (by decide) ?_
  refine v_iadd C dL_law_351 ?_
  refine v_sld C hX hbl h1 dL_law_352 ?_
  refine v_aload_n C dL_law_353 rfl (lv_at hl 0 rfl) ?_
  refine v_iload_n C dL_law_354 rfl (lv_at hl 3 rfl) ?_
  refine v_iconst (v := 2) C dL_law_355 (by decide) ?_
  refine v_iadd C dL_law_356 ?_
  refine v_sld C hX hbl h2 dL_law_357 ?_
  refine v_calli C (c_X8_input l g (X7_input_s (xs (ix (nI i + 1))) (xs (ix (nI i + 2))) t) (xs (ix (nI i + 1))) (xs (ix (nI i + 2)))) (cwV 2 C.2.2.2.2.1 gL_law_X8_input rfl rfl rfl hv_X8_input ⟨Nat.le_of_ble_eq_true rfl, Nat.le_of_ble_eq_true rfl⟩) k_30 rfl rfl rfl rfl hl.1 rfl (Nat.le_of_ble_eq_true rfl) dL_law_358 ⟨Nat.le_of_ble_eq_true rfl, Nat.le_of_ble_eq_true rfl⟩ ?_
  refine v_icmp_eq (tgt := 963) C dL_law_361 (by decide) (fun _ => ?_) (fun h => absurd (op_input t (xs (ix (nI i + 1))) (xs (ix (nI i + 2))) hJ).1 h)
  exact K _ (op_input t (xs (ix (nI i + 1))) (xs (ix (nI i + 2))) hJ).2 ls hl
set_option maxHeartbeats 4000000 in
set_option maxRecDepth 100000 in
theorem lc_filter {p : Program} {l : Launch} {e : Env} {s : State} {m : MethodId} {below : List Frame} {meth : Method} {c : Code} {g : ct_G} {b L : Nat} {xs : Nat → Int32} (C : Cx p s m #[Value.ref b] c (fun q : Nat => s.heap.size ≤ q) g cL_law RL wsL_law 4) (hX : va_X b L xs s s.heap) (hbl : b < s.heap.size) {i : Nat} (h1 : vp_in (nI i + 1) L) (h2 : vp_in (nI i + 2) L) (t : ct_St) (hJ : J t) (K : ∀ u, J u → ∀ ls, lv_has ls 4 [(0, .ref b), (1, .ref (g.2.1 0)), (2, .ref (g.2.1 30)), (3, .int (nI i))] → VW p l e room_1 s m #[Value.ref b] below meth c 68 499 (lw_Z below #[Value.ref b] s) (fun q : Nat => s.heap.size ≤ q) g shG u (F0 m 963 ls [])) (ls : Array Slot) (hl : lv_has ls 4 [(0, .ref b), (1, .ref (g.2.1 0)), (2, .ref (g.2.1 30)), (3, .int (nI i))]) : VW p l e room_1 s m #[Value.ref b] below meth c 68 499 (lw_Z below #[Value.ref b] s) (fun q : Nat => s.heap.size ≤ q) g shG t (F0 m 366 ls []) := by
  refine v_aload_n C dL_law_366 rfl (lv_at hl 1 rfl) ?_
  refine v_aload_n C dL_law_367 rfl (lv_at hl 0 rfl) ?_
  refine v_iload_n C dL_law_368 rfl (lv_at hl 3 rfl) ?_
  refine v_iconst (v := 1) C dL_law_369 (by decide) ?_
  refine v_iadd C dL_law_370 ?_
  refine v_sld C hX hbl h1 dL_law_371 ?_
  refine v_aload_n C dL_law_372 rfl (lv_at hl 0 rfl) ?_
  refine v_iload_n C dL_law_373 rfl (lv_at hl 3 rfl) ?_
  refine v_iconst (v := 2) C dL_law_374 (by decide) ?_
  refine v_iadd C dL_law_375 ?_
  refine v_sld C hX hbl h2 dL_law_376 ?_
  refine v_calli C (c_X7_filter l g t (xs (ix (nI i + 1))) (xs (ix (nI i + 2)))) (cwV 2 C.2.2.2.2.1 gL_law_X7_filter rfl rfl rfl hv_X7_filter ⟨Nat.le_of_ble_eq_true rfl, Nat.le_of_ble_eq_true rfl⟩) k_0 rfl rfl rfl rfl hl.1 rfl (Nat.le_of_ble_eq_true rfl) dL_law_377 ⟨Nat.le_of_ble_eq_true rfl, Nat.le_of_ble_eq_true rfl⟩ ?_
  refine v_aload_n C dL_law_380 rfl (lv_at hl 2 rfl) ?_
  refine v_aload_n C dL_law_381 rfl (lv_at hl 0 rfl) ?_
  refine v_iload_n C dL_law_382 rfl (lv_at hl 3 rfl) ?_
  refine v_iconst (v := 1) C dL_law_383 (by decide) ?_
  refine v_iadd C dL_law_384 ?_
  refine v_sld C hX hbl h1 dL_law_385 ?_
  refine v_aload_n C dL_law_386 rfl (lv_at hl 0 rfl) ?_
  refine v_iload_n C dL_law_387 rfl (lv_at hl 3 rfl) ?_
  refine v_iconst (v := 2) C dL_law_388 (by decide) ?_
  refine v_iadd C dL_law_389 ?_
  refine v_sld C hX hbl h2 dL_law_390 ?_
  refine v_calli C (c_X8_filter l g (X7_filter_s (xs (ix (nI i + 1))) (xs (ix (nI i + 2))) t) (xs (ix (nI i + 1))) (xs (ix (nI i + 2)))) (cwV 2 C.2.2.2.2.1 gL_law_X8_filter rfl rfl rfl hv_X8_filter ⟨Nat.le_of_ble_eq_true rfl, Nat.le_of_ble_eq_true rfl⟩) k_30 rfl rfl rfl rfl hl.1 rfl (Nat.le_of_ble_eq_true rfl) dL_law_391 ⟨Nat.le_of_ble_eq_true rfl, Nat.le_of_ble_eq_true rfl⟩ ?_
  refine v_icmp_eq (tgt := 963) C dL_law_394 (by decide) (fun _ => ?_) (fun h => absurd (op_filter t (xs (ix (nI i + 1))) (xs (ix (nI i + 2))) hJ).1 h)
  exact K _ (op_filter t (xs (ix (nI i + 1))) (xs (ix (nI i + 2))) hJ).2 ls hl
set_option maxHeartbeats 4000000 in
set_option maxRecDepth 100000 in
theorem lc_ofInput {p : Program} {l : Launch} {e : Env} {s : State} {m : MethodId} {below : List Frame} {meth : Method} {c : Code} {g : ct_G} {b L : Nat} {xs : Nat → Int32} (C : Cx p s m #[Value.ref b] c (fun q : Nat => s.heap.size ≤ q) g cL_law RL wsL_law 4) (hX : va_X b L xs s s.heap) (hbl : b < s.heap.size) {i : Nat} (h1 : vp_in (nI i + 1) L) (h2 : vp_in (nI i + 2) L) (t : ct_St) (hJ : J t) (K : ∀ u, J u → ∀ ls, lv_has ls 4 [(0, .ref b), (1, .ref (g.2.1 0)), (2, .ref (g.2.1 30)), (3, .int (nI i))] → VW p l e room_1 s m #[Value.ref b] below meth c 68 499 (lw_Z below #[Value.ref b] s) (fun q : Nat => s.heap.size ≤ q) g shG u (F0 m 963 ls [])) (ls : Array Slot) (hl : lv_has ls 4 [(0, .ref b), (1, .ref (g.2.1 0)), (2, .ref (g.2.1 30)), (3, .int (nI i))]) : VW p l e room_1 s m #[Value.ref b] below meth c 68 499 (lw_Z below #[Value.ref b] s) (fun q : Nat => s.heap.size ≤ q) g shG t (F0 m 399 ls []) := by
  refine v_aload_n C dL_law_399 rfl (lv_at hl 1 rfl) ?_
  refine v_aload_n C dL_law_400 rfl (lv_at hl 0 rfl) ?_
  refine v_iload_n C dL_law_401 rfl (lv_at hl 3 rfl) ?_
  refine v_iconst (v := 1) C dL_law_402 (by decide) ?_
  refine v_iadd C dL_law_403 ?_
  refine v_sld C hX hbl h1 dL_law_404 ?_
  refine v_aload_n C dL_law_405 rfl (lv_at hl 0 rfl) ?_
  refine v_iload_n C dL_law_406 rfl (lv_at hl 3 rfl) ?_
  refine v_iconst (v := 2) C dL_law_407 (by decide) ?_
  refine v_iadd C dL_law_408 ?_
  refine v_sld C hX hbl h2 dL_law_409 ?_
  refine v_calli C (c_X7_ofInput l g t (xs (ix (nI i + 1))) (xs (ix (nI i + 2)))) (cwV 2 C.2.2.2.2.1 gL_law_X7_ofInput rfl rfl rfl hv_X7_ofInput ⟨Nat.le_of_ble_eq_true rfl, Nat.le_of_ble_eq_true rfl⟩) k_0 rfl rfl rfl rfl hl.1 rfl (Nat.le_of_ble_eq_true rfl) dL_law_410 ⟨Nat.le_of_ble_eq_true rfl, Nat.le_of_ble_eq_true rfl⟩ ?_
  refine v_aload_n C dL_law_413 rfl (lv_at hl 2 rfl) ?_
  refine v_aload_n C dL_law_414 rfl (lv_at hl 0 rfl) ?_
  refine v_iload_n C dL_law_415 rfl (lv_at hl 3 rfl) ?_
  refine v_iconst (v := 1) C dL_law_416 (by decide) ?_
  refine v_iadd C dL_law_417 ?_
  refine v_sld C hX hbl h1 dL_law_418 ?_
  refine v_aload_n C dL_law_419 rfl (lv_at hl 0 rfl) ?_
  refine v_iload_n C dL_law_420 rfl (lv_at hl 3 rfl) ?_
  refine v_iconst (v := 2) C dL_law_421 (by decide) ?_
  refine v_iadd C dL_law_422 ?_
  refine v_sld C hX hbl h2 dL_law_423 ?_
  refine v_calli C (c_X8_ofInput l g t (xs (ix (nI i + 1))) (xs (ix (nI i + 2)))) (cwV 2 C.2.2.2.2.1 gL_law_X8_ofInput rfl rfl rfl hv_X8_ofInput ⟨Nat.le_of_ble_eq_true rfl, Nat.le_of_ble_eq_true rfl⟩) k_30 rfl rfl rfl rfl hl.1 rfl (Nat.le_of_ble_eq_true rfl) dL_law_424 ⟨Nat.le_of_ble_eq_true rfl, Nat.le_of_ble_eq_true rfl⟩ ?_
  refine v_icmp_eq (tgt := 963) C dL_law_427 (by decide) (fun _ => ?_) (fun h => absurd (op_ofInput t (xs (ix (nI i + 1))) (xs (ix (nI i + 2))) hJ) h)
  exact K _ hJ ls hl
set_option maxHeartbeats 4000000 in
set_option maxRecDepth 100000 in
theorem lc_catcher {p : Program} {l : Launch} {e : Env} {s : State} {m : MethodId} {below : List Frame} {meth : Method} {c : Code} {g : ct_G} {b L : Nat} {xs : Nat → Int32} (C : Cx p s m #[Value.ref b] c (fun q : Nat => s.heap.size ≤ q) g cL_law RL wsL_law 4) (hX : va_X b L xs s s.heap) (hbl : b < s.heap.size) {i : Nat} (h1 : vp_in (nI i + 1) L) (h2 : vp_in (nI i + 2) L) (h3 : vp_in (nI i + 3) L) (h4 : vp_in (nI i + 4) L) (t : ct_St) (hJ : J t) (K : ∀ u, J u → ∀ ls, lv_has ls 4 [(0, .ref b), (1, .ref (g.2.1 0)), (2, .ref (g.2.1 30)), (3, .int (nI i))] → VW p l e room_1 s m #[Value.ref b] below meth c 68 499 (lw_Z below #[Value.ref b] s) (fun q : Nat => s.heap.size ≤ q) g shG u (F0 m 963 ls [])) (ls : Array Slot) (hl : lv_has ls 4 [(0, .ref b), (1, .ref (g.2.1 0)), (2, .ref (g.2.1 30)), (3, .int (nI i))]) : VW p l e room_1 s m #[Value.ref b] below meth c 68 499 (lw_Z below #[Value.ref b] s) (fun q : Nat => s.heap.size ≤ q) g shG t (F0 m 432 ls []) := by
  refine v_aload_n C dL_law_432 rfl (lv_at hl 1 rfl) ?_
  refine v_aload_n C dL_law_433 rfl (lv_at hl 0 rfl) ?_
  refine v_iload_n C dL_law_434 rfl (lv_at hl 3 rfl) ?_
  refine v_iconst (v := 1) C dL_law_435 (by decide) ?_
  refine v_iadd C dL_law_436 ?_
  refine v_sld C hX hbl h1 dL_law_437 ?_
  refine v_aload_n C dL_law_438 rfl (lv_at hl 0 rfl) ?_
  refine v_iload_n C dL_law_439 rfl (lv_at hl 3 rfl) ?_
  refine v_iconst (v := 2) C dL_law_440 (by decide) ?_
  refine v_iadd C dL_law_441 ?_
  refine v_sld C hX hbl h2 dL_law_442 ?_
  refine v_aload_n C dL_law_443 rfl (lv_at hl 0 rfl) ?_
  refine v_iload_n C dL_law_444 rfl (lv_at hl 3 rfl) ?_
  refine v_iconst (v := 3) C dL_law_445 (by decide) ?_
  refine v_iadd C dL_law_446 ?_
  refine v_sld C hX hbl h3 dL_law_447 ?_
  refine v_aload_n C dL_law_448 rfl (lv_at hl 0 rfl) ?_
  refine v_iload_n C dL_law_449 rfl (lv_at hl 3 rfl) ?_
  refine v_iconst (v := 4) C dL_law_450 (by decide) ?_
  refine v_iadd C dL_law_451 ?_
  refine v_sld C hX hbl h4 dL_law_452 ?_
  refine v_calli C (c_X7_catcher l g t (xs (ix (nI i + 1))) (xs (ix (nI i + 2))) (xs (ix (nI i + 3))) (xs (ix (nI i + 4)))) (cwV 4 C.2.2.2.2.1 gL_law_X7_catcher rfl rfl rfl hv_X7_catcher ⟨Nat.le_of_ble_eq_true rfl, Nat.le_of_ble_eq_true rfl⟩) k_0 rfl rfl rfl rfl hl.1 rfl (Nat.le_of_ble_eq_true rfl) dL_law_453 ⟨Nat.le_of_ble_eq_true rfl, Nat.le_of_ble_eq_true rfl⟩ ?_
  refine v_aload_n C dL_law_456 rfl (lv_at hl 2 rfl) ?_
  refine v_aload_n C dL_law_457 rfl (lv_at hl 0 rfl) ?_
  refine v_iload_n C dL_law_458 rfl (lv_at hl 3 rfl) ?_
  refine v_iconst (v := 1) C dL_law_459 (by decide) ?_
  refine v_iadd C dL_law_460 ?_
  refine v_sld C hX hbl h1 dL_law_461 ?_
  refine v_aload_n C dL_law_462 rfl (lv_at hl 0 rfl) ?_
  refine v_iload_n C dL_law_463 rfl (lv_at hl 3 rfl) ?_
  refine v_iconst (v := 2) C dL_law_464 (by decide) ?_
  refine v_iadd C dL_law_465 ?_
  refine v_sld C hX hbl h2 dL_law_466 ?_
  refine v_aload_n C dL_law_467 rfl (lv_at hl 0 rfl) ?_
  refine v_iload_n C dL_law_468 rfl (lv_at hl 3 rfl) ?_
  refine v_iconst (v := 3) C dL_law_469 (by decide) ?_
  refine v_iadd C dL_law_470 ?_
  refine v_sld C hX hbl h3 dL_law_471 ?_
  refine v_aload_n C dL_law_472 rfl (lv_at hl 0 rfl) ?_
  refine v_iload_n C dL_law_473 rfl (lv_at hl 3 rfl) ?_
  refine v_iconst (v := 4) C dL_law_474 (by decide) ?_
  refine v_iadd C dL_law_475 ?_
  refine v_sld C hX hbl h4 dL_law_476 ?_
  refine v_calli C (c_X8_catcher l g (X7_catcher_s (xs (ix (nI i + 1))) (xs (ix (nI i + 2))) (xs (ix (nI i + 3))) (xs (ix (nI i + 4))) t) (xs (ix (nI i + 1))) (xs (ix (nI i + 2))) (xs (ix (nI i + 3))) (xs (ix (nI i + 4)))) (cwV 4 C.2.2.2.2.1 gL_law_X8_catcher rfl rfl rfl hv_X8_catcher ⟨Nat.le_of_ble_eq_true rfl, Nat.le_of_ble_eq_true rfl⟩) k_30 rfl rfl rfl rfl hl.1 rfl (Nat.le_of_ble_eq_true rfl) dL_law_477 ⟨Nat.le_of_ble_eq_true rfl, Nat.le_of_ble_eq_true rfl⟩ ?_
  refine v_icmp_eq (tgt := 963) C dL_law_480 (by decide) (fun _ => ?_) (fun h => absurd (op_catcher t (xs (ix (nI i + 1))) (xs (ix (nI i + 2))) (xs (ix (nI i + 3))) (xs (ix (nI i + 4))) hJ).1 h)
  exact K _ (op_catcher t (xs (ix (nI i + 1))) (xs (ix (nI i + 2))) (xs (ix (nI i + 3))) (xs (ix (nI i + 4))) hJ).2 ls hl
set_option maxHeartbeats 4000000 in
set_option maxRecDepth 100000 in
theorem lc_taken {p : Program} {l : Launch} {e : Env} {s : State} {m : MethodId} {below : List Frame} {meth : Method} {c : Code} {g : ct_G} {b L : Nat} {xs : Nat → Int32} (C : Cx p s m #[Value.ref b] c (fun q : Nat => s.heap.size ≤ q) g cL_law RL wsL_law 4) (hX : va_X b L xs s s.heap) (hbl : b < s.heap.size) {i : Nat} (h1 : vp_in (nI i + 1) L) (t : ct_St) (hJ : J t) (K : ∀ u, J u → ∀ ls, lv_has ls 4 [(0, .ref b), (1, .ref (g.2.1 0)), (2, .ref (g.2.1 30)), (3, .int (nI i))] → VW p l e room_1 s m #[Value.ref b] below meth c 68 499 (lw_Z below #[Value.ref b] s) (fun q : Nat => s.heap.size ≤ q) g shG u (F0 m 963 ls [])) (ls : Array Slot) (hl : lv_has ls 4 [(0, .ref b), (1, .ref (g.2.1 0)), (2, .ref (g.2.1 30)), (3, .int (nI i))]) : VW p l e room_1 s m #[Value.ref b] below meth c 68 499 (lw_Z below #[Value.ref b] s) (fun q : Nat => s.heap.size ≤ q) g shG t (F0 m 485 ls []) := by
  refine v_aload_n C dL_law_485 rfl (lv_at hl 1 rfl) ?_
  refine v_aload_n C dL_law_486 rfl (lv_at hl 0 rfl) ?_
  refine v_iload_n C dL_law_487 rfl (lv_at hl 3 rfl) ?_
  refine v_iconst (v := 1) C dL_law_488 (by decide) ?_
  refine v_iadd C dL_law_489 ?_
  refine v_sld C hX hbl h1 dL_law_490 ?_
  refine v_calli C (c_X7_taken l g t (xs (ix (nI i + 1)))) (cwV 1 C.2.2.2.2.1 gL_law_X7_taken rfl rfl rfl hv_X7_taken ⟨Nat.le_of_ble_eq_true rfl, Nat.le_of_ble_eq_true rfl⟩) k_0 rfl rfl rfl rfl hl.1 rfl (Nat.le_of_ble_eq_true rfl) dL_law_491 ⟨Nat.le_of_ble_eq_true rfl, Nat.le_of_ble_eq_true rfl⟩ ?_
  refine v_aload_n C dL_law_494 rfl (lv_at hl 2 rfl) ?_
  refine v_aload_n C dL_law_495 rfl (lv_at hl 0 rfl) ?_
  refine v_iload_n C dL_law_496 rfl (lv_at hl 3 rfl) ?_
  refine v_iconst (v := 1) C dL_law_497 (by decide) ?_
  refine v_iadd C dL_law_498 ?_
  refine v_sld C hX hbl h1 dL_law_499 ?_
  refine v_calli C (c_X8_taken l g (X7_taken_s (xs (ix (nI i + 1))) t) (xs (ix (nI i + 1)))) (cwV 1 C.2.2.2.2.1 gL_law_X8_taken rfl rfl rfl hv_X8_taken ⟨Nat.le_of_ble_eq_true rfl, Nat.le_of_ble_eq_true rfl⟩) k_30 rfl rfl rfl rfl hl.1 rfl (Nat.le_of_ble_eq_true rfl) dL_law_500 ⟨Nat.le_of_ble_eq_true rfl, Nat.le_of_ble_eq_true rfl⟩ ?_
  refine v_icmp_eq (tgt := 963) C dL_law_503 (by decide) (fun _ => ?_) (fun h => absurd (op_taken t (xs (ix (nI i + 1))) hJ).1 h)
  exact K _ (op_taken t (xs (ix (nI i + 1))) hJ).2 ls hl
set_option maxHeartbeats 4000000 in
set_option maxRecDepth 100000 in
theorem lc_ofCatcher {p : Program} {l : Launch} {e : Env} {s : State} {m : MethodId} {below : List Frame} {meth : Method} {c : Code} {g : ct_G} {b L : Nat} {xs : Nat → Int32} (C : Cx p s m #[Value.ref b] c (fun q : Nat => s.heap.size ≤ q) g cL_law RL wsL_law 4) (hX : va_X b L xs s s.heap) (hbl : b < s.heap.size) {i : Nat} (h1 : vp_in (nI i + 1) L) (h2 : vp_in (nI i + 2) L) (t : ct_St) (hJ : J t) (K : ∀ u, J u → ∀ ls, lv_has ls 4 [(0, .ref b), (1, .ref (g.2.1 0)), (2, .ref (g.2.1 30)), (3, .int (nI i))] → VW p l e room_1 s m #[Value.ref b] below meth c 68 499 (lw_Z below #[Value.ref b] s) (fun q : Nat => s.heap.size ≤ q) g shG u (F0 m 963 ls [])) (ls : Array Slot) (hl : lv_has ls 4 [(0, .ref b), (1, .ref (g.2.1 0)), (2, .ref (g.2.1 30)), (3, .int (nI i))]) : VW p l e room_1 s m #[Value.ref b] below meth c 68 499 (lw_Z below #[Value.ref b] s) (fun q : Nat => s.heap.size ≤ q) g shG t (F0 m 508 ls []) := by
  refine v_aload_n C dL_law_508 rfl (lv_at hl 1 rfl) ?_
  refine v_aload_n C dL_law_509 rfl (lv_at hl 0 rfl) ?_
  refine v_iload_n C dL_law_510 rfl (lv_at hl 3 rfl) ?_
  refine v_iconst (v := 1) C dL_law_511 (by decide) ?_
  refine v_iadd C dL_law_512 ?_
  refine v_sld C hX hbl h1 dL_law_513 ?_
  refine v_aload_n C dL_law_514 rfl (lv_at hl 0 rfl) ?_
  refine v_iload_n C dL_law_515 rfl (lv_at hl 3 rfl) ?_
  refine v_iconst (v := 2) C dL_law_516 (by decide) ?_
  refine v_iadd C dL_law_517 ?_
  refine v_sld C hX hbl h2 dL_law_518 ?_
  refine v_calli C (c_X7_ofCatcher l g t (xs (ix (nI i + 1))) (xs (ix (nI i + 2)))) (cwV 2 C.2.2.2.2.1 gL_law_X7_ofCatcher rfl rfl rfl hv_X7_ofCatcher ⟨Nat.le_of_ble_eq_true rfl, Nat.le_of_ble_eq_true rfl⟩) k_0 rfl rfl rfl rfl hl.1 rfl (Nat.le_of_ble_eq_true rfl) dL_law_519 ⟨Nat.le_of_ble_eq_true rfl, Nat.le_of_ble_eq_true rfl⟩ ?_
  refine v_aload_n C dL_law_522 rfl (lv_at hl 2 rfl) ?_
  refine v_aload_n C dL_law_523 rfl (lv_at hl 0 rfl) ?_
  refine v_iload_n C dL_law_524 rfl (lv_at hl 3 rfl) ?_
  refine v_iconst (v := 1) C dL_law_525 (by decide) ?_
  refine v_iadd C dL_law_526 ?_
  refine v_sld C hX hbl h1 dL_law_527 ?_
  refine v_aload_n C dL_law_528 rfl (lv_at hl 0 rfl) ?_
  refine v_iload_n C dL_law_529 rfl (lv_at hl 3 rfl) ?_
  refine v_iconst (v := 2) C dL_law_530 (by decide) ?_
  refine v_iadd C dL_law_531 ?_
  refine v_sld C hX hbl h2 dL_law_532 ?_
  refine v_calli C (c_X8_ofCatcher l g t (xs (ix (nI i + 1))) (xs (ix (nI i + 2)))) (cwV 2 C.2.2.2.2.1 gL_law_X8_ofCatcher rfl rfl rfl hv_X8_ofCatcher ⟨Nat.le_of_ble_eq_true rfl, Nat.le_of_ble_eq_true rfl⟩) k_30 rfl rfl rfl rfl hl.1 rfl (Nat.le_of_ble_eq_true rfl) dL_law_533 ⟨Nat.le_of_ble_eq_true rfl, Nat.le_of_ble_eq_true rfl⟩ ?_
  refine v_icmp_eq (tgt := 963) C dL_law_536 (by decide) (fun _ => ?_) (fun h => absurd (op_ofCatcher t (xs (ix (nI i + 1))) (xs (ix (nI i + 2))) hJ) h)
  exact K _ hJ ls hl
set_option maxHeartbeats 4000000 in
set_option maxRecDepth 100000 in
theorem lc_ticks {p : Program} {l : Launch} {e : Env} {s : State} {m : MethodId} {below : List Frame} {meth : Method} {c : Code} {g : ct_G} {b L : Nat} {xs : Nat → Int32} (C : Cx p s m #[Value.ref b] c (fun q : Nat => s.heap.size ≤ q) g cL_law RL wsL_law 4) (hX : va_X b L xs s s.heap) (hbl : b < s.heap.size) {i : Nat} (h1 : vp_in (nI i + 1) L) (t : ct_St) (hJ : J t) (K : ∀ u, J u → ∀ ls, lv_has ls 4 [(0, .ref b), (1, .ref (g.2.1 0)), (2, .ref (g.2.1 30)), (3, .int (nI i))] → VW p l e room_1 s m #[Value.ref b] below meth c 68 499 (lw_Z below #[Value.ref b] s) (fun q : Nat => s.heap.size ≤ q) g shG u (F0 m 963 ls [])) (ls : Array Slot) (hl : lv_has ls 4 [(0, .ref b), (1, .ref (g.2.1 0)), (2, .ref (g.2.1 30)), (3, .int (nI i))]) : VW p l e room_1 s m #[Value.ref b] below meth c 68 499 (lw_Z below #[Value.ref b] s) (fun q : Nat => s.heap.size ≤ q) g shG t (F0 m 541 ls []) := by
  refine v_aload_n C dL_law_541 rfl (lv_at hl 1 rfl) ?_
  refine v_aload_n C dL_law_542 rfl (lv_at hl 0 rfl) ?_
  refine v_iload_n C dL_law_543 rfl (lv_at hl 3 rfl) ?_
  refine v_iconst (v := 1) C dL_law_544 (by decide) ?_
  refine v_iadd C dL_law_545 ?_
  refine v_sld C hX hbl h1 dL_law_546 ?_
  refine v_calli C (c_X7_ticks l g t (xs (ix (nI i + 1))) (J_okC hJ)) (cwV 1 C.2.2.2.2.1 gL_law_X7_ticks rfl rfl rfl hv_X7_ticks ⟨Nat.le_of_ble_eq_true rfl, Nat.le_of_ble_eq_true rfl⟩) k_0 rfl rfl rfl rfl hl.1 rfl (Nat.le_of_ble_eq_true rfl) dL_law_547 ⟨Nat.le_of_ble_eq_true rfl, Nat.le_of_ble_eq_true rfl⟩ ?_
  refine v_aload_n C dL_law_550 rfl (lv_at hl 2 rfl) ?_
  refine v_aload_n C dL_law_551 rfl (lv_at hl 0 rfl) ?_
  refine v_iload_n C dL_law_552 rfl (lv_at hl 3 rfl) ?_
  refine v_iconst (v := 1) C dL_law_553 (by decide) ?_
  refine v_iadd C dL_law_554 ?_
  refine v_sld C hX hbl h1 dL_law_555 ?_
  refine v_calli C (c_X8_ticks l g (X7_ticks_s (xs (ix (nI i + 1))) t) (xs (ix (nI i + 1))) (op_ticks t (xs (ix (nI i + 1))) hJ).1) (cwV 1 C.2.2.2.2.1 gL_law_X8_ticks rfl rfl rfl hv_X8_ticks ⟨Nat.le_of_ble_eq_true rfl, Nat.le_of_ble_eq_true rfl⟩) k_30 rfl rfl rfl rfl hl.1 rfl (Nat.le_of_ble_eq_true rfl) dL_law_556 ⟨Nat.le_of_ble_eq_true rfl, Nat.le_of_ble_eq_true rfl⟩ ?_
  refine v_icmp_eq (tgt := 963) C dL_law_559 (by decide) (fun _ => ?_) (fun h => absurd (op_ticks t (xs (ix (nI i + 1))) hJ).2.1 h)
  exact K _ (op_ticks t (xs (ix (nI i + 1))) hJ).2.2 ls hl
set_option maxHeartbeats 4000000 in
set_option maxRecDepth 100000 in
theorem lc_channel {p : Program} {l : Launch} {e : Env} {s : State} {m : MethodId} {below : List Frame} {meth : Method} {c : Code} {g : ct_G} {b L : Nat} {xs : Nat → Int32} (C : Cx p s m #[Value.ref b] c (fun q : Nat => s.heap.size ≤ q) g cL_law RL wsL_law 4) (hX : va_X b L xs s s.heap) (hbl : b < s.heap.size) {i : Nat} (h1 : vp_in (nI i + 1) L) (h2 : vp_in (nI i + 2) L) (h3 : vp_in (nI i + 3) L) (h4 : vp_in (nI i + 4) L) (t : ct_St) (hJ : J t) (K : ∀ u, J u → ∀ ls, lv_has ls 4 [(0, .ref b), (1, .ref (g.2.1 0)), (2, .ref (g.2.1 30)), (3, .int (nI i))] → VW p l e room_1 s m #[Value.ref b] below meth c 68 499 (lw_Z below #[Value.ref b] s) (fun q : Nat => s.heap.size ≤ q) g shG u (F0 m 963 ls [])) (ls : Array Slot) (hl : lv_has ls 4 [(0, .ref b), (1, .ref (g.2.1 0)), (2, .ref (g.2.1 30)), (3, .int (nI i))]) : VW p l e room_1 s m #[Value.ref b] below meth c 68 499 (lw_Z below #[Value.ref b] s) (fun q : Nat => s.heap.size ≤ q) g shG t (F0 m 564 ls []) := by
  refine v_aload_n C dL_law_564 rfl (lv_at hl 1 rfl) ?_
  refine v_aload_n C dL_law_565 rfl (lv_at hl 0 rfl) ?_
  refine v_iload_n C dL_law_566 rfl (lv_at hl 3 rfl) ?_
  refine v_iconst (v := 1) C dL_law_567 (by decide) ?_
  refine v_iadd C dL_law_568 ?_
  refine v_sld C hX hbl h1 dL_law_569 ?_
  refine v_aload_n C dL_law_570 rfl (lv_at hl 0 rfl) ?_
  refine v_iload_n C dL_law_571 rfl (lv_at hl 3 rfl) ?_
  refine v_iconst (v := 2) C dL_law_572 (by decide) ?_
  refine v_iadd C dL_law_573 ?_
  refine v_sld C hX hbl h2 dL_law_574 ?_
  refine v_aload_n C dL_law_575 rfl (lv_at hl 0 rfl) ?_
  refine v_iload_n C dL_law_576 rfl (lv_at hl 3 rfl) ?_
  refine v_iconst (v := 3) C dL_law_577 (by decide) ?_
  refine v_iadd C dL_law_578 ?_
  refine v_sld C hX hbl h3 dL_law_579 ?_
  refine v_aload_n C dL_law_580 rfl (lv_at hl 0 rfl) ?_
  refine v_iload_n C dL_law_581 rfl (lv_at hl 3 rfl) ?_
  refine v_iconst (v := 4) C dL_law_582 (by decide) ?_
  refine v_iadd C dL_law_583 ?_
  refine v_sld C hX hbl h4 dL_law_584 ?_
  refine v_calli C (c_X7_channel l g t (xs (ix (nI i + 1))) (xs (ix (nI i + 2))) (xs (ix (nI i + 3))) (xs (ix (nI i + 4))) (J_okC hJ)) (cwV 4 C.2.2.2.2.1 gL_law_X7_channel rfl rfl rfl hv_X7_channel ⟨Nat.le_of_ble_eq_true rfl, Nat.le_of_ble_eq_true rfl⟩) k_0 rfl rfl rfl rfl hl.1 rfl (Nat.le_of_ble_eq_true rfl) dL_law_585 ⟨Nat.le_of_ble_eq_true rfl, Nat.le_of_ble_eq_true rfl⟩ ?_
  refine v_aload_n C dL_law_588 rfl (lv_at hl 2 rfl) ?_
  refine v_aload_n C dL_law_589 rfl (lv_at hl 0 rfl) ?_
  refine v_iload_n C dL_law_590 rfl (lv_at hl 3 rfl) ?_
  refine v_iconst (v := 1) C dL_law_591 (by decide) ?_
  refine v_iadd C dL_law_592 ?_
  refine v_sld C hX hbl h1 dL_law_593 ?_
  refine v_aload_n C dL_law_594 rfl (lv_at hl 0 rfl) ?_
  refine v_iload_n C dL_law_595 rfl (lv_at hl 3 rfl) ?_
  refine v_iconst (v := 2) C dL_law_596 (by decide) ?_
  refine v_iadd C dL_law_597 ?_
  refine v_sld C hX hbl h2 dL_law_598 ?_
  refine v_aload_n C dL_law_599 rfl (lv_at hl 0 rfl) ?_
  refine v_iload_n C dL_law_600 rfl (lv_at hl 3 rfl) ?_
  refine v_iconst (v := 3) C dL_law_601 (by decide) ?_
  refine v_iadd C dL_law_602 ?_
  refine v_sld C hX hbl h3 dL_law_603 ?_
  refine v_aload_n C dL_law_604 rfl (lv_at hl 0 rfl) ?_
  refine v_iload_n C dL_law_605 rfl (lv_at hl 3 rfl) ?_
  refine v_iconst (v := 4) C dL_law_606 (by decide) ?_
  refine v_iadd C dL_law_607 ?_
  refine v_sld C hX hbl h4 dL_law_608 ?_
  refine v_calli C (c_X8_channel l g (X7_channel_s (xs (ix (nI i + 1))) (xs (ix (nI i + 2))) (xs (ix (nI i + 3))) (xs (ix (nI i + 4))) t) (xs (ix (nI i + 1))) (xs (ix (nI i + 2))) (xs (ix (nI i + 3))) (xs (ix (nI i + 4))) (op_channel t (xs (ix (nI i + 1))) (xs (ix (nI i + 2))) (xs (ix (nI i + 3))) (xs (ix (nI i + 4))) hJ).1) (cwV 4 C.2.2.2.2.1 gL_law_X8_channel rfl rfl rfl hv_X8_channel ⟨Nat.le_of_ble_eq_true rfl, Nat.le_of_ble_eq_true rfl⟩) k_30 rfl rfl rfl rfl hl.1 rfl (Nat.le_of_ble_eq_true rfl) dL_law_609 ⟨Nat.le_of_ble_eq_true rfl, Nat.le_of_ble_eq_true rfl⟩ ?_
  refine v_icmp_eq (tgt := 963) C dL_law_612 (by decide) (fun _ => ?_) (fun h => absurd (op_channel t (xs (ix (nI i + 1))) (xs (ix (nI i + 2))) (xs (ix (nI i + 3))) (xs (ix (nI i + 4))) hJ).2.1 h)
  exact K _ (op_channel t (xs (ix (nI i + 1))) (xs (ix (nI i + 2))) (xs (ix (nI i + 3))) (xs (ix (nI i + 4))) hJ).2.2 ls hl
set_option maxHeartbeats 4000000 in
set_option maxRecDepth 100000 in
theorem lc_outputs {p : Program} {l : Launch} {e : Env} {s : State} {m : MethodId} {below : List Frame} {meth : Method} {c : Code} {g : ct_G} {b L : Nat} {xs : Nat → Int32} (C : Cx p s m #[Value.ref b] c (fun q : Nat => s.heap.size ≤ q) g cL_law RL wsL_law 4) (hX : va_X b L xs s s.heap) (hbl : b < s.heap.size) {i : Nat} (h1 : vp_in (nI i + 1) L) (h2 : vp_in (nI i + 2) L) (h3 : vp_in (nI i + 3) L) (h4 : vp_in (nI i + 4) L) (t : ct_St) (hJ : J t) (K : ∀ u, J u → ∀ ls, lv_has ls 4 [(0, .ref b), (1, .ref (g.2.1 0)), (2, .ref (g.2.1 30)), (3, .int (nI i))] → VW p l e room_1 s m #[Value.ref b] below meth c 68 499 (lw_Z below #[Value.ref b] s) (fun q : Nat => s.heap.size ≤ q) g shG u (F0 m 963 ls [])) (ls : Array Slot) (hl : lv_has ls 4 [(0, .ref b), (1, .ref (g.2.1 0)), (2, .ref (g.2.1 30)), (3, .int (nI i))]) : VW p l e room_1 s m #[Value.ref b] below meth c 68 499 (lw_Z below #[Value.ref b] s) (fun q : Nat => s.heap.size ≤ q) g shG t (F0 m 617 ls []) := by
  refine v_aload_n C dL_law_617 rfl (lv_at hl 1 rfl) ?_
  refine v_aload_n C dL_law_618 rfl (lv_at hl 0 rfl) ?_
  refine v_iload_n C dL_law_619 rfl (lv_at hl 3 rfl) ?_
  refine v_iconst (v := 1) C dL_law_620 (by decide) ?_
  refine v_iadd C dL_law_621 ?_
  refine v_sld C hX hbl h1 dL_law_622 ?_
  refine v_aload_n C dL_law_623 rfl (lv_at hl 0 rfl) ?_
  refine v_iload_n C dL_law_624 rfl (lv_at hl 3 rfl) ?_
  refine v_iconst (v := 2) C dL_law_625 (by decide) ?_
  refine v_iadd C dL_law_626 ?_
  refine v_sld C hX hbl h2 dL_law_627 ?_
  refine v_aload_n C dL_law_628 rfl (lv_at hl 0 rfl) ?_
  refine v_iload_n C dL_law_629 rfl (lv_at hl 3 rfl) ?_
  refine v_iconst (v := 3) C dL_law_630 (by decide) ?_
  refine v_iadd C dL_law_631 ?_
  refine v_sld C hX hbl h3 dL_law_632 ?_
  refine v_aload_n C dL_law_633 rfl (lv_at hl 0 rfl) ?_
  refine v_iload_n C dL_law_634 rfl (lv_at hl 3 rfl) ?_
  refine v_iconst (v := 4) C dL_law_635 (by decide) ?_
  refine v_iadd C dL_law_636 ?_
  refine v_sld C hX hbl h4 dL_law_637 ?_
  refine v_calli C (c_X7_outputs l g t (xs (ix (nI i + 1))) (xs (ix (nI i + 2))) (xs (ix (nI i + 3))) (xs (ix (nI i + 4))) (J_okC hJ)) (cwV 4 C.2.2.2.2.1 gL_law_X7_outputs rfl rfl rfl hv_X7_outputs ⟨Nat.le_of_ble_eq_true rfl, Nat.le_of_ble_eq_true rfl⟩) k_0 rfl rfl rfl rfl hl.1 rfl (Nat.le_of_ble_eq_true rfl) dL_law_638 ⟨Nat.le_of_ble_eq_true rfl, Nat.le_of_ble_eq_true rfl⟩ ?_
  refine v_aload_n C dL_law_641 rfl (lv_at hl 2 rfl) ?_
  refine v_aload_n C dL_law_642 rfl (lv_at hl 0 rfl) ?_
  refine v_iload_n C dL_law_643 rfl (lv_at hl 3 rfl) ?_
  refine v_iconst (v := 1) C dL_law_644 (by decide) ?_
  refine v_iadd C dL_law_645 ?_
  refine v_sld C hX hbl h1 dL_law_646 ?_
  refine v_aload_n C dL_law_647 rfl (lv_at hl 0 rfl) ?_
  refine v_iload_n C dL_law_648 rfl (lv_at hl 3 rfl) ?_
  refine v_iconst (v := 2) C dL_law_649 (by decide) ?_
  refine v_iadd C dL_law_650 ?_
  refine v_sld C hX hbl h2 dL_law_651 ?_
  refine v_aload_n C dL_law_652 rfl (lv_at hl 0 rfl) ?_
  refine v_iload_n C dL_law_653 rfl (lv_at hl 3 rfl) ?_
  refine v_iconst (v := 3) C dL_law_654 (by decide) ?_
  refine v_iadd C dL_law_655 ?_
  refine v_sld C hX hbl h3 dL_law_656 ?_
  refine v_aload_n C dL_law_657 rfl (lv_at hl 0 rfl) ?_
  refine v_iload_n C dL_law_658 rfl (lv_at hl 3 rfl) ?_
  refine v_iconst (v := 4) C dL_law_659 (by decide) ?_
  refine v_iadd C dL_law_660 ?_
  refine v_sld C hX hbl h4 dL_law_661 ?_
  refine v_calli C (c_X8_outputs l g (X7_outputs_s (xs (ix (nI i + 1))) (xs (ix (nI i + 2))) (xs (ix (nI i + 3))) (xs (ix (nI i + 4))) t) (xs (ix (nI i + 1))) (xs (ix (nI i + 2))) (xs (ix (nI i + 3))) (xs (ix (nI i + 4))) (op_outputs t (xs (ix (nI i + 1))) (xs (ix (nI i + 2))) (xs (ix (nI i + 3))) (xs (ix (nI i + 4))) hJ).1) (cwV 4 C.2.2.2.2.1 gL_law_X8_outputs rfl rfl rfl hv_X8_outputs ⟨Nat.le_of_ble_eq_true rfl, Nat.le_of_ble_eq_true rfl⟩) k_30 rfl rfl rfl rfl hl.1 rfl (Nat.le_of_ble_eq_true rfl) dL_law_662 ⟨Nat.le_of_ble_eq_true rfl, Nat.le_of_ble_eq_true rfl⟩ ?_
  refine v_icmp_eq (tgt := 963) C dL_law_665 (by decide) (fun _ => ?_) (fun h => absurd (op_outputs t (xs (ix (nI i + 1))) (xs (ix (nI i + 2))) (xs (ix (nI i + 3))) (xs (ix (nI i + 4))) hJ).2.1 h)
  exact K _ (op_outputs t (xs (ix (nI i + 1))) (xs (ix (nI i + 2))) (xs (ix (nI i + 3))) (xs (ix (nI i + 4))) hJ).2.2 ls hl
set_option maxHeartbeats 4000000 in
set_option maxRecDepth 100000 in
theorem lc_ofChannel {p : Program} {l : Launch} {e : Env} {s : State} {m : MethodId} {below : List Frame} {meth : Method} {c : Code} {g : ct_G} {b L : Nat} {xs : Nat → Int32} (C : Cx p s m #[Value.ref b] c (fun q : Nat => s.heap.size ≤ q) g cL_law RL wsL_law 4) (hX : va_X b L xs s s.heap) (hbl : b < s.heap.size) {i : Nat} (h1 : vp_in (nI i + 1) L) (h2 : vp_in (nI i + 2) L) (t : ct_St) (hJ : J t) (K : ∀ u, J u → ∀ ls, lv_has ls 4 [(0, .ref b), (1, .ref (g.2.1 0)), (2, .ref (g.2.1 30)), (3, .int (nI i))] → VW p l e room_1 s m #[Value.ref b] below meth c 68 499 (lw_Z below #[Value.ref b] s) (fun q : Nat => s.heap.size ≤ q) g shG u (F0 m 963 ls [])) (ls : Array Slot) (hl : lv_has ls 4 [(0, .ref b), (1, .ref (g.2.1 0)), (2, .ref (g.2.1 30)), (3, .int (nI i))]) : VW p l e room_1 s m #[Value.ref b] below meth c 68 499 (lw_Z below #[Value.ref b] s) (fun q : Nat => s.heap.size ≤ q) g shG t (F0 m 670 ls []) := by
  refine v_aload_n C dL_law_670 rfl (lv_at hl 1 rfl) ?_
  refine v_aload_n C dL_law_671 rfl (lv_at hl 0 rfl) ?_
  refine v_iload_n C dL_law_672 rfl (lv_at hl 3 rfl) ?_
  refine v_iconst (v := 1) C dL_law_673 (by decide) ?_
  refine v_iadd C dL_law_674 ?_
  refine v_sld C hX hbl h1 dL_law_675 ?_
  refine v_aload_n C dL_law_676 rfl (lv_at hl 0 rfl) ?_
  refine v_iload_n C dL_law_677 rfl (lv_at hl 3 rfl) ?_
  refine v_iconst (v := 2) C dL_law_678 (by decide) ?_
  refine v_iadd C dL_law_679 ?_
  refine v_sld C hX hbl h2 dL_law_680 ?_
  refine v_calli C (c_X7_ofChannel l g t (xs (ix (nI i + 1))) (xs (ix (nI i + 2)))) (cwV 2 C.2.2.2.2.1 gL_law_X7_ofChannel rfl rfl rfl hv_X7_ofChannel ⟨Nat.le_of_ble_eq_true rfl, Nat.le_of_ble_eq_true rfl⟩) k_0 rfl rfl rfl rfl hl.1 rfl (Nat.le_of_ble_eq_true rfl) dL_law_681 ⟨Nat.le_of_ble_eq_true rfl, Nat.le_of_ble_eq_true rfl⟩ ?_
  refine v_aload_n C dL_law_684 rfl (lv_at hl 2 rfl) ?_
  refine v_aload_n C dL_law_685 rfl (lv_at hl 0 rfl) ?_
  refine v_iload_n C dL_law_686 rfl (lv_at hl 3 rfl) ?_
  refine v_iconst (v := 1) C dL_law_687 (by decide) ?_
  refine v_iadd C dL_law_688 ?_
  refine v_sld C hX hbl h1 dL_law_689 ?_
  refine v_aload_n C dL_law_690 rfl (lv_at hl 0 rfl) ?_
  refine v_iload_n C dL_law_691 rfl (lv_at hl 3 rfl) ?_
  refine v_iconst (v := 2) C dL_law_692 (by decide) ?_
  refine v_iadd C dL_law_693 ?_
  refine v_sld C hX hbl h2 dL_law_694 ?_
  refine v_calli C (c_X8_ofChannel l g t (xs (ix (nI i + 1))) (xs (ix (nI i + 2)))) (cwV 2 C.2.2.2.2.1 gL_law_X8_ofChannel rfl rfl rfl hv_X8_ofChannel ⟨Nat.le_of_ble_eq_true rfl, Nat.le_of_ble_eq_true rfl⟩) k_30 rfl rfl rfl rfl hl.1 rfl (Nat.le_of_ble_eq_true rfl) dL_law_695 ⟨Nat.le_of_ble_eq_true rfl, Nat.le_of_ble_eq_true rfl⟩ ?_
  refine v_icmp_eq (tgt := 963) C dL_law_698 (by decide) (fun _ => ?_) (fun h => absurd (op_ofChannel t (xs (ix (nI i + 1))) (xs (ix (nI i + 2))) hJ) h)
  exact K _ hJ ls hl
set_option maxHeartbeats 4000000 in
set_option maxRecDepth 100000 in
theorem lc_pin {p : Program} {l : Launch} {e : Env} {s : State} {m : MethodId} {below : List Frame} {meth : Method} {c : Code} {g : ct_G} {b L : Nat} {xs : Nat → Int32} (C : Cx p s m #[Value.ref b] c (fun q : Nat => s.heap.size ≤ q) g cL_law RL wsL_law 4) (hX : va_X b L xs s s.heap) (hbl : b < s.heap.size) {i : Nat} (h1 : vp_in (nI i + 1) L) (t : ct_St) (hJ : J t) (K : ∀ u, J u → ∀ ls, lv_has ls 4 [(0, .ref b), (1, .ref (g.2.1 0)), (2, .ref (g.2.1 30)), (3, .int (nI i))] → VW p l e room_1 s m #[Value.ref b] below meth c 68 499 (lw_Z below #[Value.ref b] s) (fun q : Nat => s.heap.size ≤ q) g shG u (F0 m 963 ls [])) (ls : Array Slot) (hl : lv_has ls 4 [(0, .ref b), (1, .ref (g.2.1 0)), (2, .ref (g.2.1 30)), (3, .int (nI i))]) : VW p l e room_1 s m #[Value.ref b] below meth c 68 499 (lw_Z below #[Value.ref b] s) (fun q : Nat => s.heap.size ≤ q) g shG t (F0 m 703 ls []) := by
  refine v_aload_n C dL_law_703 rfl (lv_at hl 1 rfl) ?_
  refine v_aload_n C dL_law_704 rfl (lv_at hl 0 rfl) ?_
  refine v_iload_n C dL_law_705 rfl (lv_at hl 3 rfl) ?_
  refine v_iconst (v := 1) C dL_law_706 (by decide) ?_
  refine v_iadd C dL_law_707 ?_
  refine v_sld C hX hbl h1 dL_law_708 ?_
  refine v_calli C (c_X7_pin l g t (xs (ix (nI i + 1)))) (cwV 1 C.2.2.2.2.1 gL_law_X7_pin rfl rfl rfl hv_X7_pin ⟨Nat.le_of_ble_eq_true rfl, Nat.le_of_ble_eq_true rfl⟩) k_0 rfl rfl rfl rfl hl.1 rfl (Nat.le_of_ble_eq_true rfl) dL_law_709 ⟨Nat.le_of_ble_eq_true rfl, Nat.le_of_ble_eq_true rfl⟩ ?_
  refine v_aload_n C dL_law_712 rfl (lv_at hl 2 rfl) ?_
  refine v_aload_n C dL_law_713 rfl (lv_at hl 0 rfl) ?_
  refine v_iload_n C dL_law_714 rfl (lv_at hl 3 rfl) ?_
  refine v_iconst (v := 1) C dL_law_715 (by decide) ?_
  refine v_iadd C dL_law_716 ?_
  refine v_sld C hX hbl h1 dL_law_717 ?_
  refine v_calli C (c_X8_pin l g t (xs (ix (nI i + 1)))) (cwV 1 C.2.2.2.2.1 gL_law_X8_pin rfl rfl rfl hv_X8_pin ⟨Nat.le_of_ble_eq_true rfl, Nat.le_of_ble_eq_true rfl⟩) k_30 rfl rfl rfl rfl hl.1 rfl (Nat.le_of_ble_eq_true rfl) dL_law_718 ⟨Nat.le_of_ble_eq_true rfl, Nat.le_of_ble_eq_true rfl⟩ ?_
  refine v_icmp_eq (tgt := 963) C dL_law_721 (by decide) (fun _ => ?_) (fun h => absurd (op_pin t (xs (ix (nI i + 1))) hJ) h)
  exact K _ hJ ls hl
set_option maxHeartbeats 4000000 in
set_option maxRecDepth 100000 in
theorem lc_brake {p : Program} {l : Launch} {e : Env} {s : State} {m : MethodId} {below : List Frame} {meth : Method} {c : Code} {g : ct_G} {b L : Nat} {xs : Nat → Int32} (C : Cx p s m #[Value.ref b] c (fun q : Nat => s.heap.size ≤ q) g cL_law RL wsL_law 4) (hX : va_X b L xs s s.heap) (hbl : b < s.heap.size) {i : Nat} (t : ct_St) (hJ : J t) (K : ∀ u, J u → ∀ ls, lv_has ls 4 [(0, .ref b), (1, .ref (g.2.1 0)), (2, .ref (g.2.1 30)), (3, .int (nI i))] → VW p l e room_1 s m #[Value.ref b] below meth c 68 499 (lw_Z below #[Value.ref b] s) (fun q : Nat => s.heap.size ≤ q) g shG u (F0 m 963 ls [])) (ls : Array Slot) (hl : lv_has ls 4 [(0, .ref b), (1, .ref (g.2.1 0)), (2, .ref (g.2.1 30)), (3, .int (nI i))]) : VW p l e room_1 s m #[Value.ref b] below meth c 68 499 (lw_Z below #[Value.ref b] s) (fun q : Nat => s.heap.size ≤ q) g shG t (F0 m 726 ls []) := by
  refine v_aload_n C dL_law_726 rfl (lv_at hl 1 rfl) ?_
  refine v_calli C (c_X7_brake l g t (J_okC hJ)) (cwV 0 C.2.2.2.2.1 gL_law_X7_brake rfl rfl rfl hv_X7_brake ⟨Nat.le_of_ble_eq_true rfl, Nat.le_of_ble_eq_true rfl⟩) k_0 rfl rfl rfl rfl hl.1 rfl (Nat.le_of_ble_eq_true rfl) dL_law_727 ⟨Nat.le_of_ble_eq_true rfl, Nat.le_of_ble_eq_true rfl⟩ ?_
  refine v_aload_n C dL_law_730 rfl (lv_at hl 2 rfl) ?_
  refine v_calli C (c_X8_brake l g (X7_brake_s t) (op_brake t hJ).1) (cwV 0 C.2.2.2.2.1 gL_law_X8_brake rfl rfl rfl hv_X8_brake ⟨Nat.le_of_ble_eq_true rfl, Nat.le_of_ble_eq_true rfl⟩) k_30 rfl rfl rfl rfl hl.1 rfl (Nat.le_of_ble_eq_true rfl) dL_law_731 ⟨Nat.le_of_ble_eq_true rfl, Nat.le_of_ble_eq_true rfl⟩ ?_
  refine v_icmp_eq (tgt := 963) C dL_law_734 (by decide) (fun _ => ?_) (fun h => absurd (op_brake t hJ).2.1 h)
  exact K _ (op_brake t hJ).2.2 ls hl
set_option maxHeartbeats 4000000 in
set_option maxRecDepth 100000 in
theorem lc_arm {p : Program} {l : Launch} {e : Env} {s : State} {m : MethodId} {below : List Frame} {meth : Method} {c : Code} {g : ct_G} {b L : Nat} {xs : Nat → Int32} (C : Cx p s m #[Value.ref b] c (fun q : Nat => s.heap.size ≤ q) g cL_law RL wsL_law 4) (hX : va_X b L xs s s.heap) (hbl : b < s.heap.size) {i : Nat} (t : ct_St) (hJ : J t) (K : ∀ u, J u → ∀ ls, lv_has ls 4 [(0, .ref b), (1, .ref (g.2.1 0)), (2, .ref (g.2.1 30)), (3, .int (nI i))] → VW p l e room_1 s m #[Value.ref b] below meth c 68 499 (lw_Z below #[Value.ref b] s) (fun q : Nat => s.heap.size ≤ q) g shG u (F0 m 963 ls [])) (ls : Array Slot) (hl : lv_has ls 4 [(0, .ref b), (1, .ref (g.2.1 0)), (2, .ref (g.2.1 30)), (3, .int (nI i))]) : VW p l e room_1 s m #[Value.ref b] below meth c 68 499 (lw_Z below #[Value.ref b] s) (fun q : Nat => s.heap.size ≤ q) g shG t (F0 m 739 ls []) := by
  refine v_aload_n C dL_law_739 rfl (lv_at hl 1 rfl) ?_
  refine v_calli C (c_X7_arm l g t (J_okC hJ)) (cwV 0 C.2.2.2.2.1 gL_law_X7_arm rfl rfl rfl hv_X7_arm ⟨Nat.le_of_ble_eq_true rfl, Nat.le_of_ble_eq_true rfl⟩) k_0 rfl rfl rfl rfl hl.1 rfl (Nat.le_of_ble_eq_true rfl) dL_law_740 ⟨Nat.le_of_ble_eq_true rfl, Nat.le_of_ble_eq_true rfl⟩ ?_
  refine v_aload_n C dL_law_743 rfl (lv_at hl 2 rfl) ?_
  refine v_calli C (c_X8_arm l g (X7_arm_s t) (op_arm t hJ).1) (cwV 0 C.2.2.2.2.1 gL_law_X8_arm rfl rfl rfl hv_X8_arm ⟨Nat.le_of_ble_eq_true rfl, Nat.le_of_ble_eq_true rfl⟩) k_30 rfl rfl rfl rfl hl.1 rfl (Nat.le_of_ble_eq_true rfl) dL_law_744 ⟨Nat.le_of_ble_eq_true rfl, Nat.le_of_ble_eq_true rfl⟩ ?_
  refine v_icmp_eq (tgt := 963) C dL_law_747 (by decide) (fun _ => ?_) (fun h => absurd (op_arm t hJ).2.1 h)
  exact K _ (op_arm t hJ).2.2 ls hl
set_option maxHeartbeats 4000000 in
set_option maxRecDepth 100000 in
theorem lc_record {p : Program} {l : Launch} {e : Env} {s : State} {m : MethodId} {below : List Frame} {meth : Method} {c : Code} {g : ct_G} {b L : Nat} {xs : Nat → Int32} (C : Cx p s m #[Value.ref b] c (fun q : Nat => s.heap.size ≤ q) g cL_law RL wsL_law 4) (hX : va_X b L xs s s.heap) (hbl : b < s.heap.size) {i : Nat} (h1 : vp_in (nI i + 1) L) (h2 : vp_in (nI i + 2) L) (t : ct_St) (hJ : J t) (K : ∀ u, J u → ∀ ls, lv_has ls 4 [(0, .ref b), (1, .ref (g.2.1 0)), (2, .ref (g.2.1 30)), (3, .int (nI i))] → VW p l e room_1 s m #[Value.ref b] below meth c 68 499 (lw_Z below #[Value.ref b] s) (fun q : Nat => s.heap.size ≤ q) g shG u (F0 m 963 ls [])) (ls : Array Slot) (hl : lv_has ls 4 [(0, .ref b), (1, .ref (g.2.1 0)), (2, .ref (g.2.1 30)), (3, .int (nI i))]) : VW p l e room_1 s m #[Value.ref b] below meth c 68 499 (lw_Z below #[Value.ref b] s) (fun q : Nat => s.heap.size ≤ q) g shG t (F0 m 752 ls []) := by
  refine v_aload_n C dL_law_752 rfl (lv_at hl 1 rfl) ?_
  refine v_aload_n C dL_law_753 rfl (lv_at hl 0 rfl) ?_
  refine v_iload_n C dL_law_754 rfl (lv_at hl 3 rfl) ?_
  refine v_iconst (v := 1) C dL_law_755 (by decide) ?_
  refine v_iadd C dL_law_756 ?_
  refine v_sld C hX hbl h1 dL_law_757 ?_
  refine v_aload_n C dL_law_758 rfl (lv_at hl 0 rfl) ?_
  refine v_iload_n C dL_law_759 rfl (lv_at hl 3 rfl) ?_
  refine v_iconst (v := 2) C dL_law_760 (by decide) ?_
  refine v_iadd C dL_law_761 ?_
  refine v_sld C hX hbl h2 dL_law_762 ?_
  refine v_calli C (c_X7_record l g t (xs (ix (nI i + 1))) (xs (ix (nI i + 2))) (J_okC hJ).2.2.2.2.2) (cwV 2 C.2.2.2.2.1 gL_law_X7_record rfl rfl rfl hv_X7_record ⟨Nat.le_of_ble_eq_true rfl, Nat.le_of_ble_eq_true rfl⟩) k_0 rfl rfl rfl rfl hl.1 rfl (Nat.le_of_ble_eq_true rfl) dL_law_763 ⟨Nat.le_of_ble_eq_true rfl, Nat.le_of_ble_eq_true rfl⟩ ?_
  refine v_aload_n C dL_law_766 rfl (lv_at hl 2 rfl) ?_
  refine v_aload_n C dL_law_767 rfl (lv_at hl 0 rfl) ?_
  refine v_iload_n C dL_law_768 rfl (lv_at hl 3 rfl) ?_
  refine v_iconst (v := 1) C dL_law_769 (by decide) ?_
  refine v_iadd C dL_law_770 ?_
  refine v_sld C hX hbl h1 dL_law_771 ?_
  refine v_aload_n C dL_law_772 rfl (lv_at hl 0 rfl) ?_
  refine v_iload_n C dL_law_773 rfl (lv_at hl 3 rfl) ?_
  refine v_iconst (v := 2) C dL_law_774 (by decide) ?_
  refine v_iadd C dL_law_775 ?_
  refine v_sld C hX hbl h2 dL_law_776 ?_
  refine v_calli C (c_X8_record l g t (xs (ix (nI i + 1))) (xs (ix (nI i + 2))) (J_okM hJ).2.2.2.2.2.2.2) (cwV 2 C.2.2.2.2.1 gL_law_X8_record rfl rfl rfl hv_X8_record ⟨Nat.le_of_ble_eq_true rfl, Nat.le_of_ble_eq_true rfl⟩) k_30 rfl rfl rfl rfl hl.1 rfl (Nat.le_of_ble_eq_true rfl) dL_law_777 ⟨Nat.le_of_ble_eq_true rfl, Nat.le_of_ble_eq_true rfl⟩ ?_
  refine v_icmp_eq (tgt := 963) C dL_law_780 (by decide) (fun _ => ?_) (fun h => absurd (op_record t (xs (ix (nI i + 1))) (xs (ix (nI i + 2))) hJ) h)
  exact K _ hJ ls hl
set_option maxHeartbeats 4000000 in
set_option maxRecDepth 100000 in
theorem lc_holds {p : Program} {l : Launch} {e : Env} {s : State} {m : MethodId} {below : List Frame} {meth : Method} {c : Code} {g : ct_G} {b L : Nat} {xs : Nat → Int32} (C : Cx p s m #[Value.ref b] c (fun q : Nat => s.heap.size ≤ q) g cL_law RL wsL_law 4) (hX : va_X b L xs s s.heap) (hbl : b < s.heap.size) {i : Nat} (h1 : vp_in (nI i + 1) L) (h2 : vp_in (nI i + 2) L) (t : ct_St) (hJ : J t) (K : ∀ u, J u → ∀ ls, lv_has ls 4 [(0, .ref b), (1, .ref (g.2.1 0)), (2, .ref (g.2.1 30)), (3, .int (nI i))] → VW p l e room_1 s m #[Value.ref b] below meth c 68 499 (lw_Z below #[Value.ref b] s) (fun q : Nat => s.heap.size ≤ q) g shG u (F0 m 963 ls [])) (ls : Array Slot) (hl : lv_has ls 4 [(0, .ref b), (1, .ref (g.2.1 0)), (2, .ref (g.2.1 30)), (3, .int (nI i))]) : VW p l e room_1 s m #[Value.ref b] below meth c 68 499 (lw_Z below #[Value.ref b] s) (fun q : Nat => s.heap.size ≤ q) g shG t (F0 m 785 ls []) := by
  refine v_aload_n C dL_law_785 rfl (lv_at hl 1 rfl) ?_
  refine v_aload_n C dL_law_786 rfl (lv_at hl 0 rfl) ?_
  refine v_iload_n C dL_law_787 rfl (lv_at hl 3 rfl) ?_
  refine v_iconst (v := 1) C dL_law_788 (by decide) ?_
  refine v_iadd C dL_law_789 ?_
  refine v_sld C hX hbl h1 dL_law_790 ?_
  refine v_aload_n C dL_law_791 rfl (lv_at hl 0 rfl) ?_
  refine v_iload_n C dL_law_792 rfl (lv_at hl 3 rfl) ?_
  refine v_iconst (v := 2) C dL_law_793 (by decide) ?_
  refine v_iadd C dL_law_794 ?_
  refine v_sld C hX hbl h2 dL_law_795 ?_
  refine v_calli C (c_X7_holds l g t (xs (ix (nI i + 1))) (xs (ix (nI i + 2)))) (cwV 2 C.2.2.2.2.1 gL_law_X7_holds rfl rfl rfl hv_X7_holds ⟨Nat.le_of_ble_eq_true rfl, Nat.le_of_ble_eq_true rfl⟩) k_0 rfl rfl rfl rfl hl.1 rfl (Nat.le_of_ble_eq_true rfl) dL_law_796 ⟨Nat.le_of_ble_eq_true rfl, Nat.le_of_ble_eq_true rfl⟩ ?_
  refine v_aload_n C dL_law_799 rfl (lv_at hl 2 rfl) ?_
  refine v_aload_n C dL_law_800 rfl (lv_at hl 0 rfl) ?_
  refine v_iload_n C dL_law_801 rfl (lv_at hl 3 rfl) ?_
  refine v_iconst (v := 1) C dL_law_802 (by decide) ?_
  refine v_iadd C dL_law_803 ?_
  refine v_sld C hX hbl h1 dL_law_804 ?_
  refine v_aload_n C dL_law_805 rfl (lv_at hl 0 rfl) ?_
  refine v_iload_n C dL_law_806 rfl (lv_at hl 3 rfl) ?_
  refine v_iconst (v := 2) C dL_law_807 (by decide) ?_
  refine v_iadd C dL_law_808 ?_
  refine v_sld C hX hbl h2 dL_law_809 ?_
  refine v_calli C (c_X8_holds l g (X7_holds_s (xs (ix (nI i + 1))) (xs (ix (nI i + 2))) t) (xs (ix (nI i + 1))) (xs (ix (nI i + 2)))) (cwV 2 C.2.2.2.2.1 gL_law_X8_holds rfl rfl rfl hv_X8_holds ⟨Nat.le_of_ble_eq_true rfl, Nat.le_of_ble_eq_true rfl⟩) k_30 rfl rfl rfl rfl hl.1 rfl (Nat.le_of_ble_eq_true rfl) dL_law_810 ⟨Nat.le_of_ble_eq_true rfl, Nat.le_of_ble_eq_true rfl⟩ ?_
  refine v_icmp_eq (tgt := 963) C dL_law_813 (by decide) (fun _ => ?_) (fun h => absurd (op_holds t (xs (ix (nI i + 1))) (xs (ix (nI i + 2))) hJ).1 h)
  exact K _ (op_holds t (xs (ix (nI i + 1))) (xs (ix (nI i + 2))) hJ).2 ls hl
set_option maxHeartbeats 4000000 in
set_option maxRecDepth 100000 in
theorem lc_read {p : Program} {l : Launch} {e : Env} {s : State} {m : MethodId} {below : List Frame} {meth : Method} {c : Code} {g : ct_G} {b L : Nat} {xs : Nat → Int32} (C : Cx p s m #[Value.ref b] c (fun q : Nat => s.heap.size ≤ q) g cL_law RL wsL_law 4) (hX : va_X b L xs s s.heap) (hbl : b < s.heap.size) {i : Nat} (h1 : vp_in (nI i + 1) L) (h2 : vp_in (nI i + 2) L) (t : ct_St) (hJ : J t) (K : ∀ u, J u → ∀ ls, lv_has ls 4 [(0, .ref b), (1, .ref (g.2.1 0)), (2, .ref (g.2.1 30)), (3, .int (nI i))] → VW p l e room_1 s m #[Value.ref b] below meth c 68 499 (lw_Z below #[Value.ref b] s) (fun q : Nat => s.heap.size ≤ q) g shG u (F0 m 963 ls [])) (ls : Array Slot) (hl : lv_has ls 4 [(0, .ref b), (1, .ref (g.2.1 0)), (2, .ref (g.2.1 30)), (3, .int (nI i))]) : VW p l e room_1 s m #[Value.ref b] below meth c 68 499 (lw_Z below #[Value.ref b] s) (fun q : Nat => s.heap.size ≤ q) g shG t (F0 m 818 ls []) := by
  refine v_aload_n C dL_law_818 rfl (lv_at hl 1 rfl) ?_
  refine v_aload_n C dL_law_819 rfl (lv_at hl 0 rfl) ?_
  refine v_iload_n C dL_law_820 rfl (lv_at hl 3 rfl) ?_
  refine v_iconst (v := 1) C dL_law_821 (by decide) ?_
  refine v_iadd C dL_law_822 ?_
  refine v_sld C hX hbl h1 dL_law_823 ?_
  refine v_aload_n C dL_law_824 rfl (lv_at hl 0 rfl) ?_
  refine v_iload_n C dL_law_825 rfl (lv_at hl 3 rfl) ?_
  refine v_iconst (v := 2) C dL_law_826 (by decide) ?_
  refine v_iadd C dL_law_827 ?_
  refine v_sld C hX hbl h2 dL_law_828 ?_
  refine v_calli C (c_X7_read l g t (xs (ix (nI i + 1))) (xs (ix (nI i + 2)))) (cwV 2 C.2.2.2.2.1 gL_law_X7_read rfl rfl rfl hv_X7_read ⟨Nat.le_of_ble_eq_true rfl, Nat.le_of_ble_eq_true rfl⟩) k_0 rfl rfl rfl rfl hl.1 rfl (Nat.le_of_ble_eq_true rfl) dL_law_829 ⟨Nat.le_of_ble_eq_true rfl, Nat.le_of_ble_eq_true rfl⟩ ?_
  refine v_aload_n C dL_law_832 rfl (lv_at hl 2 rfl) ?_
  refine v_aload_n C dL_law_833 rfl (lv_at hl 0 rfl) ?_
  refine v_iload_n C dL_law_834 rfl (lv_at hl 3 rfl) ?_
  refine v_iconst (v := 1) C dL_law_835 (by decide) ?_
  refine v_iadd C dL_law_836 ?_
  refine v_sld C hX hbl h1 dL_law_837 ?_
  refine v_aload_n C dL_law_838 rfl (lv_at hl 0 rfl) ?_
  refine v_iload_n C dL_law_839 rfl (lv_at hl 3 rfl) ?_
  refine v_iconst (v := 2) C dL_law_840 (by decide) ?_
  refine v_iadd C dL_law_841 ?_
  refine v_sld C hX hbl h2 dL_law_842 ?_
  refine v_calli C (c_X8_read l g (X7_read_s (xs (ix (nI i + 1))) (xs (ix (nI i + 2))) t) (xs (ix (nI i + 1))) (xs (ix (nI i + 2)))) (cwV 2 C.2.2.2.2.1 gL_law_X8_read rfl rfl rfl hv_X8_read ⟨Nat.le_of_ble_eq_true rfl, Nat.le_of_ble_eq_true rfl⟩) k_30 rfl rfl rfl rfl hl.1 rfl (Nat.le_of_ble_eq_true rfl) dL_law_843 ⟨Nat.le_of_ble_eq_true rfl, Nat.le_of_ble_eq_true rfl⟩ ?_
  refine v_icmp_eq (tgt := 963) C dL_law_846 (by decide) (fun _ => ?_) (fun h => absurd (op_read t (xs (ix (nI i + 1))) (xs (ix (nI i + 2))) hJ).1 h)
  exact K _ (op_read t (xs (ix (nI i + 1))) (xs (ix (nI i + 2))) hJ).2 ls hl
set_option maxHeartbeats 4000000 in
set_option maxRecDepth 100000 in
theorem lc_wide {p : Program} {l : Launch} {e : Env} {s : State} {m : MethodId} {below : List Frame} {meth : Method} {c : Code} {g : ct_G} {b L : Nat} {xs : Nat → Int32} (C : Cx p s m #[Value.ref b] c (fun q : Nat => s.heap.size ≤ q) g cL_law RL wsL_law 4) (hX : va_X b L xs s s.heap) (hbl : b < s.heap.size) {i : Nat} (h1 : vp_in (nI i + 1) L) (t : ct_St) (hJ : J t) (K : ∀ u, J u → ∀ ls, lv_has ls 4 [(0, .ref b), (1, .ref (g.2.1 0)), (2, .ref (g.2.1 30)), (3, .int (nI i))] → VW p l e room_1 s m #[Value.ref b] below meth c 68 499 (lw_Z below #[Value.ref b] s) (fun q : Nat => s.heap.size ≤ q) g shG u (F0 m 963 ls [])) (ls : Array Slot) (hl : lv_has ls 4 [(0, .ref b), (1, .ref (g.2.1 0)), (2, .ref (g.2.1 30)), (3, .int (nI i))]) : VW p l e room_1 s m #[Value.ref b] below meth c 68 499 (lw_Z below #[Value.ref b] s) (fun q : Nat => s.heap.size ≤ q) g shG t (F0 m 851 ls []) := by
  refine v_aload_n C dL_law_851 rfl (lv_at hl 1 rfl) ?_
  refine v_aload_n C dL_law_852 rfl (lv_at hl 0 rfl) ?_
  refine v_iload_n C dL_law_853 rfl (lv_at hl 3 rfl) ?_
  refine v_iconst (v := 1) C dL_law_854 (by decide) ?_
  refine v_iadd C dL_law_855 ?_
  refine v_sld C hX hbl h1 dL_law_856 ?_
  refine v_calli C (c_X7_wide l g t (xs (ix (nI i + 1)))) (cwV 1 C.2.2.2.2.1 gL_law_X7_wide rfl rfl rfl hv_X7_wide ⟨Nat.le_of_ble_eq_true rfl, Nat.le_of_ble_eq_true rfl⟩) k_0 rfl rfl rfl rfl hl.1 rfl (Nat.le_of_ble_eq_true rfl) dL_law_857 ⟨Nat.le_of_ble_eq_true rfl, Nat.le_of_ble_eq_true rfl⟩ ?_
  refine v_aload_n C dL_law_860 rfl (lv_at hl 2 rfl) ?_
  refine v_aload_n C dL_law_861 rfl (lv_at hl 0 rfl) ?_
  refine v_iload_n C dL_law_862 rfl (lv_at hl 3 rfl) ?_
  refine v_iconst (v := 1) C dL_law_863 (by decide) ?_
  refine v_iadd C dL_law_864 ?_
  refine v_sld C hX hbl h1 dL_law_865 ?_
  refine v_calli C (c_X8_wide l g t (xs (ix (nI i + 1)))) (cwV 1 C.2.2.2.2.1 gL_law_X8_wide rfl rfl rfl hv_X8_wide ⟨Nat.le_of_ble_eq_true rfl, Nat.le_of_ble_eq_true rfl⟩) k_30 rfl rfl rfl rfl hl.1 rfl (Nat.le_of_ble_eq_true rfl) dL_law_866 ⟨Nat.le_of_ble_eq_true rfl, Nat.le_of_ble_eq_true rfl⟩ ?_
  refine v_icmp_eq (tgt := 963) C dL_law_869 (by decide) (fun _ => ?_) (fun h => absurd (op_wide t (xs (ix (nI i + 1))) hJ) h)
  exact K _ hJ ls hl
set_option maxHeartbeats 4000000 in
set_option maxRecDepth 100000 in
theorem lc_slow {p : Program} {l : Launch} {e : Env} {s : State} {m : MethodId} {below : List Frame} {meth : Method} {c : Code} {g : ct_G} {b L : Nat} {xs : Nat → Int32} (C : Cx p s m #[Value.ref b] c (fun q : Nat => s.heap.size ≤ q) g cL_law RL wsL_law 4) (hX : va_X b L xs s s.heap) (hbl : b < s.heap.size) {i : Nat} (h1 : vp_in (nI i + 1) L) (h2 : vp_in (nI i + 2) L) (h3 : vp_in (nI i + 3) L) (t : ct_St) (hJ : J t) (K : ∀ u, J u → ∀ ls, lv_has ls 4 [(0, .ref b), (1, .ref (g.2.1 0)), (2, .ref (g.2.1 30)), (3, .int (nI i))] → VW p l e room_1 s m #[Value.ref b] below meth c 68 499 (lw_Z below #[Value.ref b] s) (fun q : Nat => s.heap.size ≤ q) g shG u (F0 m 963 ls [])) (ls : Array Slot) (hl : lv_has ls 4 [(0, .ref b), (1, .ref (g.2.1 0)), (2, .ref (g.2.1 30)), (3, .int (nI i))]) : VW p l e room_1 s m #[Value.ref b] below meth c 68 499 (lw_Z below #[Value.ref b] s) (fun q : Nat => s.heap.size ≤ q) g shG t (F0 m 874 ls []) := by
  refine v_aload_n C dL_law_874 rfl (lv_at hl 1 rfl) ?_
  refine v_aload_n C dL_law_875 rfl (lv_at hl 0 rfl) ?_
  refine v_iload_n C dL_law_876 rfl (lv_at hl 3 rfl) ?_
  refine v_iconst (v := 1) C dL_law_877 (by decide) ?_
  refine v_iadd C dL_law_878 ?_
  refine v_sld C hX hbl h1 dL_law_879 ?_
  refine v_aload_n C dL_law_880 rfl (lv_at hl 0 rfl) ?_
  refine v_iload_n C dL_law_881 rfl (lv_at hl 3 rfl) ?_
  refine v_iconst (v := 2) C dL_law_882 (by decide) ?_
  refine v_iadd C dL_law_883 ?_
  refine v_sld C hX hbl h2 dL_law_884 ?_
  refine v_aload_n C dL_law_885 rfl (lv_at hl 0 rfl) ?_
  refine v_iload_n C dL_law_886 rfl (lv_at hl 3 rfl) ?_
  refine v_iconst (v := 3) C dL_law_887 (by decide) ?_
  refine v_iadd C dL_law_888 ?_
  refine v_sld C hX hbl h3 dL_law_889 ?_
  refine v_calli C (c_X7_slow l g t (xs (ix (nI i + 1))) (xs (ix (nI i + 2))) (xs (ix (nI i + 3)))) (cwV 3 C.2.2.2.2.1 gL_law_X7_slow rfl rfl rfl hv_X7_slow ⟨Nat.le_of_ble_eq_true rfl, Nat.le_of_ble_eq_true rfl⟩) k_0 rfl rfl rfl rfl hl.1 rfl (Nat.le_of_ble_eq_true rfl) dL_law_890 ⟨Nat.le_of_ble_eq_true rfl, Nat.le_of_ble_eq_true rfl⟩ ?_
  refine v_aload_n C dL_law_893 rfl (lv_at hl 2 rfl) ?_
  refine v_aload_n C dL_law_894 rfl (lv_at hl 0 rfl) ?_
  refine v_iload_n C dL_law_895 rfl (lv_at hl 3 rfl) ?_
  refine v_iconst (v := 1) C dL_law_896 (by decide) ?_
  refine v_iadd C dL_law_897 ?_
  refine v_sld C hX hbl h1 dL_law_898 ?_
  refine v_aload_n C dL_law_899 rfl (lv_at hl 0 rfl) ?_
  refine v_iload_n C dL_law_900 rfl (lv_at hl 3 rfl) ?_
  refine v_iconst (v := 2) C dL_law_901 (by decide) ?_
  refine v_iadd C dL_law_902 ?_
  refine v_sld C hX hbl h2 dL_law_903 ?_
  refine v_aload_n C dL_law_904 rfl (lv_at hl 0 rfl) ?_
  refine v_iload_n C dL_law_905 rfl (lv_at hl 3 rfl) ?_
  refine v_iconst (v := 3) C dL_law_906 (by decide) ?_
  refine v_iadd C dL_law_907 ?_
  refine v_sld C hX hbl h3 dL_law_908 ?_
  refine v_calli C (c_X8_slow l g (X7_slow_s (xs (ix (nI i + 1))) (xs (ix (nI i + 2))) (xs (ix (nI i + 3))) t) (xs (ix (nI i + 1))) (xs (ix (nI i + 2))) (xs (ix (nI i + 3)))) (cwV 3 C.2.2.2.2.1 gL_law_X8_slow rfl rfl rfl hv_X8_slow ⟨Nat.le_of_ble_eq_true rfl, Nat.le_of_ble_eq_true rfl⟩) k_30 rfl rfl rfl rfl hl.1 rfl (Nat.le_of_ble_eq_true rfl) dL_law_909 ⟨Nat.le_of_ble_eq_true rfl, Nat.le_of_ble_eq_true rfl⟩ ?_
  refine v_icmp_eq (tgt := 963) C dL_law_912 (by decide) (fun _ => ?_) (fun h => absurd (op_slow t (xs (ix (nI i + 1))) (xs (ix (nI i + 2))) (xs (ix (nI i + 3))) hJ).1 h)
  exact K _ (op_slow t (xs (ix (nI i + 1))) (xs (ix (nI i + 2))) (xs (ix (nI i + 3))) hJ).2 ls hl
set_option maxHeartbeats 4000000 in
set_option maxRecDepth 100000 in
theorem lc_crossed {p : Program} {l : Launch} {e : Env} {s : State} {m : MethodId} {below : List Frame} {meth : Method} {c : Code} {g : ct_G} {b L : Nat} {xs : Nat → Int32} (C : Cx p s m #[Value.ref b] c (fun q : Nat => s.heap.size ≤ q) g cL_law RL wsL_law 4) (hX : va_X b L xs s s.heap) (hbl : b < s.heap.size) {i : Nat} (h1 : vp_in (nI i + 1) L) (t : ct_St) (hJ : J t) (K : ∀ u, J u → ∀ ls, lv_has ls 4 [(0, .ref b), (1, .ref (g.2.1 0)), (2, .ref (g.2.1 30)), (3, .int (nI i))] → VW p l e room_1 s m #[Value.ref b] below meth c 68 499 (lw_Z below #[Value.ref b] s) (fun q : Nat => s.heap.size ≤ q) g shG u (F0 m 963 ls [])) (ls : Array Slot) (hl : lv_has ls 4 [(0, .ref b), (1, .ref (g.2.1 0)), (2, .ref (g.2.1 30)), (3, .int (nI i))]) : VW p l e room_1 s m #[Value.ref b] below meth c 68 499 (lw_Z below #[Value.ref b] s) (fun q : Nat => s.heap.size ≤ q) g shG t (F0 m 917 ls []) := by
  refine v_aload_n C dL_law_917 rfl (lv_at hl 1 rfl) ?_
  refine v_aload_n C dL_law_918 rfl (lv_at hl 0 rfl) ?_
  refine v_iload_n C dL_law_919 rfl (lv_at hl 3 rfl) ?_
  refine v_iconst (v := 1) C dL_law_920 (by decide) ?_
  refine v_iadd C dL_law_921 ?_
  refine v_sld C hX hbl h1 dL_law_922 ?_
  refine v_calli C (c_X7_crossed l g t (xs (ix (nI i + 1)))) (cwV 1 C.2.2.2.2.1 gL_law_X7_crossed rfl rfl rfl hv_X7_crossed ⟨Nat.le_of_ble_eq_true rfl, Nat.le_of_ble_eq_true rfl⟩) k_0 rfl rfl rfl rfl hl.1 rfl (Nat.le_of_ble_eq_true rfl) dL_law_923 ⟨Nat.le_of_ble_eq_true rfl, Nat.le_of_ble_eq_true rfl⟩ ?_
  refine v_aload_n C dL_law_926 rfl (lv_at hl 2 rfl) ?_
  refine v_aload_n C dL_law_927 rfl (lv_at hl 0 rfl) ?_
  refine v_iload_n C dL_law_928 rfl (lv_at hl 3 rfl) ?_
  refine v_iconst (v := 1) C dL_law_929 (by decide) ?_
  refine v_iadd C dL_law_930 ?_
  refine v_sld C hX hbl h1 dL_law_931 ?_
  refine v_calli C (c_X8_crossed l g t (xs (ix (nI i + 1)))) (cwV 1 C.2.2.2.2.1 gL_law_X8_crossed rfl rfl rfl hv_X8_crossed ⟨Nat.le_of_ble_eq_true rfl, Nat.le_of_ble_eq_true rfl⟩) k_30 rfl rfl rfl rfl hl.1 rfl (Nat.le_of_ble_eq_true rfl) dL_law_932 ⟨Nat.le_of_ble_eq_true rfl, Nat.le_of_ble_eq_true rfl⟩ ?_
  refine v_icmp_eq (tgt := 963) C dL_law_935 (by decide) (fun _ => ?_) (fun h => absurd (op_crossed t (xs (ix (nI i + 1))) hJ) h)
  exact K _ hJ ls hl
set_option maxHeartbeats 4000000 in
set_option maxRecDepth 100000 in
theorem lc_many {p : Program} {l : Launch} {e : Env} {s : State} {m : MethodId} {below : List Frame} {meth : Method} {c : Code} {g : ct_G} {b L : Nat} {xs : Nat → Int32} (C : Cx p s m #[Value.ref b] c (fun q : Nat => s.heap.size ≤ q) g cL_law RL wsL_law 4) (hX : va_X b L xs s s.heap) (hbl : b < s.heap.size) {i : Nat} (h1 : vp_in (nI i + 1) L) (t : ct_St) (hJ : J t) (K : ∀ u, J u → ∀ ls, lv_has ls 4 [(0, .ref b), (1, .ref (g.2.1 0)), (2, .ref (g.2.1 30)), (3, .int (nI i))] → VW p l e room_1 s m #[Value.ref b] below meth c 68 499 (lw_Z below #[Value.ref b] s) (fun q : Nat => s.heap.size ≤ q) g shG u (F0 m 963 ls [])) (ls : Array Slot) (hl : lv_has ls 4 [(0, .ref b), (1, .ref (g.2.1 0)), (2, .ref (g.2.1 30)), (3, .int (nI i))]) : VW p l e room_1 s m #[Value.ref b] below meth c 68 499 (lw_Z below #[Value.ref b] s) (fun q : Nat => s.heap.size ≤ q) g shG t (F0 m 940 ls []) := by
  refine v_aload_n C dL_law_940 rfl (lv_at hl 1 rfl) ?_
  refine v_aload_n C dL_law_941 rfl (lv_at hl 0 rfl) ?_
  refine v_iload_n C dL_law_942 rfl (lv_at hl 3 rfl) ?_
  refine v_iconst (v := 1) C dL_law_943 (by decide) ?_
  refine v_iadd C dL_law_944 ?_
  refine v_sld C hX hbl h1 dL_law_945 ?_
  refine v_calli C (c_X7_many l g t (xs (ix (nI i + 1)))) (cwV 1 C.2.2.2.2.1 gL_law_X7_many rfl rfl rfl hv_X7_many ⟨Nat.le_of_ble_eq_true rfl, Nat.le_of_ble_eq_true rfl⟩) k_0 rfl rfl rfl rfl hl.1 rfl (Nat.le_of_ble_eq_true rfl) dL_law_946 ⟨Nat.le_of_ble_eq_true rfl, Nat.le_of_ble_eq_true rfl⟩ ?_
  refine v_aload_n C dL_law_949 rfl (lv_at hl 2 rfl) ?_
  refine v_aload_n C dL_law_950 rfl (lv_at hl 0 rfl) ?_
  refine v_iload_n C dL_law_951 rfl (lv_at hl 3 rfl) ?_
  refine v_iconst (v := 1) C dL_law_952 (by decide) ?_
  refine v_iadd C dL_law_953 ?_
  refine v_sld C hX hbl h1 dL_law_954 ?_
  refine v_calli C (c_X8_many l g t (xs (ix (nI i + 1)))) (cwV 1 C.2.2.2.2.1 gL_law_X8_many rfl rfl rfl hv_X8_many ⟨Nat.le_of_ble_eq_true rfl, Nat.le_of_ble_eq_true rfl⟩) k_30 rfl rfl rfl rfl hl.1 rfl (Nat.le_of_ble_eq_true rfl) dL_law_955 ⟨Nat.le_of_ble_eq_true rfl, Nat.le_of_ble_eq_true rfl⟩ ?_
  refine v_icmp_eq (tgt := 963) C dL_law_958 (by decide) (fun _ => ?_) (fun h => absurd (op_many t (xs (ix (nI i + 1))) hJ) h)
  exact K _ hJ ls hl
set_option maxHeartbeats 4000000 in
set_option maxRecDepth 100000 in
/-- the law's loop: at its head the two objects agree -/
theorem law_loop {p : Program} {l : Launch} {e : Env} {s : State} {m : MethodId} {below : List Frame} {meth : Method} {c : Code} {g : ct_G} {b L : Nat} {xs : Nat → Int32} (C : Cx p s m #[Value.ref b] c (fun q : Nat => s.heap.size ≤ q) g cL_law RL wsL_law 4) (hX : va_X b L xs s s.heap) (hbl : b < s.heap.size) (hL : L ≤ 2560) (hr : meth.sig.returnType = ret) (hlocks : meth.locks = false) : ∀ (n i : Nat) (t : ct_St), i ≤ L → L + 5 ≤ i + 5 * n → J t → ∀ ls : Array Slot, lv_has ls 4 [(0, .ref b), (1, .ref (g.2.1 0)), (2, .ref (g.2.1 30)), (3, .int (nI i))] → VW p l e room_1 s m #[Value.ref b] below meth c 68 499 (lw_Z below #[Value.ref b] s) (fun q : Nat => s.heap.size ≤ q) g shG t (F0 m 18 ls []) := by
  intro n
  induction n with
  | zero =>
    intro i t h1 h2
    omega
  | succ n ih =>
    intro i t hi hn hJ ls hl
    have e5 : (nI L - 5).toInt = (L : Int) - 5 := pk_sub_toInt (b := 5) (by omega) (by decide)
    refine v_iload_n C dL_law_18 rfl (lv_at hl 3 rfl) ?_
    refine v_aload_n C dL_law_19 rfl (lv_at hl 0 rfl) ?_
    refine v_slen C hX hbl dL_law_20 ?_
    refine v_iconst (v := 5) C dL_law_21 (by decide) ?_
    refine v_isub C dL_law_22 ?_
    refine v_icmp_gt (tgt := 969) C dL_law_23 (by decide) (fun _ => ?_) (fun cg => ?_)
    · refine v_iconst (v := 1) C dL_law_969 (by decide) ?_
      intro H locs hP hD hS
      refine va_forget (fun q hq => hS.2.2 q hq) ?_
      refine W.widen (k := 622689) (n := 7234182) (Nat.le_of_ble_eq_true rfl) (Nat.le_of_ble_eq_true rfl) ?_
      exact lw_ret C.1 C.2.1 hr hlocks dL_law_970
    · have hle : i + 5 ≤ L := by
        have cg : ¬ nI L - 5 < nI i := cg
        rw [Int32.lt_iff_toInt_lt, e5, nI_toInt (by omega)] at cg
        omega
      have h0 : vp_in (nI i) L := vp_in_nI (by omega) (by omega)
      have h1 : vp_in (nI i + 1) L := by rw [show nI i + 1 = nI (i + 1) from nI_add i 1]; exact vp_in_nI (by omega) (by omega)
      have h2 : vp_in (nI i + 2) L := by rw [show nI i + 2 = nI (i + 2) from nI_add i 2]; exact vp_in_nI (by omega) (by omega)
      have h3 : vp_in (nI i + 3) L := by rw [show nI i + 3 = nI (i + 3) from nI_add i 3]; exact vp_in_nI (by omega) (by omega)
      have h4 : vp_in (nI i + 4) L := by rw [show nI i + 4 = nI (i + 4) from nI_add i 4]; exact vp_in_nI (by omega) (by omega)
      have K : ∀ u, J u → ∀ ls, lv_has ls 4 [(0, .ref b), (1, .ref (g.2.1 0)), (2, .ref (g.2.1 30)), (3, .int (nI i))] → VW p l e room_1 s m #[Value.ref b] below meth c 68 499 (lw_Z below #[Value.ref b] s) (fun q : Nat => s.heap.size ≤ q) g shG u (F0 m 963 ls []) := by
        intro u hu ls hl
        refine v_iinc (k0 := 3) (v := nI i + 5) (lv' := [(3, _), (0, _), (1, _), (2, _)]) C dL_law_963 hl rfl rfl (by decide) rfl (fun ls hl => ?_)
        refine v_goto (tgt := 18) C dL_law_966 (by decide) ?_
        have hl2 := lv_sub hl [1, 2, 3, 0] rfl
        rw [show nI i + 5 = nI (i + 5) from nI_add i 5] at hl2
        exact ih (i + 5) u (by omega) (by omega) hu ls hl2
      refine v_aload_n C dL_law_26 rfl (lv_at hl 0 rfl) ?_
      refine v_iload_n C dL_law_27 rfl (lv_at hl 3 rfl) ?_
      refine v_sld C hX hbl h0 dL_law_28 ?_
      refine v_bipush (v := 31) C dL_law_29 (by decide) ?_
      refine v_iand C dL_law_31 ?_
      refine v_by (v := 0) (fun c_0 => ?_) (fun c_0 => ?_)
      · refine v_tabIn (off := 116) (tgt := 148) C dL_law_32 c_0 (by decide) (by decide) (by decide) (by decide) ?_
        exact lc_counter C hX hbl h1 h2 h3 h4 t hJ K ls hl
      refine v_by (v := 1) (fun c_1 => ?_) (fun c_1 => ?_)
      · refine v_tabIn (off := 169) (tgt := 201) C dL_law_32 c_1 (by decide) (by decide) (by decide) (by decide) ?_
        exact lc_source C hX hbl h1 h2 t hJ K ls hl
      refine v_by (v := 2) (fun c_2 => ?_) (fun c_2 => ?_)
      · refine v_tabIn (off := 202) (tgt := 234) C dL_law_32 c_2 (by decide) (by decide) (by decide) (by decide) ?_
        exact lc_count C hX hbl h1 h2 t hJ K ls hl
      refine v_by (v := 3) (fun c_3 => ?_) (fun c_3 => ?_)
      · refine v_tabIn (off := 235) (tgt := 267) C dL_law_32 c_3 (by decide) (by decide) (by decide) (by decide) ?_
        exact lc_top C hX hbl h1 h2 t hJ K ls hl
      refine v_by (v := 4) (fun c_4 => ?_) (fun c_4 => ?_)
      · refine v_tabIn (off := 268) (tgt := 300) C dL_law_32 c_4 (by decide) (by decide) (by decide) (by decide) ?_
        exact lc_ofCounter C hX hbl h1 h2 t hJ K ls hl
      refine v_by (v := 5) (fun c_5 => ?_) (fun c_5 => ?_)
      · refine v_tabIn (off := 301) (tgt := 333) C dL_law_32 c_5 (by decide) (by decide) (by decide) (by decide) ?_
        exact lc_input C hX hbl h1 h2 t hJ K ls hl
      refine v_by (v := 6) (fun c_6 => ?_) (fun c_6 => ?_)
      · refine v_tabIn (off := 334) (tgt := 366) C dL_law_32 c_6 (by decide) (by decide) (by decide) (by decide) ?_
        exact lc_filter C hX hbl h1 h2 t hJ K ls hl
      refine v_by (v := 7) (fun c_7 => ?_) (fun c_7 => ?_)
      · refine v_tabIn (off := 367) (tgt := 399) C dL_law_32 c_7 (by decide) (by decide) (by decide) (by decide) ?_
        exact lc_ofInput C hX hbl h1 h2 t hJ K ls hl
      refine v_by (v := 8) (fun c_8 => ?_) (fun c_8 => ?_)
      · refine v_tabIn (off := 400) (tgt := 432) C dL_law_32 c_8 (by decide) (by decide) (by decide) (by decide) ?_
        exact lc_catcher C hX hbl h1 h2 h3 h4 t hJ K ls hl
      refine v_by (v := 9) (fun c_9 => ?_) (fun c_9 => ?_)
      · refine v_tabIn (off := 453) (tgt := 485) C dL_law_32 c_9 (by decide) (by decide) (by decide) (by decide) ?_
        exact lc_taken C hX hbl h1 t hJ K ls hl
      refine v_by (v := 10) (fun c_10 => ?_) (fun c_10 => ?_)
      · refine v_tabIn (off := 476) (tgt := 508) C dL_law_32 c_10 (by decide) (by decide) (by decide) (by decide) ?_
        exact lc_ofCatcher C hX hbl h1 h2 t hJ K ls hl
      refine v_by (v := 11) (fun c_11 => ?_) (fun c_11 => ?_)
      · refine v_tabIn (off := 509) (tgt := 541) C dL_law_32 c_11 (by decide) (by decide) (by decide) (by decide) ?_
        exact lc_ticks C hX hbl h1 t hJ K ls hl
      refine v_by (v := 12) (fun c_12 => ?_) (fun c_12 => ?_)
      · refine v_tabIn (off := 532) (tgt := 564) C dL_law_32 c_12 (by decide) (by decide) (by decide) (by decide) ?_
        exact lc_channel C hX hbl h1 h2 h3 h4 t hJ K ls hl
      refine v_by (v := 13) (fun c_13 => ?_) (fun c_13 => ?_)
      · refine v_tabIn (off := 585) (tgt := 617) C dL_law_32 c_13 (by decide) (by decide) (by decide) (by decide) ?_
        exact lc_outputs C hX hbl h1 h2 h3 h4 t hJ K ls hl
      refine v_by (v := 14) (fun c_14 => ?_) (fun c_14 => ?_)
      · refine v_tabIn (off := 638) (tgt := 670) C dL_law_32 c_14 (by decide) (by decide) (by decide) (by decide) ?_
        exact lc_ofChannel C hX hbl h1 h2 t hJ K ls hl
      refine v_by (v := 15) (fun c_15 => ?_) (fun c_15 => ?_)
      · refine v_tabIn (off := 671) (tgt := 703) C dL_law_32 c_15 (by decide) (by decide) (by decide) (by decide) ?_
        exact lc_pin C hX hbl h1 t hJ K ls hl
      refine v_by (v := 16) (fun c_16 => ?_) (fun c_16 => ?_)
      · refine v_tabIn (off := 694) (tgt := 726) C dL_law_32 c_16 (by decide) (by decide) (by decide) (by decide) ?_
        exact lc_brake C hX hbl t hJ K ls hl
      refine v_by (v := 17) (fun c_17 => ?_) (fun c_17 => ?_)
      · refine v_tabIn (off := 707) (tgt := 739) C dL_law_32 c_17 (by decide) (by decide) (by decide) (by decide) ?_
        exact lc_arm C hX hbl t hJ K ls hl
      refine v_by (v := 18) (fun c_18 => ?_) (fun c_18 => ?_)
      · refine v_tabIn (off := 720) (tgt := 752) C dL_law_32 c_18 (by decide) (by decide) (by decide) (by decide) ?_
        exact lc_record C hX hbl h1 h2 t hJ K ls hl
      refine v_by (v := 19) (fun c_19 => ?_) (fun c_19 => ?_)
      · refine v_tabIn (off := 753) (tgt := 785) C dL_law_32 c_19 (by decide) (by decide) (by decide) (by decide) ?_
        exact lc_holds C hX hbl h1 h2 t hJ K ls hl
      refine v_by (v := 20) (fun c_20 => ?_) (fun c_20 => ?_)
      · refine v_tabIn (off := 786) (tgt := 818) C dL_law_32 c_20 (by decide) (by decide) (by decide) (by decide) ?_
        exact lc_read C hX hbl h1 h2 t hJ K ls hl
      refine v_by (v := 21) (fun c_21 => ?_) (fun c_21 => ?_)
      · refine v_tabIn (off := 819) (tgt := 851) C dL_law_32 c_21 (by decide) (by decide) (by decide) (by decide) ?_
        exact lc_wide C hX hbl h1 t hJ K ls hl
      refine v_by (v := 22) (fun c_22 => ?_) (fun c_22 => ?_)
      · refine v_tabIn (off := 842) (tgt := 874) C dL_law_32 c_22 (by decide) (by decide) (by decide) (by decide) ?_
        exact lc_slow C hX hbl h1 h2 h3 t hJ K ls hl
      refine v_by (v := 23) (fun c_23 => ?_) (fun c_23 => ?_)
      · refine v_tabIn (off := 885) (tgt := 917) C dL_law_32 c_23 (by decide) (by decide) (by decide) (by decide) ?_
        exact lc_crossed C hX hbl h1 t hJ K ls hl
      refine v_by (v := 24) (fun c_24 => ?_) (fun c_24 => ?_)
      · refine v_tabIn (off := 908) (tgt := 940) C dL_law_32 c_24 (by decide) (by decide) (by decide) (by decide) ?_
        exact lc_many C hX hbl h1 t hJ K ls hl
      refine v_tabOut (tgt := 963) C dL_law_32 (by have h0 := lv_neT (a := 0) c_0 (by decide); have h1 := lv_neT (a := 1) c_1 (by decide); have h2 := lv_neT (a := 2) c_2 (by decide); have h3 := lv_neT (a := 3) c_3 (by decide); have h4 := lv_neT (a := 4) c_4 (by decide); have h5 := lv_neT (a := 5) c_5 (by decide); have h6 := lv_neT (a := 6) c_6 (by decide); have h7 := lv_neT (a := 7) c_7 (by decide); have h8 := lv_neT (a := 8) c_8 (by decide); have h9 := lv_neT (a := 9) c_9 (by decide); have h10 := lv_neT (a := 10) c_10 (by decide); have h11 := lv_neT (a := 11) c_11 (by decide); have h12 := lv_neT (a := 12) c_12 (by decide); have h13 := lv_neT (a := 13) c_13 (by decide); have h14 := lv_neT (a := 14) c_14 (by decide); have h15 := lv_neT (a := 15) c_15 (by decide); have h16 := lv_neT (a := 16) c_16 (by decide); have h17 := lv_neT (a := 17) c_17 (by decide); have h18 := lv_neT (a := 18) c_18 (by decide); have h19 := lv_neT (a := 19) c_19 (by decide); have h20 := lv_neT (a := 20) c_20 (by decide); have h21 := lv_neT (a := 21) c_21 (by decide); have h22 := lv_neT (a := 22) c_22 (by decide); have h23 := lv_neT (a := 23) c_23 (by decide); have h24 := lv_neT (a := 24) c_24 (by decide); omega) (by decide) ?_
      exact K t hJ ls hl
