set_option maxHeartbeats 8000000 in
set_option maxRecDepth 100000 in
theorem whole_start {p : Program} {e : Env} {s : State} {m : MethodId} {below : List Frame} {meth : Method} {c : Code} (l : Launch) (hflags : l.flags = flags0) {b L : Nat} {xs : Nat → Int32} (hL : L ≤ 2560) (C0 : lw_At p s m meth c b L xs) : W p l e room_1 s m #[Value.ref b] below meth c s.heap [] 0 0 (lw_Z below #[Value.ref b] s) (entryFrame m ([Value.ref b] : List Value).toArray 4) := by
  obtain ⟨hx, hb, hr, hml, hown, hts, hX, hbl, hlocks, hgv⟩ := id C0
  obtain ⟨c0, iS0, hKn0⟩ := u_known (C := RX0) (T := TX0) (N := 7) (n := 7) hts inX0 (hts _ im_0)
  obtain ⟨c1, iS1, hKn1⟩ := u_known (C := RX1) (T := TX1) (N := 8) (n := 8) hts inX1 (hts _ im_1)
  obtain ⟨c2, iS2, hKn2⟩ := u_known (C := RX2) (T := TX2) (N := 11) (n := 11) hts inX2 (hts _ im_2)
  obtain ⟨c3, iS3, hKn3⟩ := u_known (C := RX3) (T := TX3) (N := 5) (n := 5) hts inX3 (hts _ im_3)
  obtain ⟨c4, iS4, hKn4⟩ := u_known (C := RX4) (T := TX4) (N := 2) (n := 2) hts inX4 (hts _ im_4)
  obtain ⟨c5, iS5, hKn5⟩ := u_known (C := RX5) (T := TX5) (N := 6) (n := 6) hts inX5 (hts _ im_5)
  obtain ⟨c6, iS6, hKn6⟩ := u_known (C := RX6) (T := TX6) (N := 5) (n := 5) hts inX6 (hts _ im_6)
  obtain ⟨c7, iS7, hKn7⟩ := u_known (C := RX7) (T := TX7) (N := 9) (n := 9) hts inX7 (hts _ im_7)
  obtain ⟨c8, iS8, hKn8⟩ := u_known (C := RX8) (T := TX8) (N := 45) (n := 45) hts inX8 (hts _ im_8)
  obtain ⟨dC, dI, hKc⟩ : ∃ (dC : Nat → ClassId) (dI : Nat → Nat → Nat), ∀ (k : Nat) (q : vw_C), vwCl[k]? = some q → u_Kn s q.1 q.2.1 q.2.2 (dC k) (dI k) := by
    refine ⟨fun k => match k with | 0 => c0 | 1 => c1 | 2 => c2 | 3 => c3 | 4 => c4 | 5 => c5 | 6 => c6 | 7 => c7 | _ => c8, fun k => match k with | 0 => iS0 | 1 => iS1 | 2 => iS2 | 3 => iS3 | 4 => iS4 | 5 => iS5 | 6 => iS6 | 7 => iS7 | _ => iS8, ?_⟩
    intro k q hq
    match k, hq with
    | 0, hq => cases hq; exact hKn0
    | 1, hq => cases hq; exact hKn1
    | 2, hq => cases hq; exact hKn2
    | 3, hq => cases hq; exact hKn3
    | 4, hq => cases hq; exact hKn4
    | 5, hq => cases hq; exact hKn5
    | 6, hq => cases hq; exact hKn6
    | 7, hq => cases hq; exact hKn7
    | 8, hq => cases hq; exact hKn8
    | k + 9, hq => simp [vwCl] at hq
  obtain ⟨y0, ya0, yb0⟩ := ct_arrP (hts _ ac_0) (fun u => Iff.rfl)
  obtain ⟨y1, ya1, yb1⟩ := ct_arrP (hts _ ac_1) (fun u => Iff.rfl)
  obtain ⟨y2, ya2, yb2⟩ := ct_arrO (hts _ ao_0)
  obtain ⟨y3, ya3, yb3⟩ := ct_arrO (hts _ ao_1)
  obtain ⟨y4, ya4, yb4⟩ := ct_arrO (hts _ ao_2)
  obtain ⟨y5, ya5, yb5⟩ := ct_arrO (hts _ ao_3)
  obtain ⟨y6, ya6, yb6⟩ := ct_arrO (hts _ ao_4)
  obtain ⟨cA, hcA⟩ : ∃ cA : Nat → ClassId, va_K (dC, dI) vwCl (ct_ty ((dC, dI), (fun _ => 0), cA)) s := by
    refine ⟨fun k => match k with | 0 => y0 | 1 => y1 | 2 => y2 | 3 => y3 | 4 => y4 | 5 => y5 | _ => y6, hKc, ?_⟩
    intro k q hq
    match k, hq with
    | 0, hq => cases hq; exact ⟨ya0, yb0⟩
    | 1, hq => cases hq; exact ⟨ya1, yb1⟩
    | 2, hq => cases hq; exact ⟨ya2, yb2⟩
    | 3, hq => cases hq; exact ⟨ya3, yb3⟩
    | 4, hq => cases hq; exact ⟨ya4, yb4⟩
    | 5, hq => cases hq; exact ⟨ya5, yb5⟩
    | 6, hq => cases hq; exact ⟨ya6, yb6⟩
    | k + 7, hq => simp [ct_ty] at hq
  have hnx : ct_nx s := ⟨va_Nw.of rfl (hts _ nw_0), ⟨va_Nw.of rfl (hts _ nw_1), va_Nw.of rfl (hts _ nw_2), va_Nw.of rfl (hts _ nw_3), va_Nw.of rfl (hts _ nw_4), va_Nw.of rfl (hts _ nw_5), va_Nw.of rfl (hts _ nw_6), va_Nw.of rfl (hts _ nw_7)⟩, va_AO.of (hts _ ao_0), va_AO.of (hts _ ao_1), va_AO.of (hts _ ao_2), va_AO.of (hts _ ao_3), va_AO.of (hts _ ao_4)⟩
  have hA : ∀ q : Nat, s.heap.size ≤ q → (fun q : Nat => s.heap.size ≤ q) q := fun _ h => h
  have hts2 : ∀ w ∈ wsL_law, w.before #[Value.ref b] s = true := fun w h => hts w (wsL_law_in w h)
  have C : Cx p s m #[Value.ref b] c (fun q : Nat => s.heap.size ≤ q) ((dC, dI), (fun _ => 0), cA) cL_law RL wsL_law 4 := ⟨hx, hb, hml, hown, hts2, hcA, hA, hnx.1⟩
  have hP0 : va_P (dC, dI) vwCl [] s.heap := fun k q h => by simp at h
  have hD0 : va_D (fun q : Nat => s.heap.size ≤ q) [] := ⟨fun i j p q h => by simp at h, fun k q h => by simp at h⟩
  have hl := lv_entry ([.ref b]) (n := 4) (Nat.le_of_ble_eq_true rfl)
  rw [lg_entry_eq]
  generalize (lg_sl ([.ref b]) ++ List.replicate (4 - (lg_sl ([.ref b])).length) Slot.unset).toArray = ls at hl ⊢
  have hl : lv_has ls 4 [(0, .ref b)] := hl
  refine (?_ : XW p l e room_1 s m #[Value.ref b] below meth c 0 0 (lw_Z below #[Value.ref b] s) (fun q : Nat => s.heap.size ≤ q) ((dC, dI), (fun _ => 0), cA) [] (F0 m 0 ls [])) s.heap [] hP0 hD0 va_S.rf
  refine x_new (ci := 7) (fs := [.null, .null, .null, .null, .null, .null, .null, .int 0, .int 0]) (w1 := fun q => [(q, .inr (7, [.null, .null, .null, .null, .null, .null, .null, .int 0, .int 0]))]) C inlX7 tyX7 tyX7_ok (C.w 0 rfl) (C.w 1 rfl) (C.w 2 rfl) rfl (fun j hj => by rcases (show j = 0 ∨ j = 1 ∨ j = 2 ∨ j = 3 ∨ j = 4 ∨ j = 5 ∨ j = 6 ∨ j = 7 ∨ j = 8 by omega) with rfl | rfl | rfl | rfl | rfl | rfl | rfl | rfl | rfl <;> rfl) ⟨Nat.le_of_ble_eq_true rfl, Nat.le_of_ble_eq_true rfl⟩ (fun q => rfl) dL_law_0 (fun q0 => ?_)
  refine x_dup C dL_law_3 rfl ?_
  refine x_callI (wr := []) C hnx (c_X7_init l ((dC, dI), (fun _ => 0), cA) q0) (cwI 0 C.2.2.2.2.1 gL_law_X7_init rfl rfl rfl (C.w 2 rfl) (C.w 6 rfl) (C.w 7 rfl) rfl hs_X7_init ⟨Nat.le_of_ble_eq_true rfl, Nat.le_of_ble_eq_true rfl⟩) [0] [] rfl rfl (by decide) (by decide) (by decide) hl.1 (Nat.le_of_ble_eq_true rfl) dL_law_4 ⟨Nat.le_of_ble_eq_true rfl, Nat.le_of_ble_eq_true rfl⟩ (fun w hw => ?_)
  obtain ⟨pp, hp0, rfl⟩ := hw
  subst hp0
  refine x_eq (w1 := (List.range 30).map (cellAt ((dC, dI), pp, cA))) rfl ?_
  refine x_astore_n (lv' := [(1, _), (0, _)]) C dL_law_7 rfl hl (by decide) rfl (fun ls hl => ?_)
  refine x_new (ci := 8) (fs := [.int 0, .null, .null, .null, .null, .null, .null, .null, .null, .null, .null, .null, .null, .null, .null, .null, .null, .null, .null, .null, .null, .null, .null, .null, .null, .null, .null, .null, .null, .null, .null, .null, .int 0, .null, .int 0, .null, .null, .null, .null, .null, .int 0, .int 0, .int 0, .int 0, .int 0]) (w1 := fun q => (List.range 30).map (cellAt ((dC, dI), pp, cA)) ++ [(q, .inr (8, [.int 0, .null, .null, .null, .null, .null, .null, .null, .null, .null, .null, .null, .null, .null, .null, .null, .null, .null, .null, .null, .null, .null, .null, .null, .null, .null, .null, .null, .null, .null, .null, .null, .int 0, .null, .int 0, .null, .null, .null, .null, .null, .int 0, .int 0, .int 0, .int 0, .int 0]))]) C inlX8 tyX8 tyX8_ok (C.w 3 rfl) (C.w 4 rfl) (C.w 5 rfl) rfl (fun j hj => by rcases (show j = 0 ∨ j = 1 ∨ j = 2 ∨ j = 3 ∨ j = 4 ∨ j = 5 ∨ j = 6 ∨ j = 7 ∨ j = 8 ∨ j = 9 ∨ j = 10 ∨ j = 11 ∨ j = 12 ∨ j = 13 ∨ j = 14 ∨ j = 15 ∨ j = 16 ∨ j = 17 ∨ j = 18 ∨ j = 19 ∨ j = 20 ∨ j = 21 ∨ j = 22 ∨ j = 23 ∨ j = 24 ∨ j = 25 ∨ j = 26 ∨ j = 27 ∨ j = 28 ∨ j = 29 ∨ j = 30 ∨ j = 31 ∨ j = 32 ∨ j = 33 ∨ j = 34 ∨ j = 35 ∨ j = 36 ∨ j = 37 ∨ j = 38 ∨ j = 39 ∨ j = 40 ∨ j = 41 ∨ j = 42 ∨ j = 43 ∨ j = 44 by omega) with rfl | rfl | rfl | rfl | rfl | rfl | rfl | rfl | rfl | rfl | rfl | rfl | rfl | rfl | rfl | rfl | rfl | rfl | rfl | rfl | rfl | rfl | rfl | rfl | rfl | rfl | rfl | rfl | rfl | rfl | rfl | rfl | rfl | rfl | rfl | rfl | rfl | rfl | rfl | rfl | rfl | rfl | rfl | rfl | rfl <;> rfl) ⟨Nat.le_of_ble_eq_true rfl, Nat.le_of_ble_eq_true rfl⟩ (fun q => rfl) dL_law_8 (fun q1 => ?_)
  refine x_dup C dL_law_11 rfl ?_
  refine x_callI (wr := (List.range 30).map (cellAt ((dC, dI), pp, cA))) C hnx (c_X8_init l ((dC, dI), (fun _ => 0), cA) q1) (cwI 0 C.2.2.2.2.1 gL_law_X8_init rfl rfl rfl (C.w 5 rfl) (C.w 78 rfl) (C.w 79 rfl) rfl hs_X8_init ⟨Nat.le_of_ble_eq_true rfl, Nat.le_of_ble_eq_true rfl⟩) [30] [0, 1, 2, 3, 4, 5, 6, 7, 8, 9, 10, 11, 12, 13, 14, 15, 16, 17, 18, 19, 20, 21, 22, 23, 24, 25, 26, 27, 28, 29] rfl rfl (by decide) (by decide) (by decide) hl.1 (Nat.le_of_ble_eq_true rfl) dL_law_12 ⟨Nat.le_of_ble_eq_true rfl, Nat.le_of_ble_eq_true rfl⟩ (fun w hw => ?_)
  obtain ⟨qq, hq0, rfl⟩ := hw
  subst hq0
  refine x_eq (w_app (dC, dI) pp qq cA) ?_
  refine x_astore_n (lv' := [(2, _), (1, _), (0, _)]) C dL_law_15 rfl hl (by decide) rfl (fun ls hl => ?_)
  refine x_iconst (v := 0) C dL_law_16 (by decide) ?_
  refine x_istore_n (lv' := [(3, _), (2, _), (1, _), (0, _)]) C dL_law_17 rfl hl (by decide) rfl (fun ls hl => ?_)
  have C2 : Cx p s m #[Value.ref b] c (fun q : Nat => s.heap.size ≤ q) ((dC, dI), pj pp qq, cA) cL_law RL wsL_law 4 := C
  have e0 : pj pp qq 0 = pp 0 := rfl
  have e30 : pj pp qq 30 = qq 30 := rfl
  exact law_loop (g := ((dC, dI), pj pp qq, cA)) C2 hX hbl hL hr hlocks (L + 1) 0 t0 (Nat.zero_le L) (by omega) J_t0 ls (lv_sub hl [3, 2, 1, 0] rfl)
