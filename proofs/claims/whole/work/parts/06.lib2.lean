section CTW
variable {p : Program} {l : Launch} {e : Env} {R : Room} {s : State} {m : MethodId} {args : Array Value} {below : List Frame} {meth : Method} {c : Code} {cells slots : Nat} {Q : State → Prop} {A : Nat → Prop} {g : ct_G} {sh : List ct_K} {t : ct_St} {cc : ByteArray} {own : String} {ws : List Cond} {nL : Nat} {pc : Nat} {ls : Array Slot} {rest : List Value}
theorem v_lit {x v : Int32} (h : x = v) (k : VW p l e R s m args below meth c cells slots Q A g sh t (F0 m pc ls (.int v :: rest))) : VW p l e R s m args below meth c cells slots Q A g sh t (F0 m pc ls (.int x :: rest)) := by rw [h]; exact k
theorem v_by {x v : Int32} (k1 : x = v → VW p l e R s m args below meth c cells slots Q A g sh t (F0 m pc ls (.int x :: rest))) (k2 : ¬ x = v → VW p l e R s m args below meth c cells slots Q A g sh t (F0 m pc ls (.int x :: rest))) : VW p l e R s m args below meth c cells slots Q A g sh t (F0 m pc ls (.int x :: rest)) := (Classical.em (x = v)).elim k1 k2
theorem v_getF (C : Cx p s m args c A g cc own ws nL) {CC : String} {T : u_T} {N ci i j index : Nat} {fs : List (Option Nat)} {rf nm ds : String} {fb : Bool} {a : Nat} {f0 : Nat → Int32} (hin : ∀ w ∈ u_ws CC T N, w ∈ ws) (hk : sh[i]? = some (.inr (.inr (ci, fs)))) (ha : g.2.1 i = a) (hc : vwCl[ci]? = some (CC, T, N)) (hT : T j = (rf, nm, ds, fb)) (hjN : j < N) (hj : fs[j]? = some none) (hlink : (Cond.fieldLink own index rf nm ds).before args s = true) (d : decode cc pc = .ok (.getfield index, 3)) (k : VW p l e R s m args below meth c cells slots Q A g sh (ur t i f0) (F0 m (pc + 3) ls (.int (f0 j) :: rest))) : VW p l e R s m args below meth c cells slots Q A g sh (ur t i f0) (F0 m pc ls (.ref a :: rest)) := v_getI C hin hk ha hc hT hjN hj hlink d (by rw [ur_at]; exact k)
theorem v_getU {CC : String} {T : u_T} {N ci i j index : Nat} {fs : List (Option Nat)} {rf nm ds : String} {fb : Bool} {a : Nat} {i0 : Nat} {f0 : Nat → Int32} (hne : i ≠ i0) (C : Cx p s m args c A g cc own ws nL) (hin : ∀ w ∈ u_ws CC T N, w ∈ ws) (hk : sh[i]? = some (.inr (.inr (ci, fs)))) (ha : g.2.1 i = a) (hc : vwCl[ci]? = some (CC, T, N)) (hT : T j = (rf, nm, ds, fb)) (hjN : j < N) (hj : fs[j]? = some none) (hlink : (Cond.fieldLink own index rf nm ds).before args s = true) (d : decode cc pc = .ok (.getfield index, 3)) (k : VW p l e R s m args below meth c cells slots Q A g sh (ur t i0 f0) (F0 m (pc + 3) ls (.int (t i j) :: rest))) : VW p l e R s m args below meth c cells slots Q A g sh (ur t i0 f0) (F0 m pc ls (.ref a :: rest)) := v_getI C hin hk ha hc hT hjN hj hlink d (by rw [ur_ne _ _ hne]; exact k)
theorem v_putF (C : Cx p s m args c A g cc own ws nL) {CC : String} {T : u_T} {N ci i j index : Nat} {fs : List (Option Nat)} {rf nm ds : String} {a : Nat} {ty : FieldType} {v : Int32} {f0 : Nat → Int32} (hin : ∀ w ∈ u_ws CC T N, w ∈ ws) (ty0 : Nat → FieldType) (hty : ∀ k, k < N → parseFieldDescriptor (T k).2.2.1 = some (ty0 k)) (hnm : ∀ a, a < N → ∀ b, b < N → a ≠ b → (T a).2.1 ≠ (T b).2.1) (hk : sh[i]? = some (.inr (.inr (ci, fs)))) (ha : g.2.1 i = a) (hc : vwCl[ci]? = some (CC, T, N)) (hT : T j = (rf, nm, ds, false)) (hjN : j < N) (hj : fs[j]? = some none) (hlink : (Cond.fieldLink own index rf nm ds).before args s = true) (hd : ty0 j = ty) (hn : narrow ty (.int v) = .int v) (hf : fits ty (.int v) = true) (d : decode cc pc = .ok (.putfield index, 3)) (k : VW p l e R s m args below meth c cells slots Q A g sh (ur t i (upd f0 j v)) (F0 m (pc + 3) ls rest)) : VW p l e R s m args below meth c cells slots Q A g sh (ur t i f0) (F0 m pc ls (.int v :: .ref a :: rest)) := v_put C hin ty0 hty hnm hk ha hc hT hjN hj hlink hd hn hf d (by rw [us_ur]; exact k)
end CTW
theorem MI.un {l : Launch} {g : ct_G} {sh : List ct_K} {y : MethodName} {ws : List Cond} {rm : Room} {av : List Value} {t : ct_St} {i : Nat} {r : Int32} {u : ct_St} (h : MI l g sh y ws rm av (ur t i (t i)) r u) : MI l g sh y ws rm av t r u := by rw [ur_self] at h; exact h
theorem MV.un {l : Launch} {g : ct_G} {sh : List ct_K} {y : MethodName} {ws : List Cond} {rm : Room} {av : List Value} {t : ct_St} {i : Nat} {u : ct_St} (h : MV l g sh y ws rm av (ur t i (t i)) u) : MV l g sh y ws rm av t u := by rw [ur_self] at h; exact h
theorem us_ne {t : ct_St} {i k a : Nat} {v : Int32} (h : a ≠ i) : us t i k v a = t a := if_neg h
theorem us_at {t : ct_St} {i k : Nat} {v : Int32} : us t i k v i = upd (t i) k v := if_pos rfl
/-- a row of truth values -/
def bl (f : Nat → Int32) : Prop := ∀ j, f j = 0 ∨ f j = 1
theorem bl_up {f : Nat → Int32} {k : Nat} {v : Int32} (h : bl f) (hv : v = 0 ∨ v = 1) : bl (upd f k v) := by
  intro j
  unfold upd
  split
  · exact hv
  · exact h j
theorem nb_of {v : Int32} (h : v = 0 ∨ v = 1) : narrow .boolean (.int v) = .int v := by
  rcases h with h | h <;> subst h <;> rfl
theorem wi_in {a b : Int32} {n : Nat} (h1 : ¬ a < 0) (h2 : ¬ b < a) (hb : b.toInt + 1 = n) : vp_in a n := by
  rw [vp_in_iff]
  rw [Int32.lt_iff_toInt_lt] at h1 h2
  have e0 : (0 : Int32).toInt = 0 := by decide
  rw [e0] at h1
  omega
theorem wi_in2 {a b : Int32} {n : Nat} (h1 : ¬ a < 0) (h2 : ¬ b ≤ a) (hb : b.toInt = n) : vp_in a n := by
  rw [vp_in_iff]
  rw [Int32.lt_iff_toInt_lt] at h1
  rw [Int32.le_iff_toInt_le] at h2
  have e0 : (0 : Int32).toInt = 0 := by decide
  rw [e0] at h1
  omega
def fsX0 : List (Option Nat) := [none, none, none, none, none, none, none]
def fsX1 : List (Option Nat) := [none, none, none, none, none, none, none, none]
def fsX2 : List (Option Nat) := [none, none, none, none, none, none, none, none, none, none, none]
def fsX3 : List (Option Nat) := [none, none, none, none, none]
def fsX4 : List (Option Nat) := [none, none]
def fsX5 : List (Option Nat) := [some 8, some 9, some 10, some 11, none, none]
def fsX6 : List (Option Nat) := [none, none, none, none, none]
def fsX7 : List (Option Nat) := [some 1, some 2, some 3, some 4, some 5, some 6, some 7, none, none]
def fsX8 : List (Option Nat) := [none, some 31, some 32, some 33, some 34, some 35, some 36, some 37, some 38, some 39, some 40, some 41, some 42, some 43, some 44, some 45, some 46, some 47, some 48, some 49, some 50, some 51, some 52, some 53, some 54, some 55, some 56, some 57, some 58, some 59, some 60, some 61, none, some 62, none, some 63, some 64, some 65, some 66, some 67, none, none, none, none, none]
/-- the cells: the system's 0 .. 29, the reference's 30 .. 67 -/
def shG : List ct_K := [.inr (.inr (7, fsX7)), .inr (.inl (2, [12, 13, 14, 15])), .inr (.inl (3, [16, 17, 18, 19])), .inr (.inl (4, [20, 21, 22, 23])), .inr (.inl (5, [24, 25, 26, 27])), .inr (.inl (6, [28, 29])), .inr (.inr (5, fsX5)), .inr (.inr (6, fsX6)), .inl (0, 8), .inl (0, 24), .inl (0, 24), .inl (0, 24), .inr (.inr (2, fsX2)), .inr (.inr (2, fsX2)), .inr (.inr (2, fsX2)), .inr (.inr (2, fsX2)), .inr (.inr (3, fsX3)), .inr (.inr (3, fsX3)), .inr (.inr (3, fsX3)), .inr (.inr (3, fsX3)), .inr (.inr (0, fsX0)), .inr (.inr (0, fsX0)), .inr (.inr (0, fsX0)), .inr (.inr (0, fsX0)), .inr (.inr (1, fsX1)), .inr (.inr (1, fsX1)), .inr (.inr (1, fsX1)), .inr (.inr (1, fsX1)), .inr (.inr (4, fsX4)), .inr (.inr (4, fsX4)), .inr (.inr (8, fsX8)), .inl (0, 4), .inl (0, 4), .inl (0, 4), .inl (0, 4), .inl (0, 4), .inl (0, 4), .inl (0, 4), .inl (0, 4), .inl (0, 4), .inl (1, 4), .inl (1, 4), .inl (0, 4), .inl (0, 4), .inl (0, 4), .inl (0, 4), .inl (0, 4), .inl (0, 4), .inl (0, 4), .inl (0, 4), .inl (0, 4), .inl (0, 4), .inl (0, 4), .inl (0, 4), .inl (0, 4), .inl (0, 4), .inl (0, 4), .inl (0, 4), .inl (0, 4), .inl (0, 4), .inl (0, 4), .inl (0, 4), .inl (0, 8), .inl (0, 24), .inl (0, 24), .inl (0, 24), .inl (1, 2), .inl (0, 2)]
theorem k_0 : shG[0]? = some (.inr (.inr (7, fsX7))) := rfl
theorem k_1 : shG[1]? = some (.inr (.inl (2, [12, 13, 14, 15]))) := rfl
theorem k_2 : shG[2]? = some (.inr (.inl (3, [16, 17, 18, 19]))) := rfl
theorem k_3 : shG[3]? = some (.inr (.inl (4, [20, 21, 22, 23]))) := rfl
theorem k_4 : shG[4]? = some (.inr (.inl (5, [24, 25, 26, 27]))) := rfl
theorem k_5 : shG[5]? = some (.inr (.inl (6, [28, 29]))) := rfl
theorem k_6 : shG[6]? = some (.inr (.inr (5, fsX5))) := rfl
theorem k_7 : shG[7]? = some (.inr (.inr (6, fsX6))) := rfl
theorem k_8 : shG[8]? = some (.inl (0, 8)) := rfl
theorem k_9 : shG[9]? = some (.inl (0, 24)) := rfl
theorem k_10 : shG[10]? = some (.inl (0, 24)) := rfl
theorem k_11 : shG[11]? = some (.inl (0, 24)) := rfl
theorem k_12 : shG[12]? = some (.inr (.inr (2, fsX2))) := rfl
theorem k_13 : shG[13]? = some (.inr (.inr (2, fsX2))) := rfl
theorem k_14 : shG[14]? = some (.inr (.inr (2, fsX2))) := rfl
theorem k_15 : shG[15]? = some (.inr (.inr (2, fsX2))) := rfl
theorem k_16 : shG[16]? = some (.inr (.inr (3, fsX3))) := rfl
theorem k_17 : shG[17]? = some (.inr (.inr (3, fsX3))) := rfl
theorem k_18 : shG[18]? = some (.inr (.inr (3, fsX3))) := rfl
theorem k_19 : shG[19]? = some (.inr (.inr (3, fsX3))) := rfl
theorem k_20 : shG[20]? = some (.inr (.inr (0, fsX0))) := rfl
theorem k_21 : shG[21]? = some (.inr (.inr (0, fsX0))) := rfl
theorem k_22 : shG[22]? = some (.inr (.inr (0, fsX0))) := rfl
theorem k_23 : shG[23]? = some (.inr (.inr (0, fsX0))) := rfl
theorem k_24 : shG[24]? = some (.inr (.inr (1, fsX1))) := rfl
theorem k_25 : shG[25]? = some (.inr (.inr (1, fsX1))) := rfl
theorem k_26 : shG[26]? = some (.inr (.inr (1, fsX1))) := rfl
theorem k_27 : shG[27]? = some (.inr (.inr (1, fsX1))) := rfl
theorem k_28 : shG[28]? = some (.inr (.inr (4, fsX4))) := rfl
theorem k_29 : shG[29]? = some (.inr (.inr (4, fsX4))) := rfl
theorem k_30 : shG[30]? = some (.inr (.inr (8, fsX8))) := rfl
theorem k_31 : shG[31]? = some (.inl (0, 4)) := rfl
theorem k_32 : shG[32]? = some (.inl (0, 4)) := rfl
theorem k_33 : shG[33]? = some (.inl (0, 4)) := rfl
theorem k_34 : shG[34]? = some (.inl (0, 4)) := rfl
theorem k_35 : shG[35]? = some (.inl (0, 4)) := rfl
theorem k_36 : shG[36]? = some (.inl (0, 4)) := rfl
theorem k_37 : shG[37]? = some (.inl (0, 4)) := rfl
theorem k_38 : shG[38]? = some (.inl (0, 4)) := rfl
theorem k_39 : shG[39]? = some (.inl (0, 4)) := rfl
theorem k_40 : shG[40]? = some (.inl (1, 4)) := rfl
theorem k_41 : shG[41]? = some (.inl (1, 4)) := rfl
theorem k_42 : shG[42]? = some (.inl (0, 4)) := rfl
theorem k_43 : shG[43]? = some (.inl (0, 4)) := rfl
theorem k_44 : shG[44]? = some (.inl (0, 4)) := rfl
theorem k_45 : shG[45]? = some (.inl (0, 4)) := rfl
theorem k_46 : shG[46]? = some (.inl (0, 4)) := rfl
theorem k_47 : shG[47]? = some (.inl (0, 4)) := rfl
theorem k_48 : shG[48]? = some (.inl (0, 4)) := rfl
theorem k_49 : shG[49]? = some (.inl (0, 4)) := rfl
theorem k_50 : shG[50]? = some (.inl (0, 4)) := rfl
theorem k_51 : shG[51]? = some (.inl (0, 4)) := rfl
theorem k_52 : shG[52]? = some (.inl (0, 4)) := rfl
theorem k_53 : shG[53]? = some (.inl (0, 4)) := rfl
theorem k_54 : shG[54]? = some (.inl (0, 4)) := rfl
theorem k_55 : shG[55]? = some (.inl (0, 4)) := rfl
theorem k_56 : shG[56]? = some (.inl (0, 4)) := rfl
theorem k_57 : shG[57]? = some (.inl (0, 4)) := rfl
theorem k_58 : shG[58]? = some (.inl (0, 4)) := rfl
theorem k_59 : shG[59]? = some (.inl (0, 4)) := rfl
theorem k_60 : shG[60]? = some (.inl (0, 4)) := rfl
theorem k_61 : shG[61]? = some (.inl (0, 4)) := rfl
theorem k_62 : shG[62]? = some (.inl (0, 8)) := rfl
theorem k_63 : shG[63]? = some (.inl (0, 24)) := rfl
theorem k_64 : shG[64]? = some (.inl (0, 24)) := rfl
theorem k_65 : shG[65]? = some (.inl (0, 24)) := rfl
theorem k_66 : shG[66]? = some (.inl (1, 2)) := rfl
theorem k_67 : shG[67]? = some (.inl (0, 2)) := rfl
theorem k_cnt {j : Nat} (h : j < 4) : shG[12 + j]? = some (.inr (.inr (2, fsX2))) := by
  rcases (show j = 0 ∨ j = 1 ∨ j = 2 ∨ j = 3 by omega) with rfl | rfl | rfl | rfl <;> rfl
theorem q_cnt {j : Nat} (h : j < 4) : ([12, 13, 14, 15] : List Nat)[j]? = some (12 + j) := by
  rcases (show j = 0 ∨ j = 1 ∨ j = 2 ∨ j = 3 by omega) with rfl | rfl | rfl | rfl <;> rfl
theorem k_inp {j : Nat} (h : j < 4) : shG[16 + j]? = some (.inr (.inr (3, fsX3))) := by
  rcases (show j = 0 ∨ j = 1 ∨ j = 2 ∨ j = 3 by omega) with rfl | rfl | rfl | rfl <;> rfl
theorem q_inp {j : Nat} (h : j < 4) : ([16, 17, 18, 19] : List Nat)[j]? = some (16 + j) := by
  rcases (show j = 0 ∨ j = 1 ∨ j = 2 ∨ j = 3 by omega) with rfl | rfl | rfl | rfl <;> rfl
theorem k_cat {j : Nat} (h : j < 4) : shG[20 + j]? = some (.inr (.inr (0, fsX0))) := by
  rcases (show j = 0 ∨ j = 1 ∨ j = 2 ∨ j = 3 by omega) with rfl | rfl | rfl | rfl <;> rfl
theorem q_cat {j : Nat} (h : j < 4) : ([20, 21, 22, 23] : List Nat)[j]? = some (20 + j) := by
  rcases (show j = 0 ∨ j = 1 ∨ j = 2 ∨ j = 3 by omega) with rfl | rfl | rfl | rfl <;> rfl
theorem k_chn {j : Nat} (h : j < 4) : shG[24 + j]? = some (.inr (.inr (1, fsX1))) := by
  rcases (show j = 0 ∨ j = 1 ∨ j = 2 ∨ j = 3 by omega) with rfl | rfl | rfl | rfl <;> rfl
theorem q_chn {j : Nat} (h : j < 4) : ([24, 25, 26, 27] : List Nat)[j]? = some (24 + j) := by
  rcases (show j = 0 ∨ j = 1 ∨ j = 2 ∨ j = 3 by omega) with rfl | rfl | rfl | rfl <;> rfl
theorem k_par {j : Nat} (h : j < 2) : shG[28 + j]? = some (.inr (.inr (4, fsX4))) := by
  rcases (show j = 0 ∨ j = 1 by omega) with rfl | rfl <;> rfl
theorem q_par {j : Nat} (h : j < 2) : ([28, 29] : List Nat)[j]? = some (28 + j) := by
  rcases (show j = 0 ∨ j = 1 by omega) with rfl | rfl <;> rfl
def rmd (d : Nat) : Room := { frames := d, cells := 0, slots := 0, locals := 26 * d }
theorem vp_lt {x : Int32} {n : Nat} (h : vp_in x n) : ix x < n := Nat.not_le.mp fun q => h (Or.inr q)
theorem vp_nle {x : Int32} {n : Nat} {y : Int32} (h : vp_in x n) (hy : y.toInt = n) : ¬ y ≤ x := by
  obtain ⟨h1, h2⟩ := vp_in_iff.mp h
  rw [Int32.le_iff_toInt_le, hy]
  omega
theorem vl_0_2 : vp_in (0 : Int32) 2 := by unfold vp_in; decide
theorem vl_1_2 : vp_in (1 : Int32) 2 := by unfold vp_in; decide
theorem vl_0_4 : vp_in (0 : Int32) 4 := by unfold vp_in; decide
theorem vl_1_4 : vp_in (1 : Int32) 4 := by unfold vp_in; decide
theorem vl_2_4 : vp_in (2 : Int32) 4 := by unfold vp_in; decide
theorem vl_3_4 : vp_in (3 : Int32) 4 := by unfold vp_in; decide
theorem vl_0_8 : vp_in (0 : Int32) 8 := by unfold vp_in; decide
theorem vl_1_8 : vp_in (1 : Int32) 8 := by unfold vp_in; decide
theorem vl_2_8 : vp_in (2 : Int32) 8 := by unfold vp_in; decide
theorem vl_3_8 : vp_in (3 : Int32) 8 := by unfold vp_in; decide
theorem vl_4_8 : vp_in (4 : Int32) 8 := by unfold vp_in; decide
theorem vl_5_8 : vp_in (5 : Int32) 8 := by unfold vp_in; decide
theorem vl_6_8 : vp_in (6 : Int32) 8 := by unfold vp_in; decide
theorem vl_7_8 : vp_in (7 : Int32) 8 := by unfold vp_in; decide
theorem vl_0_24 : vp_in (0 : Int32) 24 := by unfold vp_in; decide
theorem vl_1_24 : vp_in (1 : Int32) 24 := by unfold vp_in; decide
theorem vl_2_24 : vp_in (2 : Int32) 24 := by unfold vp_in; decide
theorem vl_3_24 : vp_in (3 : Int32) 24 := by unfold vp_in; decide
theorem vl_4_24 : vp_in (4 : Int32) 24 := by unfold vp_in; decide
theorem vl_5_24 : vp_in (5 : Int32) 24 := by unfold vp_in; decide
theorem vl_6_24 : vp_in (6 : Int32) 24 := by unfold vp_in; decide
theorem vl_7_24 : vp_in (7 : Int32) 24 := by unfold vp_in; decide
theorem vl_8_24 : vp_in (8 : Int32) 24 := by unfold vp_in; decide
theorem vl_9_24 : vp_in (9 : Int32) 24 := by unfold vp_in; decide
theorem vl_10_24 : vp_in (10 : Int32) 24 := by unfold vp_in; decide
theorem vl_11_24 : vp_in (11 : Int32) 24 := by unfold vp_in; decide
theorem vl_12_24 : vp_in (12 : Int32) 24 := by unfold vp_in; decide
theorem vl_13_24 : vp_in (13 : Int32) 24 := by unfold vp_in; decide
theorem vl_14_24 : vp_in (14 : Int32) 24 := by unfold vp_in; decide
theorem vl_15_24 : vp_in (15 : Int32) 24 := by unfold vp_in; decide
theorem vl_16_24 : vp_in (16 : Int32) 24 := by unfold vp_in; decide
theorem vl_17_24 : vp_in (17 : Int32) 24 := by unfold vp_in; decide
theorem vl_18_24 : vp_in (18 : Int32) 24 := by unfold vp_in; decide
theorem vl_19_24 : vp_in (19 : Int32) 24 := by unfold vp_in; decide
theorem vl_20_24 : vp_in (20 : Int32) 24 := by unfold vp_in; decide
theorem vl_21_24 : vp_in (21 : Int32) 24 := by unfold vp_in; decide
theorem vl_22_24 : vp_in (22 : Int32) 24 := by unfold vp_in; decide
theorem vl_23_24 : vp_in (23 : Int32) 24 := by unfold vp_in; decide
