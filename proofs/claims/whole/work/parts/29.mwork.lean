/-! the reference: work, comes over a state whose frames are F -/
def fI (F : Nat → Nat → Int32) (f i : Nat) (v : Int32) : Nat → Nat → Int32 := va_up F f (va_up (F f) i v)
def endF (F : Nat → Nat → Int32) (v : Int32) : Nat → Nat → Int32 := fI (fI F 25 0 (F 25 0 - 1)) 20 0 (if F 25 0 - 1 = 0 then v else F 20 0)
theorem gr_fI {σ : Sg} {F : Nat → Nat → Int32} {f : Nat} (i : Nat) (v : Int32) (h : grB f = true) : sI (gr σ F) f i v = gr σ (fI F f i v) := gr_sI2 i v h
theorem gr_ends {σ : Sg} {F : Nat → Nat → Int32} {v : Int32} : endsM (gr σ F) v = gr σ (endF F v) := by
  unfold endsM
  rw [gr_fI _ _ rfl, gr_fI _ _ rfl]
  rfl
theorem INV_A {σ : Sg} {B : Nat} (h : INV σ B) : okA σ := by
  refine ⟨h.1, fun k hk hN i hi => ?_⟩
  have h6 := (okN h.1).1
  by_cases c : k < nS σ
  · rcases h.2.2.1 k c hN i hi with e | ⟨q, hq, e, -⟩
    · exact Or.inl e
    · exact Or.inr ⟨q, by omega, e⟩
  · exfalso
    have e := h.2.2.2.2.2.1 k (by omega) hk
    unfold szS at hi
    rw [e] at hi
    exact Nat.not_lt_zero _ hi

set_option maxHeartbeats 2000000 in
set_option maxRecDepth 100000 in
theorem c_X7_work_0row (l : Launch) (D : tw_G) (ad : Nat → Nat) (b : tw_W) (σ0 : Sg) (F : Nat → Nat → Int32) (sz : Nat) (dp r a t B : Nat) (hV0 : INV σ0 B) (hr8 : r < 8) (ha4 : a < 4) (hdp : dp < 8) (h6 : t < 60) (hw : F 21 dp = nI t) (hm : F 22 dp = nI r) (ha : F 23 dp = nI a) (hn0 : t < nS σ0) (ea0 : σ0.1 7 (4 * r + a) = 0) (h10 : isOneF (σ0.1 1 t) = 0) : Met l yX7_work (tw_w yX7_work cX7_work 5 none) (tw_R 5 0 0) (tw_Pc D ad (wM b (gr σ0 F)) sz [.ref (ad 1000), .int (nI dp), .int (nI (4 * r + a))]) (tw_Q D ad (wM b (gr (sI (wkF σ0 (4 * r + a)) 9 (4 * r + a) ((wkF σ0 (4 * r + a)).1 9 (4 * r + a) + placesF (wkF σ0 (4 * r + a)) t)) (fI F 23 dp (nI (a + 1))))) (tw_A ad (wM b (gr σ0 F)) sz) none) 0 0 (tw_A ad (wM b (gr σ0 F)) sz) := by
  refine tw_met (by decide) rfl (by simp [lg_sl, Value.category]) (fun p e s m below meth c ls S hK hr hlocks hnm hsz hI hl => ?_)
  have hx := S.1
  have hb := S.2.1
  have hl : lv_has ls 5 [(0, .ref (ad 1000)), (1, .int (nI dp)), (2, .int (nI (4 * r + a)))] := hl
  refine lv_aload_n hx hb dX7_work_0 rfl (lv_at hl 0 rfl) ?_
  refine gm_58 S hK hI dX7_work_1 ?_
  refine lv_iload_n hx hb dX7_work_4 rfl (lv_at hl 1 rfl) ?_
  refine ln_21 (j := dp) S hK hI (by omega) dX7_work_5 ?_
  refine lv_eqi (v := (nI t)) (hw) ?_
  refine lv_istore_n (lv' := [(3, .int (nI t)), (0, .ref (ad 1000)), (1, .int (nI dp)), (2, .int (nI (4 * r + a)))]) hx hb dX7_work_6 rfl hl (by decide) rfl (fun ls hl => ?_)
  refine lv_aload_n hx hb dX7_work_7 rfl (lv_at hl 1 rfl) ?_
  refine gm_42 S hK hI dX7_work_8 ?_
  refine lv_iload_n hx hb dX7_work_11 rfl (lv_at hl 3 rfl) ?_
  refine lv_dup2_11 hx hb dX7_work_12 rfl rfl ?_
  refine ln_11 (j := 4 * r + a) S hK hI (by omega) dX7_work_13 ?_
  refine lv_topi (fun x1 e1 => ?_)
  refine lv_iconst (v := 1) hx hb dX7_work_14 (by decide) ?_
  refine lv_iadd hx hb dX7_work_15 ?_
  refine lv_topi (fun x2 e2 => ?_)
  refine sn_11 (j := 4 * r + a) S hK hI (by omega) dX7_work_16 (fun H locs hI => ?_)
  refine lv_aload_n hx hb dX7_work_17 rfl (lv_at hl 1 rfl) ?_
  refine lv_dup hx hb dX7_work_18 rfl ?_
  refine gm_152 S hK hI dX7_work_19 ?_
  refine lv_topi (fun x3 e3 => ?_)
  refine lv_iconst (v := 1) hx hb dX7_work_22 (by decide) ?_
  refine lv_iadd hx hb dX7_work_23 ?_
  refine lv_topi (fun x4 e4 => ?_)
  refine pm_152 S hK hI dX7_work_24 (fun H locs hI => ?_)
  subst e4
  subst e3
  subst e2
  subst e1
  have hI : tw_I D (tw_A ad (wM b (gr σ0 F)) sz) ad (wM b (gr (wkF σ0 (4 * r + a)) F)) s.heap H locs := by rw [← gr_wk]; exact hI
  have hk := wk_Kp (d := 4 * r + a) hV0
  generalize wkF σ0 (4 * r + a) = σ at hI hk ⊢
  have hV := hk.1
  have ea : σ.1 7 (4 * r + a) = 0 := by rw [hk.2 7 (by decide)]; exact ea0
  have h1 : isOneF (σ.1 1 t) = 0 := by rw [hk.2 1 (by decide)]; exact h10
  refine lv_aload_n hx hb dX7_work_27 rfl (lv_at hl 1 rfl) ?_
  refine gm_29 S hK hI dX7_work_28 ?_
  refine lv_iload_n hx hb dX7_work_31 rfl (lv_at hl 3 rfl) ?_
  refine ln_7 (j := 4 * r + a) S hK hI (by omega) dX7_work_32 ?_
  refine lv_eqi (v := 0) (ea) ?_
  refine lv_tableIn (off := 31) (tgt := 64) hx hb dX7_work_33 (by decide) (by decide) (by decide) (by decide) ?_
  refine lv_aload_n hx hb dX7_work_64 rfl (lv_at hl 1 rfl) ?_
  refine gm_36 S hK hI dX7_work_65 ?_
  refine lv_iload_n hx hb dX7_work_68 rfl (lv_at hl 3 rfl) ?_
  refine lv_dup2_11 hx hb dX7_work_69 rfl rfl ?_
  refine ln_9 (j := 4 * r + a) S hK hI (by omega) dX7_work_70 ?_
  refine lv_topi (fun x6 e6 => ?_)
  refine lv_aload_n hx hb dX7_work_71 rfl (lv_at hl 1 rfl) ?_
  refine gm_7 S hK hI dX7_work_72 ?_
  refine lv_iload_n hx hb dX7_work_75 rfl (lv_at hl 0 rfl) ?_
  refine ln_1 (j := t) S hK hI (by omega) dX7_work_76 ?_
  refine lv_eqi (v := (σ.1 1 t)) (rfl) ?_
  refine tw_calli (tw_rS (As := [.int (σ.1 1 t)]) (rest := [.int x6, .int (nI (4 * r + a)), .ref (ad 1009)]) S hK hI kX7_89 (c_X7_isOne l D ad _ _ _) ⟨Nat.le_of_ble_eq_true rfl, Nat.le_of_ble_eq_true rfl⟩ ⟨Nat.le_of_ble_eq_true rfl, Nat.le_of_ble_eq_true rfl⟩ rfl hl.1 rfl (Nat.le_of_ble_eq_true rfl) dX7_work_77) hI (fun H locs hI => ?_)
  refine lv_topi (fun x7 e7 => ?_)
  refine lv_if_eq (tgt := 87) hx hb dX7_work_80 (by decide) (fun c8 => ?_) (fun c8 => ?_)
  · refine lv_aload_n hx hb dX7_work_87 rfl (lv_at hl 1 rfl) ?_
    refine gm_13 S hK hI dX7_work_88 ?_
    refine lv_iload_n hx hb dX7_work_91 rfl (lv_at hl 0 rfl) ?_
    refine ln_2 (j := t) S hK hI (by omega) dX7_work_92 ?_
    refine lv_topi (fun x9 e9 => ?_)
    refine lv_iadd hx hb dX7_work_93 ?_
    refine lv_topi (fun x10 e10 => ?_)
    refine sn_9 (j := 4 * r + a) S hK hI (by omega) dX7_work_94 (fun H locs hI => ?_)
    refine lv_goto (tgt := 180) hx hb dX7_work_95 (by decide) ?_
    refine lv_aload_n hx hb dX7_work_180 rfl (lv_at hl 1 rfl) ?_
    refine gm_64 S hK hI dX7_work_181 ?_
    refine lv_iload_n hx hb dX7_work_184 rfl (lv_at hl 2 rfl) ?_
    refine lv_dup2_11 hx hb dX7_work_185 rfl rfl ?_
    refine ln_23 (j := dp) S hK hI (by omega) dX7_work_186 ?_
    refine lv_eqi (v := (nI a)) (ha) ?_
    refine lv_iconst (v := 1) hx hb dX7_work_187 (by decide) ?_
    refine lv_iadd hx hb dX7_work_188 ?_
    refine lv_eqi (v := (nI (a + 1))) (nA (a := a) (b := 1) (c := a + 1) (by omega)) ?_
    refine sn_23 (j := dp) S hK hI (by omega) dX7_work_189 (fun H locs hI => ?_)
    subst e10
    subst e9
    subst e7
    subst e6
    rw [gr_sI _ _ rfl, gr_fI _ _ rfl] at hI
    unfold placesF
    rw [if_pos h1]
    try rw [if_pos h1]
    exact tw_vret S hr hlocks hI dX7_work_190
  · exact (by subst e7; subst e6; exact absurd h1 c8)

set_option maxHeartbeats 2000000 in
set_option maxRecDepth 100000 in
theorem c_X7_work_0one (l : Launch) (D : tw_G) (ad : Nat → Nat) (b : tw_W) (σ0 : Sg) (F : Nat → Nat → Int32) (sz : Nat) (dp r a t B : Nat) (hV0 : INV σ0 B) (hr8 : r < 8) (ha4 : a < 4) (hdp : dp < 8) (h6 : t < 60) (hw : F 21 dp = nI t) (hm : F 22 dp = nI r) (ha : F 23 dp = nI a) (hn0 : t < nS σ0) (ea0 : σ0.1 7 (4 * r + a) = 0) (h10 : ¬ isOneF (σ0.1 1 t) = 0) : Met l yX7_work (tw_w yX7_work cX7_work 5 none) (tw_R 5 0 0) (tw_Pc D ad (wM b (gr σ0 F)) sz [.ref (ad 1000), .int (nI dp), .int (nI (4 * r + a))]) (tw_Q D ad (wM b (gr (sI (wkF σ0 (4 * r + a)) 9 (4 * r + a) ((wkF σ0 (4 * r + a)).1 9 (4 * r + a) + placesF (wkF σ0 (4 * r + a)) t)) (fI F 23 dp (nI (a + 1))))) (tw_A ad (wM b (gr σ0 F)) sz) none) 0 0 (tw_A ad (wM b (gr σ0 F)) sz) := by
  refine tw_met (by decide) rfl (by simp [lg_sl, Value.category]) (fun p e s m below meth c ls S hK hr hlocks hnm hsz hI hl => ?_)
  have hx := S.1
  have hb := S.2.1
  have hl : lv_has ls 5 [(0, .ref (ad 1000)), (1, .int (nI dp)), (2, .int (nI (4 * r + a)))] := hl
  refine lv_aload_n hx hb dX7_work_0 rfl (lv_at hl 0 rfl) ?_
  refine gm_58 S hK hI dX7_work_1 ?_
  refine lv_iload_n hx hb dX7_work_4 rfl (lv_at hl 1 rfl) ?_
  refine ln_21 (j := dp) S hK hI (by omega) dX7_work_5 ?_
  refine lv_eqi (v := (nI t)) (hw) ?_
  refine lv_istore_n (lv' := [(3, .int (nI t)), (0, .ref (ad 1000)), (1, .int (nI dp)), (2, .int (nI (4 * r + a)))]) hx hb dX7_work_6 rfl hl (by decide) rfl (fun ls hl => ?_)
  refine lv_aload_n hx hb dX7_work_7 rfl (lv_at hl 1 rfl) ?_
  refine gm_42 S hK hI dX7_work_8 ?_
  refine lv_iload_n hx hb dX7_work_11 rfl (lv_at hl 3 rfl) ?_
  refine lv_dup2_11 hx hb dX7_work_12 rfl rfl ?_
  refine ln_11 (j := 4 * r + a) S hK hI (by omega) dX7_work_13 ?_
  refine lv_topi (fun x1 e1 => ?_)
  refine lv_iconst (v := 1) hx hb dX7_work_14 (by decide) ?_
  refine lv_iadd hx hb dX7_work_15 ?_
  refine lv_topi (fun x2 e2 => ?_)
  refine sn_11 (j := 4 * r + a) S hK hI (by omega) dX7_work_16 (fun H locs hI => ?_)
  refine lv_aload_n hx hb dX7_work_17 rfl (lv_at hl 1 rfl) ?_
  refine lv_dup hx hb dX7_work_18 rfl ?_
  refine gm_152 S hK hI dX7_work_19 ?_
  refine lv_topi (fun x3 e3 => ?_)
  refine lv_iconst (v := 1) hx hb dX7_work_22 (by decide) ?_
  refine lv_iadd hx hb dX7_work_23 ?_
  refine lv_topi (fun x4 e4 => ?_)
  refine pm_152 S hK hI dX7_work_24 (fun H locs hI => ?_)
  subst e4
  subst e3
  subst e2
  subst e1
  have hI : tw_I D (tw_A ad (wM b (gr σ0 F)) sz) ad (wM b (gr (wkF σ0 (4 * r + a)) F)) s.heap H locs := by rw [← gr_wk]; exact hI
  have hk := wk_Kp (d := 4 * r + a) hV0
  generalize wkF σ0 (4 * r + a) = σ at hI hk ⊢
  have hV := hk.1
  have ea : σ.1 7 (4 * r + a) = 0 := by rw [hk.2 7 (by decide)]; exact ea0
  have h1 : ¬ isOneF (σ.1 1 t) = 0 := by rw [hk.2 1 (by decide)]; exact h10
  refine lv_aload_n hx hb dX7_work_27 rfl (lv_at hl 1 rfl) ?_
  refine gm_29 S hK hI dX7_work_28 ?_
  refine lv_iload_n hx hb dX7_work_31 rfl (lv_at hl 3 rfl) ?_
  refine ln_7 (j := 4 * r + a) S hK hI (by omega) dX7_work_32 ?_
  refine lv_eqi (v := 0) (ea) ?_
  refine lv_tableIn (off := 31) (tgt := 64) hx hb dX7_work_33 (by decide) (by decide) (by decide) (by decide) ?_
  refine lv_aload_n hx hb dX7_work_64 rfl (lv_at hl 1 rfl) ?_
  refine gm_36 S hK hI dX7_work_65 ?_
  refine lv_iload_n hx hb dX7_work_68 rfl (lv_at hl 3 rfl) ?_
  refine lv_dup2_11 hx hb dX7_work_69 rfl rfl ?_
  refine ln_9 (j := 4 * r + a) S hK hI (by omega) dX7_work_70 ?_
  refine lv_topi (fun x6 e6 => ?_)
  refine lv_aload_n hx hb dX7_work_71 rfl (lv_at hl 1 rfl) ?_
  refine gm_7 S hK hI dX7_work_72 ?_
  refine lv_iload_n hx hb dX7_work_75 rfl (lv_at hl 0 rfl) ?_
  refine ln_1 (j := t) S hK hI (by omega) dX7_work_76 ?_
  refine lv_eqi (v := (σ.1 1 t)) (rfl) ?_
  refine tw_calli (tw_rS (As := [.int (σ.1 1 t)]) (rest := [.int x6, .int (nI (4 * r + a)), .ref (ad 1009)]) S hK hI kX7_89 (c_X7_isOne l D ad _ _ _) ⟨Nat.le_of_ble_eq_true rfl, Nat.le_of_ble_eq_true rfl⟩ ⟨Nat.le_of_ble_eq_true rfl, Nat.le_of_ble_eq_true rfl⟩ rfl hl.1 rfl (Nat.le_of_ble_eq_true rfl) dX7_work_77) hI (fun H locs hI => ?_)
  refine lv_topi (fun x7 e7 => ?_)
  refine lv_if_eq (tgt := 87) hx hb dX7_work_80 (by decide) (fun c8 => ?_) (fun c8 => ?_)
  · exact (by subst e7; subst e6; exact absurd c8 h1)
  · refine lv_iconst (v := 1) hx hb dX7_work_83 (by decide) ?_
    refine lv_goto (tgt := 93) hx hb dX7_work_84 (by decide) ?_
    refine lv_iadd hx hb dX7_work_93 ?_
    refine lv_topi (fun x9 e9 => ?_)
    refine sn_9 (j := 4 * r + a) S hK hI (by omega) dX7_work_94 (fun H locs hI => ?_)
    refine lv_goto (tgt := 180) hx hb dX7_work_95 (by decide) ?_
    refine lv_aload_n hx hb dX7_work_180 rfl (lv_at hl 1 rfl) ?_
    refine gm_64 S hK hI dX7_work_181 ?_
    refine lv_iload_n hx hb dX7_work_184 rfl (lv_at hl 2 rfl) ?_
    refine lv_dup2_11 hx hb dX7_work_185 rfl rfl ?_
    refine ln_23 (j := dp) S hK hI (by omega) dX7_work_186 ?_
    refine lv_eqi (v := (nI a)) (ha) ?_
    refine lv_iconst (v := 1) hx hb dX7_work_187 (by decide) ?_
    refine lv_iadd hx hb dX7_work_188 ?_
    refine lv_eqi (v := (nI (a + 1))) (nA (a := a) (b := 1) (c := a + 1) (by omega)) ?_
    refine sn_23 (j := dp) S hK hI (by omega) dX7_work_189 (fun H locs hI => ?_)
    subst e9
    subst e7
    subst e6
    rw [gr_sI _ _ rfl, gr_fI _ _ rfl] at hI
    unfold placesF
    rw [if_neg h1]
    try rw [if_neg h1]
    exact tw_vret S hr hlocks hI dX7_work_190

set_option maxHeartbeats 2000000 in
set_option maxRecDepth 100000 in
theorem c_X7_work_1 (l : Launch) (D : tw_G) (ad : Nat → Nat) (b : tw_W) (σ0 : Sg) (F : Nat → Nat → Int32) (sz : Nat) (dp r a t B : Nat) (hV0 : INV σ0 B) (hr8 : r < 8) (ha4 : a < 4) (hdp : dp < 8) (h6 : t < 60) (hw : F 21 dp = nI t) (hm : F 22 dp = nI r) (ha : F 23 dp = nI a) (hn0 : t < nS σ0) (ea0 : σ0.1 7 (4 * r + a) = 1)  : Met l yX7_work (tw_w yX7_work cX7_work 5 none) (tw_R 5 0 0) (tw_Pc D ad (wM b (gr σ0 F)) sz [.ref (ad 1000), .int (nI dp), .int (nI (4 * r + a))]) (tw_Q D ad (wM b (gr (turnF (wkF σ0 (4 * r + a)) t) (fI F 23 dp (nI (a + 1))))) (tw_A ad (wM b (gr σ0 F)) sz) none) 0 0 (tw_A ad (wM b (gr σ0 F)) sz) := by
  refine tw_met (by decide) rfl (by simp [lg_sl, Value.category]) (fun p e s m below meth c ls S hK hr hlocks hnm hsz hI hl => ?_)
  have hx := S.1
  have hb := S.2.1
  have hl : lv_has ls 5 [(0, .ref (ad 1000)), (1, .int (nI dp)), (2, .int (nI (4 * r + a)))] := hl
  refine lv_aload_n hx hb dX7_work_0 rfl (lv_at hl 0 rfl) ?_
  refine gm_58 S hK hI dX7_work_1 ?_
  refine lv_iload_n hx hb dX7_work_4 rfl (lv_at hl 1 rfl) ?_
  refine ln_21 (j := dp) S hK hI (by omega) dX7_work_5 ?_
  refine lv_eqi (v := (nI t)) (hw) ?_
  refine lv_istore_n (lv' := [(3, .int (nI t)), (0, .ref (ad 1000)), (1, .int (nI dp)), (2, .int (nI (4 * r + a)))]) hx hb dX7_work_6 rfl hl (by decide) rfl (fun ls hl => ?_)
  refine lv_aload_n hx hb dX7_work_7 rfl (lv_at hl 1 rfl) ?_
  refine gm_42 S hK hI dX7_work_8 ?_
  refine lv_iload_n hx hb dX7_work_11 rfl (lv_at hl 3 rfl) ?_
  refine lv_dup2_11 hx hb dX7_work_12 rfl rfl ?_
  refine ln_11 (j := 4 * r + a) S hK hI (by omega) dX7_work_13 ?_
  refine lv_topi (fun x1 e1 => ?_)
  refine lv_iconst (v := 1) hx hb dX7_work_14 (by decide) ?_
  refine lv_iadd hx hb dX7_work_15 ?_
  refine lv_topi (fun x2 e2 => ?_)
  refine sn_11 (j := 4 * r + a) S hK hI (by omega) dX7_work_16 (fun H locs hI => ?_)
  refine lv_aload_n hx hb dX7_work_17 rfl (lv_at hl 1 rfl) ?_
  refine lv_dup hx hb dX7_work_18 rfl ?_
  refine gm_152 S hK hI dX7_work_19 ?_
  refine lv_topi (fun x3 e3 => ?_)
  refine lv_iconst (v := 1) hx hb dX7_work_22 (by decide) ?_
  refine lv_iadd hx hb dX7_work_23 ?_
  refine lv_topi (fun x4 e4 => ?_)
  refine pm_152 S hK hI dX7_work_24 (fun H locs hI => ?_)
  subst e4
  subst e3
  subst e2
  subst e1
  have hI : tw_I D (tw_A ad (wM b (gr σ0 F)) sz) ad (wM b (gr (wkF σ0 (4 * r + a)) F)) s.heap H locs := by rw [← gr_wk]; exact hI
  have hk := wk_Kp (d := 4 * r + a) hV0
  generalize wkF σ0 (4 * r + a) = σ at hI hk ⊢
  have hV := hk.1
  have ea : σ.1 7 (4 * r + a) = 1 := by rw [hk.2 7 (by decide)]; exact ea0
  refine lv_aload_n hx hb dX7_work_27 rfl (lv_at hl 1 rfl) ?_
  refine gm_29 S hK hI dX7_work_28 ?_
  refine lv_iload_n hx hb dX7_work_31 rfl (lv_at hl 3 rfl) ?_
  refine ln_7 (j := 4 * r + a) S hK hI (by omega) dX7_work_32 ?_
  refine lv_eqi (v := 1) (ea) ?_
  refine lv_tableIn (off := 65) (tgt := 98) hx hb dX7_work_33 (by decide) (by decide) (by decide) (by decide) ?_
  refine lv_aload_n hx hb dX7_work_98 rfl (lv_at hl 1 rfl) ?_
  refine lv_iload_n hx hb dX7_work_99 rfl (lv_at hl 0 rfl) ?_
  refine tw_callv (tw_rV (As := [.int (nI t)]) (rest := []) S hK hI kX7_155 (c_X7_turn l D ad _ _ _ _ hV.1 h6) (t := 1000) (fs := mRoot _) rfl rfl rfl ⟨Nat.le_of_ble_eq_true rfl, Nat.le_of_ble_eq_true rfl⟩ ⟨Nat.le_of_ble_eq_true rfl, Nat.le_of_ble_eq_true rfl⟩ rfl hl.1 rfl (Nat.le_of_ble_eq_true rfl) dX7_work_100) hI (fun H locs hI => ?_)
  rw [gr_turn] at hI
  refine lv_goto (tgt := 180) hx hb dX7_work_103 (by decide) ?_
  refine lv_aload_n hx hb dX7_work_180 rfl (lv_at hl 1 rfl) ?_
  refine gm_64 S hK hI dX7_work_181 ?_
  refine lv_iload_n hx hb dX7_work_184 rfl (lv_at hl 2 rfl) ?_
  refine lv_dup2_11 hx hb dX7_work_185 rfl rfl ?_
  refine ln_23 (j := dp) S hK hI (by omega) dX7_work_186 ?_
  refine lv_eqi (v := (nI a)) (ha) ?_
  refine lv_iconst (v := 1) hx hb dX7_work_187 (by decide) ?_
  refine lv_iadd hx hb dX7_work_188 ?_
  refine lv_eqi (v := (nI (a + 1))) (nA (a := a) (b := 1) (c := a + 1) (by omega)) ?_
  refine sn_23 (j := dp) S hK hI (by omega) dX7_work_189 (fun H locs hI => ?_)
  rw [gr_fI _ _ rfl] at hI
  exact tw_vret S hr hlocks hI dX7_work_190

set_option maxHeartbeats 2000000 in
set_option maxRecDepth 100000 in
theorem c_X7_work_2 (l : Launch) (D : tw_G) (ad : Nat → Nat) (b : tw_W) (σ0 : Sg) (F : Nat → Nat → Int32) (sz : Nat) (dp r a t B : Nat) (hV0 : INV σ0 B) (hr8 : r < 8) (ha4 : a < 4) (hdp : dp < 8) (h6 : t < 60) (hw : F 21 dp = nI t) (hm : F 22 dp = nI r) (ha : F 23 dp = nI a) (hn0 : t < nS σ0) (ea0 : σ0.1 7 (4 * r + a) = 2)  : Met l yX7_work (tw_w yX7_work cX7_work 5 none) (tw_R 5 0 0) (tw_Pc D ad (wM b (gr σ0 F)) sz [.ref (ad 1000), .int (nI dp), .int (nI (4 * r + a))]) (tw_Q D ad (wM b (gr (stampAllF (wkF σ0 (4 * r + a)) t) (fI F 23 dp (nI (a + 1))))) (tw_A ad (wM b (gr σ0 F)) sz) none) 0 0 (tw_A ad (wM b (gr σ0 F)) sz) := by
  refine tw_met (by decide) rfl (by simp [lg_sl, Value.category]) (fun p e s m below meth c ls S hK hr hlocks hnm hsz hI hl => ?_)
  have hx := S.1
  have hb := S.2.1
  have hl : lv_has ls 5 [(0, .ref (ad 1000)), (1, .int (nI dp)), (2, .int (nI (4 * r + a)))] := hl
  refine lv_aload_n hx hb dX7_work_0 rfl (lv_at hl 0 rfl) ?_
  refine gm_58 S hK hI dX7_work_1 ?_
  refine lv_iload_n hx hb dX7_work_4 rfl (lv_at hl 1 rfl) ?_
  refine ln_21 (j := dp) S hK hI (by omega) dX7_work_5 ?_
  refine lv_eqi (v := (nI t)) (hw) ?_
  refine lv_istore_n (lv' := [(3, .int (nI t)), (0, .ref (ad 1000)), (1, .int (nI dp)), (2, .int (nI (4 * r + a)))]) hx hb dX7_work_6 rfl hl (by decide) rfl (fun ls hl => ?_)
  refine lv_aload_n hx hb dX7_work_7 rfl (lv_at hl 1 rfl) ?_
  refine gm_42 S hK hI dX7_work_8 ?_
  refine lv_iload_n hx hb dX7_work_11 rfl (lv_at hl 3 rfl) ?_
  refine lv_dup2_11 hx hb dX7_work_12 rfl rfl ?_
  refine ln_11 (j := 4 * r + a) S hK hI (by omega) dX7_work_13 ?_
  refine lv_topi (fun x1 e1 => ?_)
  refine lv_iconst (v := 1) hx hb dX7_work_14 (by decide) ?_
  refine lv_iadd hx hb dX7_work_15 ?_
  refine lv_topi (fun x2 e2 => ?_)
  refine sn_11 (j := 4 * r + a) S hK hI (by omega) dX7_work_16 (fun H locs hI => ?_)
  refine lv_aload_n hx hb dX7_work_17 rfl (lv_at hl 1 rfl) ?_
  refine lv_dup hx hb dX7_work_18 rfl ?_
  refine gm_152 S hK hI dX7_work_19 ?_
  refine lv_topi (fun x3 e3 => ?_)
  refine lv_iconst (v := 1) hx hb dX7_work_22 (by decide) ?_
  refine lv_iadd hx hb dX7_work_23 ?_
  refine lv_topi (fun x4 e4 => ?_)
  refine pm_152 S hK hI dX7_work_24 (fun H locs hI => ?_)
  subst e4
  subst e3
  subst e2
  subst e1
  have hI : tw_I D (tw_A ad (wM b (gr σ0 F)) sz) ad (wM b (gr (wkF σ0 (4 * r + a)) F)) s.heap H locs := by rw [← gr_wk]; exact hI
  have hk := wk_Kp (d := 4 * r + a) hV0
  generalize wkF σ0 (4 * r + a) = σ at hI hk ⊢
  have hV := hk.1
  have ea : σ.1 7 (4 * r + a) = 2 := by rw [hk.2 7 (by decide)]; exact ea0
  refine lv_aload_n hx hb dX7_work_27 rfl (lv_at hl 1 rfl) ?_
  refine gm_29 S hK hI dX7_work_28 ?_
  refine lv_iload_n hx hb dX7_work_31 rfl (lv_at hl 3 rfl) ?_
  refine ln_7 (j := 4 * r + a) S hK hI (by omega) dX7_work_32 ?_
  refine lv_eqi (v := 2) (ea) ?_
  refine lv_tableIn (off := 73) (tgt := 106) hx hb dX7_work_33 (by decide) (by decide) (by decide) (by decide) ?_
  refine lv_aload_n hx hb dX7_work_106 rfl (lv_at hl 1 rfl) ?_
  refine lv_iload_n hx hb dX7_work_107 rfl (lv_at hl 0 rfl) ?_
  refine tw_callv (tw_rV (As := [.int (nI t)]) (rest := []) S hK hI kX7_158 (c_X7_stampAll l D ad _ _ _ _ (INV_A hV) h6) (t := 1000) (fs := mRoot _) rfl rfl rfl ⟨Nat.le_of_ble_eq_true rfl, Nat.le_of_ble_eq_true rfl⟩ ⟨Nat.le_of_ble_eq_true rfl, Nat.le_of_ble_eq_true rfl⟩ rfl hl.1 rfl (Nat.le_of_ble_eq_true rfl) dX7_work_108) hI (fun H locs hI => ?_)
  rw [gr_all] at hI
  refine lv_goto (tgt := 180) hx hb dX7_work_111 (by decide) ?_
  refine lv_aload_n hx hb dX7_work_180 rfl (lv_at hl 1 rfl) ?_
  refine gm_64 S hK hI dX7_work_181 ?_
  refine lv_iload_n hx hb dX7_work_184 rfl (lv_at hl 2 rfl) ?_
  refine lv_dup2_11 hx hb dX7_work_185 rfl rfl ?_
  refine ln_23 (j := dp) S hK hI (by omega) dX7_work_186 ?_
  refine lv_eqi (v := (nI a)) (ha) ?_
  refine lv_iconst (v := 1) hx hb dX7_work_187 (by decide) ?_
  refine lv_iadd hx hb dX7_work_188 ?_
  refine lv_eqi (v := (nI (a + 1))) (nA (a := a) (b := 1) (c := a + 1) (by omega)) ?_
  refine sn_23 (j := dp) S hK hI (by omega) dX7_work_189 (fun H locs hI => ?_)
  rw [gr_fI _ _ rfl] at hI
  exact tw_vret S hr hlocks hI dX7_work_190

set_option maxHeartbeats 2000000 in
set_option maxRecDepth 100000 in
theorem c_X7_work_3num (l : Launch) (D : tw_G) (ad : Nat → Nat) (b : tw_W) (σ0 : Sg) (F : Nat → Nat → Int32) (sz : Nat) (dp r a t B : Nat) (hV0 : INV σ0 B) (hr8 : r < 8) (ha4 : a < 4) (hdp : dp < 8) (h6 : t < 60) (hw : F 21 dp = nI t) (hm : F 22 dp = nI r) (ha : F 23 dp = nI a) (hn0 : t < nS σ0) (ea0 : σ0.1 7 (4 * r + a) = 3) (h10 : isThF (σ0.1 1 t) = 0) : Met l yX7_work (tw_w yX7_work cX7_work 5 none) (tw_R 5 0 0) (tw_Pc D ad (wM b (gr σ0 F)) sz [.ref (ad 1000), .int (nI dp), .int (nI (4 * r + a))]) (tw_Q D ad (wM b (gr (wkF σ0 (4 * r + a)) (fI F 23 dp (nI (a + 1))))) (tw_A ad (wM b (gr σ0 F)) sz) none) 0 0 (tw_A ad (wM b (gr σ0 F)) sz) := by
  refine tw_met (by decide) rfl (by simp [lg_sl, Value.category]) (fun p e s m below meth c ls S hK hr hlocks hnm hsz hI hl => ?_)
  have hx := S.1
  have hb := S.2.1
  have hl : lv_has ls 5 [(0, .ref (ad 1000)), (1, .int (nI dp)), (2, .int (nI (4 * r + a)))] := hl
  refine lv_aload_n hx hb dX7_work_0 rfl (lv_at hl 0 rfl) ?_
  refine gm_58 S hK hI dX7_work_1 ?_
  refine lv_iload_n hx hb dX7_work_4 rfl (lv_at hl 1 rfl) ?_
  refine ln_21 (j := dp) S hK hI (by omega) dX7_work_5 ?_
  refine lv_eqi (v := (nI t)) (hw) ?_
  refine lv_istore_n (lv' := [(3, .int (nI t)), (0, .ref (ad 1000)), (1, .int (nI dp)), (2, .int (nI (4 * r + a)))]) hx hb dX7_work_6 rfl hl (by decide) rfl (fun ls hl => ?_)
  refine lv_aload_n hx hb dX7_work_7 rfl (lv_at hl 1 rfl) ?_
  refine gm_42 S hK hI dX7_work_8 ?_
  refine lv_iload_n hx hb dX7_work_11 rfl (lv_at hl 3 rfl) ?_
  refine lv_dup2_11 hx hb dX7_work_12 rfl rfl ?_
  refine ln_11 (j := 4 * r + a) S hK hI (by omega) dX7_work_13 ?_
  refine lv_topi (fun x1 e1 => ?_)
  refine lv_iconst (v := 1) hx hb dX7_work_14 (by decide) ?_
  refine lv_iadd hx hb dX7_work_15 ?_
  refine lv_topi (fun x2 e2 => ?_)
  refine sn_11 (j := 4 * r + a) S hK hI (by omega) dX7_work_16 (fun H locs hI => ?_)
  refine lv_aload_n hx hb dX7_work_17 rfl (lv_at hl 1 rfl) ?_
  refine lv_dup hx hb dX7_work_18 rfl ?_
  refine gm_152 S hK hI dX7_work_19 ?_
  refine lv_topi (fun x3 e3 => ?_)
  refine lv_iconst (v := 1) hx hb dX7_work_22 (by decide) ?_
  refine lv_iadd hx hb dX7_work_23 ?_
  refine lv_topi (fun x4 e4 => ?_)
  refine pm_152 S hK hI dX7_work_24 (fun H locs hI => ?_)
  subst e4
  subst e3
  subst e2
  subst e1
  have hI : tw_I D (tw_A ad (wM b (gr σ0 F)) sz) ad (wM b (gr (wkF σ0 (4 * r + a)) F)) s.heap H locs := by rw [← gr_wk]; exact hI
  have hk := wk_Kp (d := 4 * r + a) hV0
  generalize wkF σ0 (4 * r + a) = σ at hI hk ⊢
  have hV := hk.1
  have ea : σ.1 7 (4 * r + a) = 3 := by rw [hk.2 7 (by decide)]; exact ea0
  have h1 : isThF (σ.1 1 t) = 0 := by rw [hk.2 1 (by decide)]; exact h10
  refine lv_aload_n hx hb dX7_work_27 rfl (lv_at hl 1 rfl) ?_
  refine gm_29 S hK hI dX7_work_28 ?_
  refine lv_iload_n hx hb dX7_work_31 rfl (lv_at hl 3 rfl) ?_
  refine ln_7 (j := 4 * r + a) S hK hI (by omega) dX7_work_32 ?_
  refine lv_eqi (v := 3) (ea) ?_
  refine lv_tableIn (off := 81) (tgt := 114) hx hb dX7_work_33 (by decide) (by decide) (by decide) (by decide) ?_
  refine lv_aload_n hx hb dX7_work_114 rfl (lv_at hl 1 rfl) ?_
  refine gm_7 S hK hI dX7_work_115 ?_
  refine lv_iload_n hx hb dX7_work_118 rfl (lv_at hl 0 rfl) ?_
  refine ln_1 (j := t) S hK hI (by omega) dX7_work_119 ?_
  refine lv_eqi (v := (σ.1 1 t)) (rfl) ?_
  refine tw_calli (tw_rS (As := [.int (σ.1 1 t)]) (rest := []) S hK hI kX7_97 (c_X7_isOfThings l D ad _ _ _) ⟨Nat.le_of_ble_eq_true rfl, Nat.le_of_ble_eq_true rfl⟩ ⟨Nat.le_of_ble_eq_true rfl, Nat.le_of_ble_eq_true rfl⟩ rfl hl.1 rfl (Nat.le_of_ble_eq_true rfl) dX7_work_120) hI (fun H locs hI => ?_)
  refine lv_topi (fun x6 e6 => ?_)
  refine lv_if_eq (tgt := 180) hx hb dX7_work_123 (by decide) (fun c7 => ?_) (fun c7 => ?_)
  · refine lv_aload_n hx hb dX7_work_180 rfl (lv_at hl 1 rfl) ?_
    refine gm_64 S hK hI dX7_work_181 ?_
    refine lv_iload_n hx hb dX7_work_184 rfl (lv_at hl 2 rfl) ?_
    refine lv_dup2_11 hx hb dX7_work_185 rfl rfl ?_
    refine ln_23 (j := dp) S hK hI (by omega) dX7_work_186 ?_
    refine lv_eqi (v := (nI a)) (ha) ?_
    refine lv_iconst (v := 1) hx hb dX7_work_187 (by decide) ?_
    refine lv_iadd hx hb dX7_work_188 ?_
    refine lv_eqi (v := (nI (a + 1))) (nA (a := a) (b := 1) (c := a + 1) (by omega)) ?_
    refine sn_23 (j := dp) S hK hI (by omega) dX7_work_189 (fun H locs hI => ?_)
    subst e6
    rw [gr_fI _ _ rfl] at hI
    try rw [if_pos h1]
    exact tw_vret S hr hlocks hI dX7_work_190
  · exact (by subst e6; exact absurd h1 c7)

set_option maxHeartbeats 2000000 in
set_option maxRecDepth 100000 in
theorem c_X7_work_3last (l : Launch) (D : tw_G) (ad : Nat → Nat) (b : tw_W) (σ0 : Sg) (F : Nat → Nat → Int32) (sz : Nat) (dp r a t B : Nat) (hV0 : INV σ0 B) (hr8 : r < 8) (ha4 : a < 4) (hdp : dp < 8) (h6 : t < 60) (hw : F 21 dp = nI t) (hm : F 22 dp = nI r) (ha : F 23 dp = nI a) (hn0 : t < nS σ0) (ea0 : σ0.1 7 (4 * r + a) = 3) (h10 : ¬ isThF (σ0.1 1 t) = 0) (hr7 : 7 ≤ r) : Met l yX7_work (tw_w yX7_work cX7_work 5 none) (tw_R 5 0 0) (tw_Pc D ad (wM b (gr σ0 F)) sz [.ref (ad 1000), .int (nI dp), .int (nI (4 * r + a))]) (tw_Q D ad (wM b (gr (wkF σ0 (4 * r + a)) (fI F 23 dp (nI (a + 1))))) (tw_A ad (wM b (gr σ0 F)) sz) none) 0 0 (tw_A ad (wM b (gr σ0 F)) sz) := by
  refine tw_met (by decide) rfl (by simp [lg_sl, Value.category]) (fun p e s m below meth c ls S hK hr hlocks hnm hsz hI hl => ?_)
  have hx := S.1
  have hb := S.2.1
  have hl : lv_has ls 5 [(0, .ref (ad 1000)), (1, .int (nI dp)), (2, .int (nI (4 * r + a)))] := hl
  refine lv_aload_n hx hb dX7_work_0 rfl (lv_at hl 0 rfl) ?_
  refine gm_58 S hK hI dX7_work_1 ?_
  refine lv_iload_n hx hb dX7_work_4 rfl (lv_at hl 1 rfl) ?_
  refine ln_21 (j := dp) S hK hI (by omega) dX7_work_5 ?_
  refine lv_eqi (v := (nI t)) (hw) ?_
  refine lv_istore_n (lv' := [(3, .int (nI t)), (0, .ref (ad 1000)), (1, .int (nI dp)), (2, .int (nI (4 * r + a)))]) hx hb dX7_work_6 rfl hl (by decide) rfl (fun ls hl => ?_)
  refine lv_aload_n hx hb dX7_work_7 rfl (lv_at hl 1 rfl) ?_
  refine gm_42 S hK hI dX7_work_8 ?_
  refine lv_iload_n hx hb dX7_work_11 rfl (lv_at hl 3 rfl) ?_
  refine lv_dup2_11 hx hb dX7_work_12 rfl rfl ?_
  refine ln_11 (j := 4 * r + a) S hK hI (by omega) dX7_work_13 ?_
  refine lv_topi (fun x1 e1 => ?_)
  refine lv_iconst (v := 1) hx hb dX7_work_14 (by decide) ?_
  refine lv_iadd hx hb dX7_work_15 ?_
  refine lv_topi (fun x2 e2 => ?_)
  refine sn_11 (j := 4 * r + a) S hK hI (by omega) dX7_work_16 (fun H locs hI => ?_)
  refine lv_aload_n hx hb dX7_work_17 rfl (lv_at hl 1 rfl) ?_
  refine lv_dup hx hb dX7_work_18 rfl ?_
  refine gm_152 S hK hI dX7_work_19 ?_
  refine lv_topi (fun x3 e3 => ?_)
  refine lv_iconst (v := 1) hx hb dX7_work_22 (by decide) ?_
  refine lv_iadd hx hb dX7_work_23 ?_
  refine lv_topi (fun x4 e4 => ?_)
  refine pm_152 S hK hI dX7_work_24 (fun H locs hI => ?_)
  subst e4
  subst e3
  subst e2
  subst e1
  have hI : tw_I D (tw_A ad (wM b (gr σ0 F)) sz) ad (wM b (gr (wkF σ0 (4 * r + a)) F)) s.heap H locs := by rw [← gr_wk]; exact hI
  have hk := wk_Kp (d := 4 * r + a) hV0
  generalize wkF σ0 (4 * r + a) = σ at hI hk ⊢
  have hV := hk.1
  have ea : σ.1 7 (4 * r + a) = 3 := by rw [hk.2 7 (by decide)]; exact ea0
  have h1 : ¬ isThF (σ.1 1 t) = 0 := by rw [hk.2 1 (by decide)]; exact h10
  refine lv_aload_n hx hb dX7_work_27 rfl (lv_at hl 1 rfl) ?_
  refine gm_29 S hK hI dX7_work_28 ?_
  refine lv_iload_n hx hb dX7_work_31 rfl (lv_at hl 3 rfl) ?_
  refine ln_7 (j := 4 * r + a) S hK hI (by omega) dX7_work_32 ?_
  refine lv_eqi (v := 3) (ea) ?_
  refine lv_tableIn (off := 81) (tgt := 114) hx hb dX7_work_33 (by decide) (by decide) (by decide) (by decide) ?_
  refine lv_aload_n hx hb dX7_work_114 rfl (lv_at hl 1 rfl) ?_
  refine gm_7 S hK hI dX7_work_115 ?_
  refine lv_iload_n hx hb dX7_work_118 rfl (lv_at hl 0 rfl) ?_
  refine ln_1 (j := t) S hK hI (by omega) dX7_work_119 ?_
  refine lv_eqi (v := (σ.1 1 t)) (rfl) ?_
  refine tw_calli (tw_rS (As := [.int (σ.1 1 t)]) (rest := []) S hK hI kX7_97 (c_X7_isOfThings l D ad _ _ _) ⟨Nat.le_of_ble_eq_true rfl, Nat.le_of_ble_eq_true rfl⟩ ⟨Nat.le_of_ble_eq_true rfl, Nat.le_of_ble_eq_true rfl⟩ rfl hl.1 rfl (Nat.le_of_ble_eq_true rfl) dX7_work_120) hI (fun H locs hI => ?_)
  refine lv_topi (fun x6 e6 => ?_)
  refine lv_if_eq (tgt := 180) hx hb dX7_work_123 (by decide) (fun c7 => ?_) (fun c7 => ?_)
  · exact (by subst e6; exact absurd c7 h1)
  · refine lv_aload_n hx hb dX7_work_126 rfl (lv_at hl 1 rfl) ?_
    refine gm_61 S hK hI dX7_work_127 ?_
    refine lv_iload_n hx hb dX7_work_130 rfl (lv_at hl 2 rfl) ?_
    refine ln_22 (j := dp) S hK hI (by omega) dX7_work_131 ?_
    refine lv_eqi (v := (nI r)) (hm) ?_
    refine lv_bipush (v := 7) hx hb dX7_work_132 (by decide) ?_
    refine lv_icmp_ge (tgt := 180) hx hb dX7_work_134 (by decide) (fun c8 => ?_) (fun c8 => ?_)
    · refine lv_aload_n hx hb dX7_work_180 rfl (lv_at hl 1 rfl) ?_
      refine gm_64 S hK hI dX7_work_181 ?_
      refine lv_iload_n hx hb dX7_work_184 rfl (lv_at hl 2 rfl) ?_
      refine lv_dup2_11 hx hb dX7_work_185 rfl rfl ?_
      refine ln_23 (j := dp) S hK hI (by omega) dX7_work_186 ?_
      refine lv_eqi (v := (nI a)) (ha) ?_
      refine lv_iconst (v := 1) hx hb dX7_work_187 (by decide) ?_
      refine lv_iadd hx hb dX7_work_188 ?_
      refine lv_eqi (v := (nI (a + 1))) (nA (a := a) (b := 1) (c := a + 1) (by omega)) ?_
      refine sn_23 (j := dp) S hK hI (by omega) dX7_work_189 (fun H locs hI => ?_)
      subst e6
      rw [gr_fI _ _ rfl] at hI
      try rw [if_neg h1]
      exact tw_vret S hr hlocks hI dX7_work_190
    · exact absurd (nI_le (a := 7) (b := r) hr7 (by omega)) c8

set_option maxHeartbeats 2000000 in
set_option maxRecDepth 100000 in
theorem c_X7_work_3s (l : Launch) (D : tw_G) (ad : Nat → Nat) (b : tw_W) (σ0 : Sg) (F : Nat → Nat → Int32) (sz : Nat) (dp r a t B : Nat) (hV0 : INV σ0 B) (hr8 : r < 8) (ha4 : a < 4) (hdp : dp < 8) (h6 : t < 60) (hw : F 21 dp = nI t) (hm : F 22 dp = nI r) (ha : F 23 dp = nI a) (hn0 : t < nS σ0) (ea0 : σ0.1 7 (4 * r + a) = 3) (h10 : ¬ isThF (σ0.1 1 t) = 0) (hr7 : r < 7) : Met l yX7_work (tw_w yX7_work cX7_work 5 none) (tw_R 5 0 0) (tw_Pc D ad (wM b (gr σ0 F)) sz [.ref (ad 1000), .int (nI dp), .int (nI (4 * r + a))]) (tw_Q D ad (wM b (gr (wkF σ0 (4 * r + a)) (fI F 24 dp 0))) (tw_A ad (wM b (gr σ0 F)) sz) none) 0 0 (tw_A ad (wM b (gr σ0 F)) sz) := by
  refine tw_met (by decide) rfl (by simp [lg_sl, Value.category]) (fun p e s m below meth c ls S hK hr hlocks hnm hsz hI hl => ?_)
  have hx := S.1
  have hb := S.2.1
  have hl : lv_has ls 5 [(0, .ref (ad 1000)), (1, .int (nI dp)), (2, .int (nI (4 * r + a)))] := hl
  refine lv_aload_n hx hb dX7_work_0 rfl (lv_at hl 0 rfl) ?_
  refine gm_58 S hK hI dX7_work_1 ?_
  refine lv_iload_n hx hb dX7_work_4 rfl (lv_at hl 1 rfl) ?_
  refine ln_21 (j := dp) S hK hI (by omega) dX7_work_5 ?_
  refine lv_eqi (v := (nI t)) (hw) ?_
  refine lv_istore_n (lv' := [(3, .int (nI t)), (0, .ref (ad 1000)), (1, .int (nI dp)), (2, .int (nI (4 * r + a)))]) hx hb dX7_work_6 rfl hl (by decide) rfl (fun ls hl => ?_)
  refine lv_aload_n hx hb dX7_work_7 rfl (lv_at hl 1 rfl) ?_
  refine gm_42 S hK hI dX7_work_8 ?_
  refine lv_iload_n hx hb dX7_work_11 rfl (lv_at hl 3 rfl) ?_
  refine lv_dup2_11 hx hb dX7_work_12 rfl rfl ?_
  refine ln_11 (j := 4 * r + a) S hK hI (by omega) dX7_work_13 ?_
  refine lv_topi (fun x1 e1 => ?_)
  refine lv_iconst (v := 1) hx hb dX7_work_14 (by decide) ?_
  refine lv_iadd hx hb dX7_work_15 ?_
  refine lv_topi (fun x2 e2 => ?_)
  refine sn_11 (j := 4 * r + a) S hK hI (by omega) dX7_work_16 (fun H locs hI => ?_)
  refine lv_aload_n hx hb dX7_work_17 rfl (lv_at hl 1 rfl) ?_
  refine lv_dup hx hb dX7_work_18 rfl ?_
  refine gm_152 S hK hI dX7_work_19 ?_
  refine lv_topi (fun x3 e3 => ?_)
  refine lv_iconst (v := 1) hx hb dX7_work_22 (by decide) ?_
  refine lv_iadd hx hb dX7_work_23 ?_
  refine lv_topi (fun x4 e4 => ?_)
  refine pm_152 S hK hI dX7_work_24 (fun H locs hI => ?_)
  subst e4
  subst e3
  subst e2
  subst e1
  have hI : tw_I D (tw_A ad (wM b (gr σ0 F)) sz) ad (wM b (gr (wkF σ0 (4 * r + a)) F)) s.heap H locs := by rw [← gr_wk]; exact hI
  have hk := wk_Kp (d := 4 * r + a) hV0
  generalize wkF σ0 (4 * r + a) = σ at hI hk ⊢
  have hV := hk.1
  have ea : σ.1 7 (4 * r + a) = 3 := by rw [hk.2 7 (by decide)]; exact ea0
  have h1 : ¬ isThF (σ.1 1 t) = 0 := by rw [hk.2 1 (by decide)]; exact h10
  refine lv_aload_n hx hb dX7_work_27 rfl (lv_at hl 1 rfl) ?_
  refine gm_29 S hK hI dX7_work_28 ?_
  refine lv_iload_n hx hb dX7_work_31 rfl (lv_at hl 3 rfl) ?_
  refine ln_7 (j := 4 * r + a) S hK hI (by omega) dX7_work_32 ?_
  refine lv_eqi (v := 3) (ea) ?_
  refine lv_tableIn (off := 81) (tgt := 114) hx hb dX7_work_33 (by decide) (by decide) (by decide) (by decide) ?_
  refine lv_aload_n hx hb dX7_work_114 rfl (lv_at hl 1 rfl) ?_
  refine gm_7 S hK hI dX7_work_115 ?_
  refine lv_iload_n hx hb dX7_work_118 rfl (lv_at hl 0 rfl) ?_
  refine ln_1 (j := t) S hK hI (by omega) dX7_work_119 ?_
  refine lv_eqi (v := (σ.1 1 t)) (rfl) ?_
  refine tw_calli (tw_rS (As := [.int (σ.1 1 t)]) (rest := []) S hK hI kX7_97 (c_X7_isOfThings l D ad _ _ _) ⟨Nat.le_of_ble_eq_true rfl, Nat.le_of_ble_eq_true rfl⟩ ⟨Nat.le_of_ble_eq_true rfl, Nat.le_of_ble_eq_true rfl⟩ rfl hl.1 rfl (Nat.le_of_ble_eq_true rfl) dX7_work_120) hI (fun H locs hI => ?_)
  refine lv_topi (fun x6 e6 => ?_)
  refine lv_if_eq (tgt := 180) hx hb dX7_work_123 (by decide) (fun c7 => ?_) (fun c7 => ?_)
  · exact (by subst e6; exact absurd c7 h1)
  · refine lv_aload_n hx hb dX7_work_126 rfl (lv_at hl 1 rfl) ?_
    refine gm_61 S hK hI dX7_work_127 ?_
    refine lv_iload_n hx hb dX7_work_130 rfl (lv_at hl 2 rfl) ?_
    refine ln_22 (j := dp) S hK hI (by omega) dX7_work_131 ?_
    refine lv_eqi (v := (nI r)) (hm) ?_
    refine lv_bipush (v := 7) hx hb dX7_work_132 (by decide) ?_
    refine lv_icmp_ge (tgt := 180) hx hb dX7_work_134 (by decide) (fun c8 => ?_) (fun c8 => ?_)
    · exact absurd c8 (nI_ge (a := r) (b := 7) hr7 (by decide))
    · refine lv_aload_n hx hb dX7_work_137 rfl (lv_at hl 1 rfl) ?_
      refine gm_67 S hK hI dX7_work_138 ?_
      refine lv_iload_n hx hb dX7_work_141 rfl (lv_at hl 2 rfl) ?_
      refine lv_iconst (v := 0) hx hb dX7_work_142 (by decide) ?_
      refine sn_24 (j := dp) S hK hI (by omega) dX7_work_143 (fun H locs hI => ?_)
      subst e6
      rw [gr_fI _ _ rfl] at hI
      try rw [if_neg h1]
      exact tw_vret S hr hlocks hI dX7_work_144

set_option maxHeartbeats 2000000 in
set_option maxRecDepth 100000 in
theorem c_X7_work_4n (l : Launch) (D : tw_G) (ad : Nat → Nat) (b : tw_W) (σ0 : Sg) (F : Nat → Nat → Int32) (sz : Nat) (dp r a t B : Nat) (hV0 : INV σ0 B) (hr8 : r < 8) (ha4 : a < 4) (hdp : dp < 8) (h6 : t < 60) (hw : F 21 dp = nI t) (hm : F 22 dp = nI r) (ha : F 23 dp = nI a) (hn0 : t < nS σ0) (ea0 : σ0.1 7 (4 * r + a) = 4) (hh0 : σ0.1 10 (4 * r + a) = -1) : Met l yX7_work (tw_w yX7_work cX7_work 5 none) (tw_R 5 0 0) (tw_Pc D ad (wM b (gr σ0 F)) sz [.ref (ad 1000), .int (nI dp), .int (nI (4 * r + a))]) (tw_Q D ad (wM b (gr (sI (wkF σ0 (4 * r + a)) 10 (4 * r + a) (nI t)) (endF F (-1)))) (tw_A ad (wM b (gr σ0 F)) sz) none) 0 0 (tw_A ad (wM b (gr σ0 F)) sz) := by
  refine tw_met (by decide) rfl (by simp [lg_sl, Value.category]) (fun p e s m below meth c ls S hK hr hlocks hnm hsz hI hl => ?_)
  have hx := S.1
  have hb := S.2.1
  have hl : lv_has ls 5 [(0, .ref (ad 1000)), (1, .int (nI dp)), (2, .int (nI (4 * r + a)))] := hl
  refine lv_aload_n hx hb dX7_work_0 rfl (lv_at hl 0 rfl) ?_
  refine gm_58 S hK hI dX7_work_1 ?_
  refine lv_iload_n hx hb dX7_work_4 rfl (lv_at hl 1 rfl) ?_
  refine ln_21 (j := dp) S hK hI (by omega) dX7_work_5 ?_
  refine lv_eqi (v := (nI t)) (hw) ?_
  refine lv_istore_n (lv' := [(3, .int (nI t)), (0, .ref (ad 1000)), (1, .int (nI dp)), (2, .int (nI (4 * r + a)))]) hx hb dX7_work_6 rfl hl (by decide) rfl (fun ls hl => ?_)
  refine lv_aload_n hx hb dX7_work_7 rfl (lv_at hl 1 rfl) ?_
  refine gm_42 S hK hI dX7_work_8 ?_
  refine lv_iload_n hx hb dX7_work_11 rfl (lv_at hl 3 rfl) ?_
  refine lv_dup2_11 hx hb dX7_work_12 rfl rfl ?_
  refine ln_11 (j := 4 * r + a) S hK hI (by omega) dX7_work_13 ?_
  refine lv_topi (fun x1 e1 => ?_)
  refine lv_iconst (v := 1) hx hb dX7_work_14 (by decide) ?_
  refine lv_iadd hx hb dX7_work_15 ?_
  refine lv_topi (fun x2 e2 => ?_)
  refine sn_11 (j := 4 * r + a) S hK hI (by omega) dX7_work_16 (fun H locs hI => ?_)
  refine lv_aload_n hx hb dX7_work_17 rfl (lv_at hl 1 rfl) ?_
  refine lv_dup hx hb dX7_work_18 rfl ?_
  refine gm_152 S hK hI dX7_work_19 ?_
  refine lv_topi (fun x3 e3 => ?_)
  refine lv_iconst (v := 1) hx hb dX7_work_22 (by decide) ?_
  refine lv_iadd hx hb dX7_work_23 ?_
  refine lv_topi (fun x4 e4 => ?_)
  refine pm_152 S hK hI dX7_work_24 (fun H locs hI => ?_)
  subst e4
  subst e3
  subst e2
  subst e1
  have hI : tw_I D (tw_A ad (wM b (gr σ0 F)) sz) ad (wM b (gr (wkF σ0 (4 * r + a)) F)) s.heap H locs := by rw [← gr_wk]; exact hI
  have hk := wk_Kp (d := 4 * r + a) hV0
  have hh1 : (wkF σ0 (4 * r + a)).1 10 (4 * r + a) = _ := hh0
  generalize wkF σ0 (4 * r + a) = σ at hI hk ⊢ hh1
  have hV := hk.1
  have ea : σ.1 7 (4 * r + a) = 4 := by rw [hk.2 7 (by decide)]; exact ea0
  have hh : σ.1 10 (4 * r + a) = -1 := hh1
  refine lv_aload_n hx hb dX7_work_27 rfl (lv_at hl 1 rfl) ?_
  refine gm_29 S hK hI dX7_work_28 ?_
  refine lv_iload_n hx hb dX7_work_31 rfl (lv_at hl 3 rfl) ?_
  refine ln_7 (j := 4 * r + a) S hK hI (by omega) dX7_work_32 ?_
  refine lv_eqi (v := 4) (ea) ?_
  refine lv_tableOut (tgt := 145) hx hb dX7_work_33 (by decide) (by decide) ?_
  refine lv_aload_n hx hb dX7_work_145 rfl (lv_at hl 1 rfl) ?_
  refine gm_39 S hK hI dX7_work_146 ?_
  refine lv_iload_n hx hb dX7_work_149 rfl (lv_at hl 3 rfl) ?_
  refine ln_10 (j := 4 * r + a) S hK hI (by omega) dX7_work_150 ?_
  refine lv_eqi (v := (-1)) (hh) ?_
  refine lv_istore (lv' := [(4, .int (-1)), (3, .int (nI t)), (0, .ref (ad 1000)), (1, .int (nI dp)), (2, .int (nI (4 * r + a)))]) hx hb dX7_work_151 hl (by decide) rfl (fun ls hl => ?_)
  refine lv_aload_n hx hb dX7_work_153 rfl (lv_at hl 2 rfl) ?_
  refine gm_39 S hK hI dX7_work_154 ?_
  refine lv_iload_n hx hb dX7_work_157 rfl (lv_at hl 4 rfl) ?_
  refine lv_iload_n hx hb dX7_work_158 rfl (lv_at hl 1 rfl) ?_
  refine sn_10 (j := 4 * r + a) S hK hI (by omega) dX7_work_159 (fun H locs hI => ?_)
  refine lv_iload hx hb dX7_work_160 (lv_at hl 0 rfl) ?_
  refine lv_iconst (v := (-1)) hx hb dX7_work_162 (by decide) ?_
  refine lv_icmp_ne (tgt := 172) hx hb dX7_work_163 (by decide) (fun c6 => ?_) (fun c6 => ?_)
  · exact absurd c6 (by decide)
  · refine lv_aload_n hx hb dX7_work_166 rfl (lv_at hl 2 rfl) ?_
    refine lv_iconst (v := (-1)) hx hb dX7_work_167 (by decide) ?_
    refine tw_callv (tw_rV (As := [.int (-1)]) (rest := []) S hK hI kX7_161 (c_X7_ends l D ad _ _ _ _) (t := 1000) (fs := mRoot _) rfl rfl rfl ⟨Nat.le_of_ble_eq_true rfl, Nat.le_of_ble_eq_true rfl⟩ ⟨Nat.le_of_ble_eq_true rfl, Nat.le_of_ble_eq_true rfl⟩ rfl hl.1 rfl (Nat.le_of_ble_eq_true rfl) dX7_work_168) hI (fun H locs hI => ?_)
    rw [gr_sI _ _ rfl, gr_ends] at hI
    try rw [if_pos (show ((-1) : Int32) = (-1) from by decide)]
    exact tw_vret S hr hlocks hI dX7_work_171

set_option maxHeartbeats 2000000 in
set_option maxRecDepth 100000 in
theorem c_X7_work_4s (l : Launch) (D : tw_G) (ad : Nat → Nat) (b : tw_W) (σ0 : Sg) (F : Nat → Nat → Int32) (sz : Nat) (dp r a t q B : Nat) (hV0 : INV σ0 B) (hr8 : r < 8) (ha4 : a < 4) (hdp : dp < 8) (h6 : t < 60) (hw : F 21 dp = nI t) (hm : F 22 dp = nI r) (ha : F 23 dp = nI a) (hn0 : t < nS σ0) (ea0 : σ0.1 7 (4 * r + a) = 4) (hh0 : σ0.1 10 (4 * r + a) = nI q) (hq6 : q < 60) : Met l yX7_work (tw_w yX7_work cX7_work 5 none) (tw_R 5 0 0) (tw_Pc D ad (wM b (gr σ0 F)) sz [.ref (ad 1000), .int (nI dp), .int (nI (4 * r + a))]) (tw_Q D ad (wM b (gr (sI (wkF σ0 (4 * r + a)) 10 (4 * r + a) (nI t)) (fI (fI F 21 dp (nI q)) 23 dp (nI (a + 1))))) (tw_A ad (wM b (gr σ0 F)) sz) none) 0 0 (tw_A ad (wM b (gr σ0 F)) sz) := by
  refine tw_met (by decide) rfl (by simp [lg_sl, Value.category]) (fun p e s m below meth c ls S hK hr hlocks hnm hsz hI hl => ?_)
  have hx := S.1
  have hb := S.2.1
  have hl : lv_has ls 5 [(0, .ref (ad 1000)), (1, .int (nI dp)), (2, .int (nI (4 * r + a)))] := hl
  refine lv_aload_n hx hb dX7_work_0 rfl (lv_at hl 0 rfl) ?_
  refine gm_58 S hK hI dX7_work_1 ?_
  refine lv_iload_n hx hb dX7_work_4 rfl (lv_at hl 1 rfl) ?_
  refine ln_21 (j := dp) S hK hI (by omega) dX7_work_5 ?_
  refine lv_eqi (v := (nI t)) (hw) ?_
  refine lv_istore_n (lv' := [(3, .int (nI t)), (0, .ref (ad 1000)), (1, .int (nI dp)), (2, .int (nI (4 * r + a)))]) hx hb dX7_work_6 rfl hl (by decide) rfl (fun ls hl => ?_)
  refine lv_aload_n hx hb dX7_work_7 rfl (lv_at hl 1 rfl) ?_
  refine gm_42 S hK hI dX7_work_8 ?_
  refine lv_iload_n hx hb dX7_work_11 rfl (lv_at hl 3 rfl) ?_
  refine lv_dup2_11 hx hb dX7_work_12 rfl rfl ?_
  refine ln_11 (j := 4 * r + a) S hK hI (by omega) dX7_work_13 ?_
  refine lv_topi (fun x1 e1 => ?_)
  refine lv_iconst (v := 1) hx hb dX7_work_14 (by decide) ?_
  refine lv_iadd hx hb dX7_work_15 ?_
  refine lv_topi (fun x2 e2 => ?_)
  refine sn_11 (j := 4 * r + a) S hK hI (by omega) dX7_work_16 (fun H locs hI => ?_)
  refine lv_aload_n hx hb dX7_work_17 rfl (lv_at hl 1 rfl) ?_
  refine lv_dup hx hb dX7_work_18 rfl ?_
  refine gm_152 S hK hI dX7_work_19 ?_
  refine lv_topi (fun x3 e3 => ?_)
  refine lv_iconst (v := 1) hx hb dX7_work_22 (by decide) ?_
  refine lv_iadd hx hb dX7_work_23 ?_
  refine lv_topi (fun x4 e4 => ?_)
  refine pm_152 S hK hI dX7_work_24 (fun H locs hI => ?_)
  subst e4
  subst e3
  subst e2
  subst e1
  have hI : tw_I D (tw_A ad (wM b (gr σ0 F)) sz) ad (wM b (gr (wkF σ0 (4 * r + a)) F)) s.heap H locs := by rw [← gr_wk]; exact hI
  have hk := wk_Kp (d := 4 * r + a) hV0
  have hh1 : (wkF σ0 (4 * r + a)).1 10 (4 * r + a) = _ := hh0
  generalize wkF σ0 (4 * r + a) = σ at hI hk ⊢ hh1
  have hV := hk.1
  have ea : σ.1 7 (4 * r + a) = 4 := by rw [hk.2 7 (by decide)]; exact ea0
  have hh : σ.1 10 (4 * r + a) = nI q := hh1
  refine lv_aload_n hx hb dX7_work_27 rfl (lv_at hl 1 rfl) ?_
  refine gm_29 S hK hI dX7_work_28 ?_
  refine lv_iload_n hx hb dX7_work_31 rfl (lv_at hl 3 rfl) ?_
  refine ln_7 (j := 4 * r + a) S hK hI (by omega) dX7_work_32 ?_
  refine lv_eqi (v := 4) (ea) ?_
  refine lv_tableOut (tgt := 145) hx hb dX7_work_33 (by decide) (by decide) ?_
  refine lv_aload_n hx hb dX7_work_145 rfl (lv_at hl 1 rfl) ?_
  refine gm_39 S hK hI dX7_work_146 ?_
  refine lv_iload_n hx hb dX7_work_149 rfl (lv_at hl 3 rfl) ?_
  refine ln_10 (j := 4 * r + a) S hK hI (by omega) dX7_work_150 ?_
  refine lv_eqi (v := (nI q)) (hh) ?_
  refine lv_istore (lv' := [(4, .int (nI q)), (3, .int (nI t)), (0, .ref (ad 1000)), (1, .int (nI dp)), (2, .int (nI (4 * r + a)))]) hx hb dX7_work_151 hl (by decide) rfl (fun ls hl => ?_)
  refine lv_aload_n hx hb dX7_work_153 rfl (lv_at hl 2 rfl) ?_
  refine gm_39 S hK hI dX7_work_154 ?_
  refine lv_iload_n hx hb dX7_work_157 rfl (lv_at hl 4 rfl) ?_
  refine lv_iload_n hx hb dX7_work_158 rfl (lv_at hl 1 rfl) ?_
  refine sn_10 (j := 4 * r + a) S hK hI (by omega) dX7_work_159 (fun H locs hI => ?_)
  refine lv_iload hx hb dX7_work_160 (lv_at hl 0 rfl) ?_
  refine lv_iconst (v := (-1)) hx hb dX7_work_162 (by decide) ?_
  refine lv_icmp_ne (tgt := 172) hx hb dX7_work_163 (by decide) (fun c6 => ?_) (fun c6 => ?_)
  · refine lv_aload_n hx hb dX7_work_172 rfl (lv_at hl 2 rfl) ?_
    refine gm_58 S hK hI dX7_work_173 ?_
    refine lv_iload_n hx hb dX7_work_176 rfl (lv_at hl 3 rfl) ?_
    refine lv_iload hx hb dX7_work_177 (lv_at hl 0 rfl) ?_
    refine sn_21 (j := dp) S hK hI (by omega) dX7_work_179 (fun H locs hI => ?_)
    refine lv_aload_n hx hb dX7_work_180 rfl (lv_at hl 2 rfl) ?_
    refine gm_64 S hK hI dX7_work_181 ?_
    refine lv_iload_n hx hb dX7_work_184 rfl (lv_at hl 3 rfl) ?_
    refine lv_dup2_11 hx hb dX7_work_185 rfl rfl ?_
    refine ln_23 (j := dp) S hK hI (by omega) dX7_work_186 ?_
    refine lv_eqi (v := (nI a)) (ha) ?_
    refine lv_iconst (v := 1) hx hb dX7_work_187 (by decide) ?_
    refine lv_iadd hx hb dX7_work_188 ?_
    refine lv_eqi (v := (nI (a + 1))) (nA (a := a) (b := 1) (c := a + 1) (by omega)) ?_
    refine sn_23 (j := dp) S hK hI (by omega) dX7_work_189 (fun H locs hI => ?_)
    rw [gr_sI _ _ rfl, gr_fI _ _ rfl, gr_fI _ _ rfl] at hI
    exact tw_vret S hr hlocks hI dX7_work_190
  · exact absurd c6 (nI_m1 (by omega))

set_option maxHeartbeats 2000000 in
set_option maxRecDepth 100000 in
theorem c_X7_comes_asks (l : Launch) (D : tw_G) (ad : Nat → Nat) (b : tw_W) (σ : Sg) (F : Nat → Nat → Int32) (sz : Nat) (dp r a t B : Nat) (hV : INV σ B) (hr8 : r < 8) (ha4 : a < 4) (hdp : dp < 8) (h6 : t < 60) (hw : F 21 dp = nI t) (hm : F 22 dp = nI r) (ha : F 23 dp = nI a) (hn : t < nS σ) (hg : goesF (σ.1 1 t) (σ.1 6 (4 * r + a)) = 0) (h8 : σ.1 8 (4 * r + a) = 1) : Met l yX7_comes (tw_w yX7_comes cX7_comes 3 none) (tw_R 6 0 0) (tw_Pc D ad (wM b (gr σ F)) sz [.ref (ad 1000), .int (nI dp)]) (tw_Q D ad (wM b (gr (σ) (fI F 23 dp (nI (a + 1))))) (tw_A ad (wM b (gr σ F)) sz) none) 0 0 (tw_A ad (wM b (gr σ F)) sz) := by
  refine tw_met (by decide) rfl (by simp [lg_sl, Value.category]) (fun p e s m below meth c ls S hK hr hlocks hnm hsz hI hl => ?_)
  have hx := S.1
  have hb := S.2.1
  have hl : lv_has ls 3 [(0, .ref (ad 1000)), (1, .int (nI dp))] := hl
  refine lv_iconst (v := 4) hx hb dX7_comes_0 (by decide) ?_
  refine lv_aload_n hx hb dX7_comes_1 rfl (lv_at hl 0 rfl) ?_
  refine gm_61 S hK hI dX7_comes_2 ?_
  refine lv_iload_n hx hb dX7_comes_5 rfl (lv_at hl 1 rfl) ?_
  refine ln_22 (j := dp) S hK hI (by omega) dX7_comes_6 ?_
  refine lv_eqi (v := (nI r)) (hm) ?_
  refine lv_imul hx hb dX7_comes_7 ?_
  refine lv_eqi (v := (nI (4 * r))) (nM (a := 4) (b := r) (c := 4 * r) (by omega)) ?_
  refine lv_aload_n hx hb dX7_comes_8 rfl (lv_at hl 0 rfl) ?_
  refine gm_64 S hK hI dX7_comes_9 ?_
  refine lv_iload_n hx hb dX7_comes_12 rfl (lv_at hl 1 rfl) ?_
  refine ln_23 (j := dp) S hK hI (by omega) dX7_comes_13 ?_
  refine lv_eqi (v := (nI a)) (ha) ?_
  refine lv_iadd hx hb dX7_comes_14 ?_
  refine lv_eqi (v := (nI (4 * r + a))) (nA (a := 4 * r) (b := a) (c := 4 * r + a) (by omega)) ?_
  refine lv_istore_n (lv' := [(2, .int (nI (4 * r + a))), (0, .ref (ad 1000)), (1, .int (nI dp))]) hx hb dX7_comes_15 rfl hl (by decide) rfl (fun ls hl => ?_)
  refine lv_aload_n hx hb dX7_comes_16 rfl (lv_at hl 1 rfl) ?_
  refine gm_7 S hK hI dX7_comes_17 ?_
  refine lv_aload_n hx hb dX7_comes_20 rfl (lv_at hl 1 rfl) ?_
  refine gm_58 S hK hI dX7_comes_21 ?_
  refine lv_iload_n hx hb dX7_comes_24 rfl (lv_at hl 2 rfl) ?_
  refine ln_21 (j := dp) S hK hI (by omega) dX7_comes_25 ?_
  refine lv_eqi (v := (nI t)) (hw) ?_
  refine ln_1 (j := t) S hK hI (by omega) dX7_comes_26 ?_
  refine lv_eqi (v := (σ.1 1 t)) (rfl) ?_
  refine lv_aload_n hx hb dX7_comes_27 rfl (lv_at hl 1 rfl) ?_
  refine gm_26 S hK hI dX7_comes_28 ?_
  refine lv_iload_n hx hb dX7_comes_31 rfl (lv_at hl 0 rfl) ?_
  refine ln_6 (j := 4 * r + a) S hK hI (by omega) dX7_comes_32 ?_
  refine lv_eqi (v := (σ.1 6 (4 * r + a))) (rfl) ?_
  refine tw_calli (tw_rS (As := [.int (σ.1 1 t), .int (σ.1 6 (4 * r + a))]) (rest := []) S hK hI kX7_124 (c_X7_goes l D ad _ _ _ _) ⟨Nat.le_of_ble_eq_true rfl, Nat.le_of_ble_eq_true rfl⟩ ⟨Nat.le_of_ble_eq_true rfl, Nat.le_of_ble_eq_true rfl⟩ rfl hl.1 rfl (Nat.le_of_ble_eq_true rfl) dX7_comes_33) hI (fun H locs hI => ?_)
  refine lv_topi (fun x1 e1 => ?_)
  refine lv_if_eq (tgt := 48) hx hb dX7_comes_36 (by decide) (fun c2 => ?_) (fun c2 => ?_)
  · refine lv_aload_n hx hb dX7_comes_48 rfl (lv_at hl 1 rfl) ?_
    refine gm_32 S hK hI dX7_comes_49 ?_
    refine lv_iload_n hx hb dX7_comes_52 rfl (lv_at hl 0 rfl) ?_
    refine ln_8 (j := 4 * r + a) S hK hI (by omega) dX7_comes_53 ?_
    refine lv_eqi (v := 1) (h8) ?_
    refine lv_if_ne (tgt := 66) hx hb dX7_comes_54 (by decide) (fun c3 => ?_) (fun c3 => ?_)
    · refine lv_aload_n hx hb dX7_comes_66 rfl (lv_at hl 1 rfl) ?_
      refine gm_64 S hK hI dX7_comes_67 ?_
      refine lv_iload_n hx hb dX7_comes_70 rfl (lv_at hl 2 rfl) ?_
      refine lv_dup2_11 hx hb dX7_comes_71 rfl rfl ?_
      refine ln_23 (j := dp) S hK hI (by omega) dX7_comes_72 ?_
      refine lv_eqi (v := (nI a)) (ha) ?_
      refine lv_iconst (v := 1) hx hb dX7_comes_73 (by decide) ?_
      refine lv_iadd hx hb dX7_comes_74 ?_
      refine lv_eqi (v := (nI (a + 1))) (nA (a := a) (b := 1) (c := a + 1) (by omega)) ?_
      refine sn_23 (j := dp) S hK hI (by omega) dX7_comes_75 (fun H locs hI => ?_)
      refine lv_goto (tgt := 123) hx hb dX7_comes_76 (by decide) ?_
      subst e1
      rw [gr_fI _ _ rfl] at hI
      try rw [if_pos hg]
      try rw [if_neg (show ¬ (1 : Int32) = 0 from by decide)]
      exact tw_vret S hr hlocks hI dX7_comes_123
    · exact absurd c3 (by decide)
  · exact (by subst e1; exact absurd hg c2)

set_option maxHeartbeats 2000000 in
set_option maxRecDepth 100000 in
theorem c_X7_comes_gave (l : Launch) (D : tw_G) (ad : Nat → Nat) (b : tw_W) (σ : Sg) (F : Nat → Nat → Int32) (sz : Nat) (dp r a t B : Nat) (hV : INV σ B) (hr8 : r < 8) (ha4 : a < 4) (hdp : dp < 8) (h6 : t < 60) (hw : F 21 dp = nI t) (hm : F 22 dp = nI r) (ha : F 23 dp = nI a) (hn : t < nS σ) (hg : goesF (σ.1 1 t) (σ.1 6 (4 * r + a)) = 0) (h8 : σ.1 8 (4 * r + a) = 0) (h14 : σ.1 14 (4 * r + a) = 1) : Met l yX7_comes (tw_w yX7_comes cX7_comes 3 none) (tw_R 6 0 0) (tw_Pc D ad (wM b (gr σ F)) sz [.ref (ad 1000), .int (nI dp)]) (tw_Q D ad (wM b (gr (σ) (fI F 23 dp (nI (a + 1))))) (tw_A ad (wM b (gr σ F)) sz) none) 0 0 (tw_A ad (wM b (gr σ F)) sz) := by
  refine tw_met (by decide) rfl (by simp [lg_sl, Value.category]) (fun p e s m below meth c ls S hK hr hlocks hnm hsz hI hl => ?_)
  have hx := S.1
  have hb := S.2.1
  have hl : lv_has ls 3 [(0, .ref (ad 1000)), (1, .int (nI dp))] := hl
  refine lv_iconst (v := 4) hx hb dX7_comes_0 (by decide) ?_
  refine lv_aload_n hx hb dX7_comes_1 rfl (lv_at hl 0 rfl) ?_
  refine gm_61 S hK hI dX7_comes_2 ?_
  refine lv_iload_n hx hb dX7_comes_5 rfl (lv_at hl 1 rfl) ?_
  refine ln_22 (j := dp) S hK hI (by omega) dX7_comes_6 ?_
  refine lv_eqi (v := (nI r)) (hm) ?_
  refine lv_imul hx hb dX7_comes_7 ?_
  refine lv_eqi (v := (nI (4 * r))) (nM (a := 4) (b := r) (c := 4 * r) (by omega)) ?_
  refine lv_aload_n hx hb dX7_comes_8 rfl (lv_at hl 0 rfl) ?_
  refine gm_64 S hK hI dX7_comes_9 ?_
  refine lv_iload_n hx hb dX7_comes_12 rfl (lv_at hl 1 rfl) ?_
  refine ln_23 (j := dp) S hK hI (by omega) dX7_comes_13 ?_
  refine lv_eqi (v := (nI a)) (ha) ?_
  refine lv_iadd hx hb dX7_comes_14 ?_
  refine lv_eqi (v := (nI (4 * r + a))) (nA (a := 4 * r) (b := a) (c := 4 * r + a) (by omega)) ?_
  refine lv_istore_n (lv' := [(2, .int (nI (4 * r + a))), (0, .ref (ad 1000)), (1, .int (nI dp))]) hx hb dX7_comes_15 rfl hl (by decide) rfl (fun ls hl => ?_)
  refine lv_aload_n hx hb dX7_comes_16 rfl (lv_at hl 1 rfl) ?_
  refine gm_7 S hK hI dX7_comes_17 ?_
  refine lv_aload_n hx hb dX7_comes_20 rfl (lv_at hl 1 rfl) ?_
  refine gm_58 S hK hI dX7_comes_21 ?_
  refine lv_iload_n hx hb dX7_comes_24 rfl (lv_at hl 2 rfl) ?_
  refine ln_21 (j := dp) S hK hI (by omega) dX7_comes_25 ?_
  refine lv_eqi (v := (nI t)) (hw) ?_
  refine ln_1 (j := t) S hK hI (by omega) dX7_comes_26 ?_
  refine lv_eqi (v := (σ.1 1 t)) (rfl) ?_
  refine lv_aload_n hx hb dX7_comes_27 rfl (lv_at hl 1 rfl) ?_
  refine gm_26 S hK hI dX7_comes_28 ?_
  refine lv_iload_n hx hb dX7_comes_31 rfl (lv_at hl 0 rfl) ?_
  refine ln_6 (j := 4 * r + a) S hK hI (by omega) dX7_comes_32 ?_
  refine lv_eqi (v := (σ.1 6 (4 * r + a))) (rfl) ?_
  refine tw_calli (tw_rS (As := [.int (σ.1 1 t), .int (σ.1 6 (4 * r + a))]) (rest := []) S hK hI kX7_124 (c_X7_goes l D ad _ _ _ _) ⟨Nat.le_of_ble_eq_true rfl, Nat.le_of_ble_eq_true rfl⟩ ⟨Nat.le_of_ble_eq_true rfl, Nat.le_of_ble_eq_true rfl⟩ rfl hl.1 rfl (Nat.le_of_ble_eq_true rfl) dX7_comes_33) hI (fun H locs hI => ?_)
  refine lv_topi (fun x1 e1 => ?_)
  refine lv_if_eq (tgt := 48) hx hb dX7_comes_36 (by decide) (fun c2 => ?_) (fun c2 => ?_)
  · refine lv_aload_n hx hb dX7_comes_48 rfl (lv_at hl 1 rfl) ?_
    refine gm_32 S hK hI dX7_comes_49 ?_
    refine lv_iload_n hx hb dX7_comes_52 rfl (lv_at hl 0 rfl) ?_
    refine ln_8 (j := 4 * r + a) S hK hI (by omega) dX7_comes_53 ?_
    refine lv_eqi (v := 0) (h8) ?_
    refine lv_if_ne (tgt := 66) hx hb dX7_comes_54 (by decide) (fun c3 => ?_) (fun c3 => ?_)
    · exact absurd c3 (by decide)
    · refine lv_aload_n hx hb dX7_comes_57 rfl (lv_at hl 1 rfl) ?_
      refine gm_51 S hK hI dX7_comes_58 ?_
      refine lv_iload_n hx hb dX7_comes_61 rfl (lv_at hl 0 rfl) ?_
      refine ln_14 (j := 4 * r + a) S hK hI (by omega) dX7_comes_62 ?_
      refine lv_eqi (v := 1) (h14) ?_
      refine lv_if_eq (tgt := 79) hx hb dX7_comes_63 (by decide) (fun c4 => ?_) (fun c4 => ?_)
      · exact absurd c4 (by decide)
      · refine lv_aload_n hx hb dX7_comes_66 rfl (lv_at hl 1 rfl) ?_
        refine gm_64 S hK hI dX7_comes_67 ?_
        refine lv_iload_n hx hb dX7_comes_70 rfl (lv_at hl 2 rfl) ?_
        refine lv_dup2_11 hx hb dX7_comes_71 rfl rfl ?_
        refine ln_23 (j := dp) S hK hI (by omega) dX7_comes_72 ?_
        refine lv_eqi (v := (nI a)) (ha) ?_
        refine lv_iconst (v := 1) hx hb dX7_comes_73 (by decide) ?_
        refine lv_iadd hx hb dX7_comes_74 ?_
        refine lv_eqi (v := (nI (a + 1))) (nA (a := a) (b := 1) (c := a + 1) (by omega)) ?_
        refine sn_23 (j := dp) S hK hI (by omega) dX7_comes_75 (fun H locs hI => ?_)
        refine lv_goto (tgt := 123) hx hb dX7_comes_76 (by decide) ?_
        subst e1
        rw [gr_fI _ _ rfl] at hI
        try rw [if_pos hg]
        try rw [if_pos (show (0 : Int32) = 0 from by decide)]
        try rw [if_neg (show ¬ (1 : Int32) = 0 from by decide)]
        exact tw_vret S hr hlocks hI dX7_comes_123
  · exact (by subst e1; exact absurd hg c2)

set_option maxHeartbeats 2000000 in
set_option maxRecDepth 100000 in
theorem c_X7_comes_give (l : Launch) (D : tw_G) (ad : Nat → Nat) (b : tw_W) (σ : Sg) (F : Nat → Nat → Int32) (sz : Nat) (dp r a t B : Nat) (hV : INV σ B) (hr8 : r < 8) (ha4 : a < 4) (hdp : dp < 8) (h6 : t < 60) (hw : F 21 dp = nI t) (hm : F 22 dp = nI r) (ha : F 23 dp = nI a) (hn : t < nS σ) (hg : goesF (σ.1 1 t) (σ.1 6 (4 * r + a)) = 0) (h8 : σ.1 8 (4 * r + a) = 0) (h14 : σ.1 14 (4 * r + a) = 0) : Met l yX7_comes (tw_w yX7_comes cX7_comes 3 none) (tw_R 6 0 0) (tw_Pc D ad (wM b (gr σ F)) sz [.ref (ad 1000), .int (nI dp)]) (tw_Q D ad (wM b (gr (giveF σ (4 * r + a) t) (endF F (-1)))) (tw_A ad (wM b (gr σ F)) sz) none) 0 0 (tw_A ad (wM b (gr σ F)) sz) := by
  refine tw_met (by decide) rfl (by simp [lg_sl, Value.category]) (fun p e s m below meth c ls S hK hr hlocks hnm hsz hI hl => ?_)
  have hx := S.1
  have hb := S.2.1
  have hl : lv_has ls 3 [(0, .ref (ad 1000)), (1, .int (nI dp))] := hl
  refine lv_iconst (v := 4) hx hb dX7_comes_0 (by decide) ?_
  refine lv_aload_n hx hb dX7_comes_1 rfl (lv_at hl 0 rfl) ?_
  refine gm_61 S hK hI dX7_comes_2 ?_
  refine lv_iload_n hx hb dX7_comes_5 rfl (lv_at hl 1 rfl) ?_
  refine ln_22 (j := dp) S hK hI (by omega) dX7_comes_6 ?_
  refine lv_eqi (v := (nI r)) (hm) ?_
  refine lv_imul hx hb dX7_comes_7 ?_
  refine lv_eqi (v := (nI (4 * r))) (nM (a := 4) (b := r) (c := 4 * r) (by omega)) ?_
  refine lv_aload_n hx hb dX7_comes_8 rfl (lv_at hl 0 rfl) ?_
  refine gm_64 S hK hI dX7_comes_9 ?_
  refine lv_iload_n hx hb dX7_comes_12 rfl (lv_at hl 1 rfl) ?_
  refine ln_23 (j := dp) S hK hI (by omega) dX7_comes_13 ?_
  refine lv_eqi (v := (nI a)) (ha) ?_
  refine lv_iadd hx hb dX7_comes_14 ?_
  refine lv_eqi (v := (nI (4 * r + a))) (nA (a := 4 * r) (b := a) (c := 4 * r + a) (by omega)) ?_
  refine lv_istore_n (lv' := [(2, .int (nI (4 * r + a))), (0, .ref (ad 1000)), (1, .int (nI dp))]) hx hb dX7_comes_15 rfl hl (by decide) rfl (fun ls hl => ?_)
  refine lv_aload_n hx hb dX7_comes_16 rfl (lv_at hl 1 rfl) ?_
  refine gm_7 S hK hI dX7_comes_17 ?_
  refine lv_aload_n hx hb dX7_comes_20 rfl (lv_at hl 1 rfl) ?_
  refine gm_58 S hK hI dX7_comes_21 ?_
  refine lv_iload_n hx hb dX7_comes_24 rfl (lv_at hl 2 rfl) ?_
  refine ln_21 (j := dp) S hK hI (by omega) dX7_comes_25 ?_
  refine lv_eqi (v := (nI t)) (hw) ?_
  refine ln_1 (j := t) S hK hI (by omega) dX7_comes_26 ?_
  refine lv_eqi (v := (σ.1 1 t)) (rfl) ?_
  refine lv_aload_n hx hb dX7_comes_27 rfl (lv_at hl 1 rfl) ?_
  refine gm_26 S hK hI dX7_comes_28 ?_
  refine lv_iload_n hx hb dX7_comes_31 rfl (lv_at hl 0 rfl) ?_
  refine ln_6 (j := 4 * r + a) S hK hI (by omega) dX7_comes_32 ?_
  refine lv_eqi (v := (σ.1 6 (4 * r + a))) (rfl) ?_
  refine tw_calli (tw_rS (As := [.int (σ.1 1 t), .int (σ.1 6 (4 * r + a))]) (rest := []) S hK hI kX7_124 (c_X7_goes l D ad _ _ _ _) ⟨Nat.le_of_ble_eq_true rfl, Nat.le_of_ble_eq_true rfl⟩ ⟨Nat.le_of_ble_eq_true rfl, Nat.le_of_ble_eq_true rfl⟩ rfl hl.1 rfl (Nat.le_of_ble_eq_true rfl) dX7_comes_33) hI (fun H locs hI => ?_)
  refine lv_topi (fun x1 e1 => ?_)
  refine lv_if_eq (tgt := 48) hx hb dX7_comes_36 (by decide) (fun c2 => ?_) (fun c2 => ?_)
  · refine lv_aload_n hx hb dX7_comes_48 rfl (lv_at hl 1 rfl) ?_
    refine gm_32 S hK hI dX7_comes_49 ?_
    refine lv_iload_n hx hb dX7_comes_52 rfl (lv_at hl 0 rfl) ?_
    refine ln_8 (j := 4 * r + a) S hK hI (by omega) dX7_comes_53 ?_
    refine lv_eqi (v := 0) (h8) ?_
    refine lv_if_ne (tgt := 66) hx hb dX7_comes_54 (by decide) (fun c3 => ?_) (fun c3 => ?_)
    · exact absurd c3 (by decide)
    · refine lv_aload_n hx hb dX7_comes_57 rfl (lv_at hl 1 rfl) ?_
      refine gm_51 S hK hI dX7_comes_58 ?_
      refine lv_iload_n hx hb dX7_comes_61 rfl (lv_at hl 0 rfl) ?_
      refine ln_14 (j := 4 * r + a) S hK hI (by omega) dX7_comes_62 ?_
      refine lv_eqi (v := 0) (h14) ?_
      refine lv_if_eq (tgt := 79) hx hb dX7_comes_63 (by decide) (fun c4 => ?_) (fun c4 => ?_)
      · refine lv_aload_n hx hb dX7_comes_79 rfl (lv_at hl 1 rfl) ?_
        refine gm_45 S hK hI dX7_comes_80 ?_
        refine lv_iload_n hx hb dX7_comes_83 rfl (lv_at hl 0 rfl) ?_
        refine lv_dup2_11 hx hb dX7_comes_84 rfl rfl ?_
        refine ln_12 (j := 4 * r + a) S hK hI (by omega) dX7_comes_85 ?_
        refine lv_topi (fun x5 e5 => ?_)
        refine lv_iconst (v := 1) hx hb dX7_comes_86 (by decide) ?_
        refine lv_iadd hx hb dX7_comes_87 ?_
        refine lv_topi (fun x6 e6 => ?_)
        refine sn_12 (j := 4 * r + a) S hK hI (by omega) dX7_comes_88 (fun H locs hI => ?_)
        refine lv_aload_n hx hb dX7_comes_89 rfl (lv_at hl 1 rfl) ?_
        refine gm_51 S hK hI dX7_comes_90 ?_
        refine lv_iload_n hx hb dX7_comes_93 rfl (lv_at hl 0 rfl) ?_
        refine lv_iconst (v := 1) hx hb dX7_comes_94 (by decide) ?_
        refine sn_14 (j := 4 * r + a) S hK hI (by omega) (by decide) dX7_comes_95 (fun H locs hI => ?_)
        refine lv_aload_n hx hb dX7_comes_96 rfl (lv_at hl 1 rfl) ?_
        refine gm_48 S hK hI dX7_comes_97 ?_
        refine lv_iload_n hx hb dX7_comes_100 rfl (lv_at hl 0 rfl) ?_
        refine lv_aload_n hx hb dX7_comes_101 rfl (lv_at hl 1 rfl) ?_
        refine gm_58 S hK hI dX7_comes_102 ?_
        refine lv_iload_n hx hb dX7_comes_105 rfl (lv_at hl 2 rfl) ?_
        refine ln_21 (j := dp) S hK hI (by omega) dX7_comes_106 ?_
        refine lv_eqi (v := (nI t)) (hw) ?_
        refine sn_13 (j := 4 * r + a) S hK hI (by omega) dX7_comes_107 (fun H locs hI => ?_)
        refine lv_aload_n hx hb dX7_comes_108 rfl (lv_at hl 1 rfl) ?_
        refine lv_dup hx hb dX7_comes_109 rfl ?_
        refine gm_167 S hK hI dX7_comes_110 ?_
        refine lv_topi (fun x7 e7 => ?_)
        refine lv_iconst (v := 1) hx hb dX7_comes_113 (by decide) ?_
        refine lv_iadd hx hb dX7_comes_114 ?_
        refine lv_topi (fun x8 e8 => ?_)
        refine pm_167 S hK hI dX7_comes_115 (fun H locs hI => ?_)
        refine lv_aload_n hx hb dX7_comes_118 rfl (lv_at hl 1 rfl) ?_
        refine lv_iconst (v := (-1)) hx hb dX7_comes_119 (by decide) ?_
        refine tw_callv (tw_rV (As := [.int (-1)]) (rest := []) S hK hI kX7_161 (c_X7_ends l D ad _ _ _ _) (t := 1000) (fs := mRoot _) rfl rfl rfl ⟨Nat.le_of_ble_eq_true rfl, Nat.le_of_ble_eq_true rfl⟩ ⟨Nat.le_of_ble_eq_true rfl, Nat.le_of_ble_eq_true rfl⟩ rfl hl.1 rfl (Nat.le_of_ble_eq_true rfl) dX7_comes_120) hI (fun H locs hI => ?_)
        subst e8
        subst e7
        subst e6
        subst e5
        subst e1
        rw [gr_sI _ _ rfl, gr_sI _ _ rfl, gr_sI _ _ rfl, gr_sI _ _ rfl, gr_ends] at hI
        try rw [if_pos hg]
        try rw [if_pos (show (0 : Int32) = 0 from by decide)]
        try rw [if_pos (show (0 : Int32) = 0 from by decide)]
        exact tw_vret S hr hlocks hI dX7_comes_123
      · exact absurd c4 (by decide)
  · exact (by subst e1; exact absurd hg c2)

set_option maxHeartbeats 2000000 in
set_option maxRecDepth 100000 in
theorem c_X7_comes_w0row (l : Launch) (D : tw_G) (ad : Nat → Nat) (b : tw_W) (σ : Sg) (F : Nat → Nat → Int32) (sz : Nat) (dp r a t B : Nat) (hV : INV σ B) (hr8 : r < 8) (ha4 : a < 4) (hdp : dp < 8) (h6 : t < 60) (hw : F 21 dp = nI t) (hm : F 22 dp = nI r) (ha : F 23 dp = nI a) (hn : t < nS σ) (hg : ¬ goesF (σ.1 1 t) (σ.1 6 (4 * r + a)) = 0) (ea : σ.1 7 (4 * r + a) = 0) (h10 : isOneF (σ.1 1 t) = 0) : Met l yX7_comes (tw_w yX7_comes cX7_comes 3 none) (tw_R 6 0 0) (tw_Pc D ad (wM b (gr σ F)) sz [.ref (ad 1000), .int (nI dp)]) (tw_Q D ad (wM b (gr (sI (wkF σ (4 * r + a)) 9 (4 * r + a) ((wkF σ (4 * r + a)).1 9 (4 * r + a) + placesF (wkF σ (4 * r + a)) t)) (fI F 23 dp (nI (a + 1))))) (tw_A ad (wM b (gr σ F)) sz) none) 0 0 (tw_A ad (wM b (gr σ F)) sz) := by
  refine tw_met (by decide) rfl (by simp [lg_sl, Value.category]) (fun p e s m below meth c ls S hK hr hlocks hnm hsz hI hl => ?_)
  have hx := S.1
  have hb := S.2.1
  have hl : lv_has ls 3 [(0, .ref (ad 1000)), (1, .int (nI dp))] := hl
  refine lv_iconst (v := 4) hx hb dX7_comes_0 (by decide) ?_
  refine lv_aload_n hx hb dX7_comes_1 rfl (lv_at hl 0 rfl) ?_
  refine gm_61 S hK hI dX7_comes_2 ?_
  refine lv_iload_n hx hb dX7_comes_5 rfl (lv_at hl 1 rfl) ?_
  refine ln_22 (j := dp) S hK hI (by omega) dX7_comes_6 ?_
  refine lv_eqi (v := (nI r)) (hm) ?_
  refine lv_imul hx hb dX7_comes_7 ?_
  refine lv_eqi (v := (nI (4 * r))) (nM (a := 4) (b := r) (c := 4 * r) (by omega)) ?_
  refine lv_aload_n hx hb dX7_comes_8 rfl (lv_at hl 0 rfl) ?_
  refine gm_64 S hK hI dX7_comes_9 ?_
  refine lv_iload_n hx hb dX7_comes_12 rfl (lv_at hl 1 rfl) ?_
  refine ln_23 (j := dp) S hK hI (by omega) dX7_comes_13 ?_
  refine lv_eqi (v := (nI a)) (ha) ?_
  refine lv_iadd hx hb dX7_comes_14 ?_
  refine lv_eqi (v := (nI (4 * r + a))) (nA (a := 4 * r) (b := a) (c := 4 * r + a) (by omega)) ?_
  refine lv_istore_n (lv' := [(2, .int (nI (4 * r + a))), (0, .ref (ad 1000)), (1, .int (nI dp))]) hx hb dX7_comes_15 rfl hl (by decide) rfl (fun ls hl => ?_)
  refine lv_aload_n hx hb dX7_comes_16 rfl (lv_at hl 1 rfl) ?_
  refine gm_7 S hK hI dX7_comes_17 ?_
  refine lv_aload_n hx hb dX7_comes_20 rfl (lv_at hl 1 rfl) ?_
  refine gm_58 S hK hI dX7_comes_21 ?_
  refine lv_iload_n hx hb dX7_comes_24 rfl (lv_at hl 2 rfl) ?_
  refine ln_21 (j := dp) S hK hI (by omega) dX7_comes_25 ?_
  refine lv_eqi (v := (nI t)) (hw) ?_
  refine ln_1 (j := t) S hK hI (by omega) dX7_comes_26 ?_
  refine lv_eqi (v := (σ.1 1 t)) (rfl) ?_
  refine lv_aload_n hx hb dX7_comes_27 rfl (lv_at hl 1 rfl) ?_
  refine gm_26 S hK hI dX7_comes_28 ?_
  refine lv_iload_n hx hb dX7_comes_31 rfl (lv_at hl 0 rfl) ?_
  refine ln_6 (j := 4 * r + a) S hK hI (by omega) dX7_comes_32 ?_
  refine lv_eqi (v := (σ.1 6 (4 * r + a))) (rfl) ?_
  refine tw_calli (tw_rS (As := [.int (σ.1 1 t), .int (σ.1 6 (4 * r + a))]) (rest := []) S hK hI kX7_124 (c_X7_goes l D ad _ _ _ _) ⟨Nat.le_of_ble_eq_true rfl, Nat.le_of_ble_eq_true rfl⟩ ⟨Nat.le_of_ble_eq_true rfl, Nat.le_of_ble_eq_true rfl⟩ rfl hl.1 rfl (Nat.le_of_ble_eq_true rfl) dX7_comes_33) hI (fun H locs hI => ?_)
  refine lv_topi (fun x1 e1 => ?_)
  refine lv_if_eq (tgt := 48) hx hb dX7_comes_36 (by decide) (fun c2 => ?_) (fun c2 => ?_)
  · exact (by subst e1; exact absurd c2 hg)
  · refine lv_aload_n hx hb dX7_comes_39 rfl (lv_at hl 1 rfl) ?_
    refine lv_iload_n hx hb dX7_comes_40 rfl (lv_at hl 2 rfl) ?_
    refine lv_iload_n hx hb dX7_comes_41 rfl (lv_at hl 0 rfl) ?_
    refine tw_callv (tw_rV (As := [.int (nI dp), .int (nI (4 * r + a))]) (rest := []) S hK hI kX7_164 (c_X7_work_0row l D ad _ _ _ _ _ _ _ _ _ hV hr8 ha4 hdp h6 hw hm ha hn ea h10) (t := 1000) (fs := mRoot _) rfl rfl rfl ⟨Nat.le_of_ble_eq_true rfl, Nat.le_of_ble_eq_true rfl⟩ ⟨Nat.le_of_ble_eq_true rfl, Nat.le_of_ble_eq_true rfl⟩ rfl hl.1 rfl (Nat.le_of_ble_eq_true rfl) dX7_comes_42) hI (fun H locs hI => ?_)
    refine lv_goto (tgt := 123) hx hb dX7_comes_45 (by decide) ?_
    subst e1
    try rw [if_neg hg]
    exact tw_vret S hr hlocks hI dX7_comes_123

set_option maxHeartbeats 2000000 in
set_option maxRecDepth 100000 in
theorem c_X7_comes_w0one (l : Launch) (D : tw_G) (ad : Nat → Nat) (b : tw_W) (σ : Sg) (F : Nat → Nat → Int32) (sz : Nat) (dp r a t B : Nat) (hV : INV σ B) (hr8 : r < 8) (ha4 : a < 4) (hdp : dp < 8) (h6 : t < 60) (hw : F 21 dp = nI t) (hm : F 22 dp = nI r) (ha : F 23 dp = nI a) (hn : t < nS σ) (hg : ¬ goesF (σ.1 1 t) (σ.1 6 (4 * r + a)) = 0) (ea : σ.1 7 (4 * r + a) = 0) (h10 : ¬ isOneF (σ.1 1 t) = 0) : Met l yX7_comes (tw_w yX7_comes cX7_comes 3 none) (tw_R 6 0 0) (tw_Pc D ad (wM b (gr σ F)) sz [.ref (ad 1000), .int (nI dp)]) (tw_Q D ad (wM b (gr (sI (wkF σ (4 * r + a)) 9 (4 * r + a) ((wkF σ (4 * r + a)).1 9 (4 * r + a) + placesF (wkF σ (4 * r + a)) t)) (fI F 23 dp (nI (a + 1))))) (tw_A ad (wM b (gr σ F)) sz) none) 0 0 (tw_A ad (wM b (gr σ F)) sz) := by
  refine tw_met (by decide) rfl (by simp [lg_sl, Value.category]) (fun p e s m below meth c ls S hK hr hlocks hnm hsz hI hl => ?_)
  have hx := S.1
  have hb := S.2.1
  have hl : lv_has ls 3 [(0, .ref (ad 1000)), (1, .int (nI dp))] := hl
  refine lv_iconst (v := 4) hx hb dX7_comes_0 (by decide) ?_
  refine lv_aload_n hx hb dX7_comes_1 rfl (lv_at hl 0 rfl) ?_
  refine gm_61 S hK hI dX7_comes_2 ?_
  refine lv_iload_n hx hb dX7_comes_5 rfl (lv_at hl 1 rfl) ?_
  refine ln_22 (j := dp) S hK hI (by omega) dX7_comes_6 ?_
  refine lv_eqi (v := (nI r)) (hm) ?_
  refine lv_imul hx hb dX7_comes_7 ?_
  refine lv_eqi (v := (nI (4 * r))) (nM (a := 4) (b := r) (c := 4 * r) (by omega)) ?_
  refine lv_aload_n hx hb dX7_comes_8 rfl (lv_at hl 0 rfl) ?_
  refine gm_64 S hK hI dX7_comes_9 ?_
  refine lv_iload_n hx hb dX7_comes_12 rfl (lv_at hl 1 rfl) ?_
  refine ln_23 (j := dp) S hK hI (by omega) dX7_comes_13 ?_
  refine lv_eqi (v := (nI a)) (ha) ?_
  refine lv_iadd hx hb dX7_comes_14 ?_
  refine lv_eqi (v := (nI (4 * r + a))) (nA (a := 4 * r) (b := a) (c := 4 * r + a) (by omega)) ?_
  refine lv_istore_n (lv' := [(2, .int (nI (4 * r + a))), (0, .ref (ad 1000)), (1, .int (nI dp))]) hx hb dX7_comes_15 rfl hl (by decide) rfl (fun ls hl => ?_)
  refine lv_aload_n hx hb dX7_comes_16 rfl (lv_at hl 1 rfl) ?_
  refine gm_7 S hK hI dX7_comes_17 ?_
  refine lv_aload_n hx hb dX7_comes_20 rfl (lv_at hl 1 rfl) ?_
  refine gm_58 S hK hI dX7_comes_21 ?_
  refine lv_iload_n hx hb dX7_comes_24 rfl (lv_at hl 2 rfl) ?_
  refine ln_21 (j := dp) S hK hI (by omega) dX7_comes_25 ?_
  refine lv_eqi (v := (nI t)) (hw) ?_
  refine ln_1 (j := t) S hK hI (by omega) dX7_comes_26 ?_
  refine lv_eqi (v := (σ.1 1 t)) (rfl) ?_
  refine lv_aload_n hx hb dX7_comes_27 rfl (lv_at hl 1 rfl) ?_
  refine gm_26 S hK hI dX7_comes_28 ?_
  refine lv_iload_n hx hb dX7_comes_31 rfl (lv_at hl 0 rfl) ?_
  refine ln_6 (j := 4 * r + a) S hK hI (by omega) dX7_comes_32 ?_
  refine lv_eqi (v := (σ.1 6 (4 * r + a))) (rfl) ?_
  refine tw_calli (tw_rS (As := [.int (σ.1 1 t), .int (σ.1 6 (4 * r + a))]) (rest := []) S hK hI kX7_124 (c_X7_goes l D ad _ _ _ _) ⟨Nat.le_of_ble_eq_true rfl, Nat.le_of_ble_eq_true rfl⟩ ⟨Nat.le_of_ble_eq_true rfl, Nat.le_of_ble_eq_true rfl⟩ rfl hl.1 rfl (Nat.le_of_ble_eq_true rfl) dX7_comes_33) hI (fun H locs hI => ?_)
  refine lv_topi (fun x1 e1 => ?_)
  refine lv_if_eq (tgt := 48) hx hb dX7_comes_36 (by decide) (fun c2 => ?_) (fun c2 => ?_)
  · exact (by subst e1; exact absurd c2 hg)
  · refine lv_aload_n hx hb dX7_comes_39 rfl (lv_at hl 1 rfl) ?_
    refine lv_iload_n hx hb dX7_comes_40 rfl (lv_at hl 2 rfl) ?_
    refine lv_iload_n hx hb dX7_comes_41 rfl (lv_at hl 0 rfl) ?_
    refine tw_callv (tw_rV (As := [.int (nI dp), .int (nI (4 * r + a))]) (rest := []) S hK hI kX7_164 (c_X7_work_0one l D ad _ _ _ _ _ _ _ _ _ hV hr8 ha4 hdp h6 hw hm ha hn ea h10) (t := 1000) (fs := mRoot _) rfl rfl rfl ⟨Nat.le_of_ble_eq_true rfl, Nat.le_of_ble_eq_true rfl⟩ ⟨Nat.le_of_ble_eq_true rfl, Nat.le_of_ble_eq_true rfl⟩ rfl hl.1 rfl (Nat.le_of_ble_eq_true rfl) dX7_comes_42) hI (fun H locs hI => ?_)
    refine lv_goto (tgt := 123) hx hb dX7_comes_45 (by decide) ?_
    subst e1
    try rw [if_neg hg]
    exact tw_vret S hr hlocks hI dX7_comes_123

set_option maxHeartbeats 2000000 in
set_option maxRecDepth 100000 in
theorem c_X7_comes_w1 (l : Launch) (D : tw_G) (ad : Nat → Nat) (b : tw_W) (σ : Sg) (F : Nat → Nat → Int32) (sz : Nat) (dp r a t B : Nat) (hV : INV σ B) (hr8 : r < 8) (ha4 : a < 4) (hdp : dp < 8) (h6 : t < 60) (hw : F 21 dp = nI t) (hm : F 22 dp = nI r) (ha : F 23 dp = nI a) (hn : t < nS σ) (hg : ¬ goesF (σ.1 1 t) (σ.1 6 (4 * r + a)) = 0) (ea : σ.1 7 (4 * r + a) = 1)  : Met l yX7_comes (tw_w yX7_comes cX7_comes 3 none) (tw_R 6 0 0) (tw_Pc D ad (wM b (gr σ F)) sz [.ref (ad 1000), .int (nI dp)]) (tw_Q D ad (wM b (gr (turnF (wkF σ (4 * r + a)) t) (fI F 23 dp (nI (a + 1))))) (tw_A ad (wM b (gr σ F)) sz) none) 0 0 (tw_A ad (wM b (gr σ F)) sz) := by
  refine tw_met (by decide) rfl (by simp [lg_sl, Value.category]) (fun p e s m below meth c ls S hK hr hlocks hnm hsz hI hl => ?_)
  have hx := S.1
  have hb := S.2.1
  have hl : lv_has ls 3 [(0, .ref (ad 1000)), (1, .int (nI dp))] := hl
  refine lv_iconst (v := 4) hx hb dX7_comes_0 (by decide) ?_
  refine lv_aload_n hx hb dX7_comes_1 rfl (lv_at hl 0 rfl) ?_
  refine gm_61 S hK hI dX7_comes_2 ?_
  refine lv_iload_n hx hb dX7_comes_5 rfl (lv_at hl 1 rfl) ?_
  refine ln_22 (j := dp) S hK hI (by omega) dX7_comes_6 ?_
  refine lv_eqi (v := (nI r)) (hm) ?_
  refine lv_imul hx hb dX7_comes_7 ?_
  refine lv_eqi (v := (nI (4 * r))) (nM (a := 4) (b := r) (c := 4 * r) (by omega)) ?_
  refine lv_aload_n hx hb dX7_comes_8 rfl (lv_at hl 0 rfl) ?_
  refine gm_64 S hK hI dX7_comes_9 ?_
  refine lv_iload_n hx hb dX7_comes_12 rfl (lv_at hl 1 rfl) ?_
  refine ln_23 (j := dp) S hK hI (by omega) dX7_comes_13 ?_
  refine lv_eqi (v := (nI a)) (ha) ?_
  refine lv_iadd hx hb dX7_comes_14 ?_
  refine lv_eqi (v := (nI (4 * r + a))) (nA (a := 4 * r) (b := a) (c := 4 * r + a) (by omega)) ?_
  refine lv_istore_n (lv' := [(2, .int (nI (4 * r + a))), (0, .ref (ad 1000)), (1, .int (nI dp))]) hx hb dX7_comes_15 rfl hl (by decide) rfl (fun ls hl => ?_)
  refine lv_aload_n hx hb dX7_comes_16 rfl (lv_at hl 1 rfl) ?_
  refine gm_7 S hK hI dX7_comes_17 ?_
  refine lv_aload_n hx hb dX7_comes_20 rfl (lv_at hl 1 rfl) ?_
  refine gm_58 S hK hI dX7_comes_21 ?_
  refine lv_iload_n hx hb dX7_comes_24 rfl (lv_at hl 2 rfl) ?_
  refine ln_21 (j := dp) S hK hI (by omega) dX7_comes_25 ?_
  refine lv_eqi (v := (nI t)) (hw) ?_
  refine ln_1 (j := t) S hK hI (by omega) dX7_comes_26 ?_
  refine lv_eqi (v := (σ.1 1 t)) (rfl) ?_
  refine lv_aload_n hx hb dX7_comes_27 rfl (lv_at hl 1 rfl) ?_
  refine gm_26 S hK hI dX7_comes_28 ?_
  refine lv_iload_n hx hb dX7_comes_31 rfl (lv_at hl 0 rfl) ?_
  refine ln_6 (j := 4 * r + a) S hK hI (by omega) dX7_comes_32 ?_
  refine lv_eqi (v := (σ.1 6 (4 * r + a))) (rfl) ?_
  refine tw_calli (tw_rS (As := [.int (σ.1 1 t), .int (σ.1 6 (4 * r + a))]) (rest := []) S hK hI kX7_124 (c_X7_goes l D ad _ _ _ _) ⟨Nat.le_of_ble_eq_true rfl, Nat.le_of_ble_eq_true rfl⟩ ⟨Nat.le_of_ble_eq_true rfl, Nat.le_of_ble_eq_true rfl⟩ rfl hl.1 rfl (Nat.le_of_ble_eq_true rfl) dX7_comes_33) hI (fun H locs hI => ?_)
  refine lv_topi (fun x1 e1 => ?_)
  refine lv_if_eq (tgt := 48) hx hb dX7_comes_36 (by decide) (fun c2 => ?_) (fun c2 => ?_)
  · exact (by subst e1; exact absurd c2 hg)
  · refine lv_aload_n hx hb dX7_comes_39 rfl (lv_at hl 1 rfl) ?_
    refine lv_iload_n hx hb dX7_comes_40 rfl (lv_at hl 2 rfl) ?_
    refine lv_iload_n hx hb dX7_comes_41 rfl (lv_at hl 0 rfl) ?_
    refine tw_callv (tw_rV (As := [.int (nI dp), .int (nI (4 * r + a))]) (rest := []) S hK hI kX7_164 (c_X7_work_1 l D ad _ _ _ _ _ _ _ _ _ hV hr8 ha4 hdp h6 hw hm ha hn ea ) (t := 1000) (fs := mRoot _) rfl rfl rfl ⟨Nat.le_of_ble_eq_true rfl, Nat.le_of_ble_eq_true rfl⟩ ⟨Nat.le_of_ble_eq_true rfl, Nat.le_of_ble_eq_true rfl⟩ rfl hl.1 rfl (Nat.le_of_ble_eq_true rfl) dX7_comes_42) hI (fun H locs hI => ?_)
    refine lv_goto (tgt := 123) hx hb dX7_comes_45 (by decide) ?_
    subst e1
    try rw [if_neg hg]
    exact tw_vret S hr hlocks hI dX7_comes_123

set_option maxHeartbeats 2000000 in
set_option maxRecDepth 100000 in
theorem c_X7_comes_w2 (l : Launch) (D : tw_G) (ad : Nat → Nat) (b : tw_W) (σ : Sg) (F : Nat → Nat → Int32) (sz : Nat) (dp r a t B : Nat) (hV : INV σ B) (hr8 : r < 8) (ha4 : a < 4) (hdp : dp < 8) (h6 : t < 60) (hw : F 21 dp = nI t) (hm : F 22 dp = nI r) (ha : F 23 dp = nI a) (hn : t < nS σ) (hg : ¬ goesF (σ.1 1 t) (σ.1 6 (4 * r + a)) = 0) (ea : σ.1 7 (4 * r + a) = 2)  : Met l yX7_comes (tw_w yX7_comes cX7_comes 3 none) (tw_R 6 0 0) (tw_Pc D ad (wM b (gr σ F)) sz [.ref (ad 1000), .int (nI dp)]) (tw_Q D ad (wM b (gr (stampAllF (wkF σ (4 * r + a)) t) (fI F 23 dp (nI (a + 1))))) (tw_A ad (wM b (gr σ F)) sz) none) 0 0 (tw_A ad (wM b (gr σ F)) sz) := by
  refine tw_met (by decide) rfl (by simp [lg_sl, Value.category]) (fun p e s m below meth c ls S hK hr hlocks hnm hsz hI hl => ?_)
  have hx := S.1
  have hb := S.2.1
  have hl : lv_has ls 3 [(0, .ref (ad 1000)), (1, .int (nI dp))] := hl
  refine lv_iconst (v := 4) hx hb dX7_comes_0 (by decide) ?_
  refine lv_aload_n hx hb dX7_comes_1 rfl (lv_at hl 0 rfl) ?_
  refine gm_61 S hK hI dX7_comes_2 ?_
  refine lv_iload_n hx hb dX7_comes_5 rfl (lv_at hl 1 rfl) ?_
  refine ln_22 (j := dp) S hK hI (by omega) dX7_comes_6 ?_
  refine lv_eqi (v := (nI r)) (hm) ?_
  refine lv_imul hx hb dX7_comes_7 ?_
  refine lv_eqi (v := (nI (4 * r))) (nM (a := 4) (b := r) (c := 4 * r) (by omega)) ?_
  refine lv_aload_n hx hb dX7_comes_8 rfl (lv_at hl 0 rfl) ?_
  refine gm_64 S hK hI dX7_comes_9 ?_
  refine lv_iload_n hx hb dX7_comes_12 rfl (lv_at hl 1 rfl) ?_
  refine ln_23 (j := dp) S hK hI (by omega) dX7_comes_13 ?_
  refine lv_eqi (v := (nI a)) (ha) ?_
  refine lv_iadd hx hb dX7_comes_14 ?_
  refine lv_eqi (v := (nI (4 * r + a))) (nA (a := 4 * r) (b := a) (c := 4 * r + a) (by omega)) ?_
  refine lv_istore_n (lv' := [(2, .int (nI (4 * r + a))), (0, .ref (ad 1000)), (1, .int (nI dp))]) hx hb dX7_comes_15 rfl hl (by decide) rfl (fun ls hl => ?_)
  refine lv_aload_n hx hb dX7_comes_16 rfl (lv_at hl 1 rfl) ?_
  refine gm_7 S hK hI dX7_comes_17 ?_
  refine lv_aload_n hx hb dX7_comes_20 rfl (lv_at hl 1 rfl) ?_
  refine gm_58 S hK hI dX7_comes_21 ?_
  refine lv_iload_n hx hb dX7_comes_24 rfl (lv_at hl 2 rfl) ?_
  refine ln_21 (j := dp) S hK hI (by omega) dX7_comes_25 ?_
  refine lv_eqi (v := (nI t)) (hw) ?_
  refine ln_1 (j := t) S hK hI (by omega) dX7_comes_26 ?_
  refine lv_eqi (v := (σ.1 1 t)) (rfl) ?_
  refine lv_aload_n hx hb dX7_comes_27 rfl (lv_at hl 1 rfl) ?_
  refine gm_26 S hK hI dX7_comes_28 ?_
  refine lv_iload_n hx hb dX7_comes_31 rfl (lv_at hl 0 rfl) ?_
  refine ln_6 (j := 4 * r + a) S hK hI (by omega) dX7_comes_32 ?_
  refine lv_eqi (v := (σ.1 6 (4 * r + a))) (rfl) ?_
  refine tw_calli (tw_rS (As := [.int (σ.1 1 t), .int (σ.1 6 (4 * r + a))]) (rest := []) S hK hI kX7_124 (c_X7_goes l D ad _ _ _ _) ⟨Nat.le_of_ble_eq_true rfl, Nat.le_of_ble_eq_true rfl⟩ ⟨Nat.le_of_ble_eq_true rfl, Nat.le_of_ble_eq_true rfl⟩ rfl hl.1 rfl (Nat.le_of_ble_eq_true rfl) dX7_comes_33) hI (fun H locs hI => ?_)
  refine lv_topi (fun x1 e1 => ?_)
  refine lv_if_eq (tgt := 48) hx hb dX7_comes_36 (by decide) (fun c2 => ?_) (fun c2 => ?_)
  · exact (by subst e1; exact absurd c2 hg)
  · refine lv_aload_n hx hb dX7_comes_39 rfl (lv_at hl 1 rfl) ?_
    refine lv_iload_n hx hb dX7_comes_40 rfl (lv_at hl 2 rfl) ?_
    refine lv_iload_n hx hb dX7_comes_41 rfl (lv_at hl 0 rfl) ?_
    refine tw_callv (tw_rV (As := [.int (nI dp), .int (nI (4 * r + a))]) (rest := []) S hK hI kX7_164 (c_X7_work_2 l D ad _ _ _ _ _ _ _ _ _ hV hr8 ha4 hdp h6 hw hm ha hn ea ) (t := 1000) (fs := mRoot _) rfl rfl rfl ⟨Nat.le_of_ble_eq_true rfl, Nat.le_of_ble_eq_true rfl⟩ ⟨Nat.le_of_ble_eq_true rfl, Nat.le_of_ble_eq_true rfl⟩ rfl hl.1 rfl (Nat.le_of_ble_eq_true rfl) dX7_comes_42) hI (fun H locs hI => ?_)
    refine lv_goto (tgt := 123) hx hb dX7_comes_45 (by decide) ?_
    subst e1
    try rw [if_neg hg]
    exact tw_vret S hr hlocks hI dX7_comes_123

set_option maxHeartbeats 2000000 in
set_option maxRecDepth 100000 in
theorem c_X7_comes_w3num (l : Launch) (D : tw_G) (ad : Nat → Nat) (b : tw_W) (σ : Sg) (F : Nat → Nat → Int32) (sz : Nat) (dp r a t B : Nat) (hV : INV σ B) (hr8 : r < 8) (ha4 : a < 4) (hdp : dp < 8) (h6 : t < 60) (hw : F 21 dp = nI t) (hm : F 22 dp = nI r) (ha : F 23 dp = nI a) (hn : t < nS σ) (hg : ¬ goesF (σ.1 1 t) (σ.1 6 (4 * r + a)) = 0) (ea : σ.1 7 (4 * r + a) = 3) (h10 : isThF (σ.1 1 t) = 0) : Met l yX7_comes (tw_w yX7_comes cX7_comes 3 none) (tw_R 6 0 0) (tw_Pc D ad (wM b (gr σ F)) sz [.ref (ad 1000), .int (nI dp)]) (tw_Q D ad (wM b (gr (wkF σ (4 * r + a)) (fI F 23 dp (nI (a + 1))))) (tw_A ad (wM b (gr σ F)) sz) none) 0 0 (tw_A ad (wM b (gr σ F)) sz) := by
  refine tw_met (by decide) rfl (by simp [lg_sl, Value.category]) (fun p e s m below meth c ls S hK hr hlocks hnm hsz hI hl => ?_)
  have hx := S.1
  have hb := S.2.1
  have hl : lv_has ls 3 [(0, .ref (ad 1000)), (1, .int (nI dp))] := hl
  refine lv_iconst (v := 4) hx hb dX7_comes_0 (by decide) ?_
  refine lv_aload_n hx hb dX7_comes_1 rfl (lv_at hl 0 rfl) ?_
  refine gm_61 S hK hI dX7_comes_2 ?_
  refine lv_iload_n hx hb dX7_comes_5 rfl (lv_at hl 1 rfl) ?_
  refine ln_22 (j := dp) S hK hI (by omega) dX7_comes_6 ?_
  refine lv_eqi (v := (nI r)) (hm) ?_
  refine lv_imul hx hb dX7_comes_7 ?_
  refine lv_eqi (v := (nI (4 * r))) (nM (a := 4) (b := r) (c := 4 * r) (by omega)) ?_
  refine lv_aload_n hx hb dX7_comes_8 rfl (lv_at hl 0 rfl) ?_
  refine gm_64 S hK hI dX7_comes_9 ?_
  refine lv_iload_n hx hb dX7_comes_12 rfl (lv_at hl 1 rfl) ?_
  refine ln_23 (j := dp) S hK hI (by omega) dX7_comes_13 ?_
  refine lv_eqi (v := (nI a)) (ha) ?_
  refine lv_iadd hx hb dX7_comes_14 ?_
  refine lv_eqi (v := (nI (4 * r + a))) (nA (a := 4 * r) (b := a) (c := 4 * r + a) (by omega)) ?_
  refine lv_istore_n (lv' := [(2, .int (nI (4 * r + a))), (0, .ref (ad 1000)), (1, .int (nI dp))]) hx hb dX7_comes_15 rfl hl (by decide) rfl (fun ls hl => ?_)
  refine lv_aload_n hx hb dX7_comes_16 rfl (lv_at hl 1 rfl) ?_
  refine gm_7 S hK hI dX7_comes_17 ?_
  refine lv_aload_n hx hb dX7_comes_20 rfl (lv_at hl 1 rfl) ?_
  refine gm_58 S hK hI dX7_comes_21 ?_
  refine lv_iload_n hx hb dX7_comes_24 rfl (lv_at hl 2 rfl) ?_
  refine ln_21 (j := dp) S hK hI (by omega) dX7_comes_25 ?_
  refine lv_eqi (v := (nI t)) (hw) ?_
  refine ln_1 (j := t) S hK hI (by omega) dX7_comes_26 ?_
  refine lv_eqi (v := (σ.1 1 t)) (rfl) ?_
  refine lv_aload_n hx hb dX7_comes_27 rfl (lv_at hl 1 rfl) ?_
  refine gm_26 S hK hI dX7_comes_28 ?_
  refine lv_iload_n hx hb dX7_comes_31 rfl (lv_at hl 0 rfl) ?_
  refine ln_6 (j := 4 * r + a) S hK hI (by omega) dX7_comes_32 ?_
  refine lv_eqi (v := (σ.1 6 (4 * r + a))) (rfl) ?_
  refine tw_calli (tw_rS (As := [.int (σ.1 1 t), .int (σ.1 6 (4 * r + a))]) (rest := []) S hK hI kX7_124 (c_X7_goes l D ad _ _ _ _) ⟨Nat.le_of_ble_eq_true rfl, Nat.le_of_ble_eq_true rfl⟩ ⟨Nat.le_of_ble_eq_true rfl, Nat.le_of_ble_eq_true rfl⟩ rfl hl.1 rfl (Nat.le_of_ble_eq_true rfl) dX7_comes_33) hI (fun H locs hI => ?_)
  refine lv_topi (fun x1 e1 => ?_)
  refine lv_if_eq (tgt := 48) hx hb dX7_comes_36 (by decide) (fun c2 => ?_) (fun c2 => ?_)
  · exact (by subst e1; exact absurd c2 hg)
  · refine lv_aload_n hx hb dX7_comes_39 rfl (lv_at hl 1 rfl) ?_
    refine lv_iload_n hx hb dX7_comes_40 rfl (lv_at hl 2 rfl) ?_
    refine lv_iload_n hx hb dX7_comes_41 rfl (lv_at hl 0 rfl) ?_
    refine tw_callv (tw_rV (As := [.int (nI dp), .int (nI (4 * r + a))]) (rest := []) S hK hI kX7_164 (c_X7_work_3num l D ad _ _ _ _ _ _ _ _ _ hV hr8 ha4 hdp h6 hw hm ha hn ea h10) (t := 1000) (fs := mRoot _) rfl rfl rfl ⟨Nat.le_of_ble_eq_true rfl, Nat.le_of_ble_eq_true rfl⟩ ⟨Nat.le_of_ble_eq_true rfl, Nat.le_of_ble_eq_true rfl⟩ rfl hl.1 rfl (Nat.le_of_ble_eq_true rfl) dX7_comes_42) hI (fun H locs hI => ?_)
    refine lv_goto (tgt := 123) hx hb dX7_comes_45 (by decide) ?_
    subst e1
    try rw [if_neg hg]
    exact tw_vret S hr hlocks hI dX7_comes_123

set_option maxHeartbeats 2000000 in
set_option maxRecDepth 100000 in
theorem c_X7_comes_w3last (l : Launch) (D : tw_G) (ad : Nat → Nat) (b : tw_W) (σ : Sg) (F : Nat → Nat → Int32) (sz : Nat) (dp r a t B : Nat) (hV : INV σ B) (hr8 : r < 8) (ha4 : a < 4) (hdp : dp < 8) (h6 : t < 60) (hw : F 21 dp = nI t) (hm : F 22 dp = nI r) (ha : F 23 dp = nI a) (hn : t < nS σ) (hg : ¬ goesF (σ.1 1 t) (σ.1 6 (4 * r + a)) = 0) (ea : σ.1 7 (4 * r + a) = 3) (h10 : ¬ isThF (σ.1 1 t) = 0) (hr7 : 7 ≤ r) : Met l yX7_comes (tw_w yX7_comes cX7_comes 3 none) (tw_R 6 0 0) (tw_Pc D ad (wM b (gr σ F)) sz [.ref (ad 1000), .int (nI dp)]) (tw_Q D ad (wM b (gr (wkF σ (4 * r + a)) (fI F 23 dp (nI (a + 1))))) (tw_A ad (wM b (gr σ F)) sz) none) 0 0 (tw_A ad (wM b (gr σ F)) sz) := by
  refine tw_met (by decide) rfl (by simp [lg_sl, Value.category]) (fun p e s m below meth c ls S hK hr hlocks hnm hsz hI hl => ?_)
  have hx := S.1
  have hb := S.2.1
  have hl : lv_has ls 3 [(0, .ref (ad 1000)), (1, .int (nI dp))] := hl
  refine lv_iconst (v := 4) hx hb dX7_comes_0 (by decide) ?_
  refine lv_aload_n hx hb dX7_comes_1 rfl (lv_at hl 0 rfl) ?_
  refine gm_61 S hK hI dX7_comes_2 ?_
  refine lv_iload_n hx hb dX7_comes_5 rfl (lv_at hl 1 rfl) ?_
  refine ln_22 (j := dp) S hK hI (by omega) dX7_comes_6 ?_
  refine lv_eqi (v := (nI r)) (hm) ?_
  refine lv_imul hx hb dX7_comes_7 ?_
  refine lv_eqi (v := (nI (4 * r))) (nM (a := 4) (b := r) (c := 4 * r) (by omega)) ?_
  refine lv_aload_n hx hb dX7_comes_8 rfl (lv_at hl 0 rfl) ?_
  refine gm_64 S hK hI dX7_comes_9 ?_
  refine lv_iload_n hx hb dX7_comes_12 rfl (lv_at hl 1 rfl) ?_
  refine ln_23 (j := dp) S hK hI (by omega) dX7_comes_13 ?_
  refine lv_eqi (v := (nI a)) (ha) ?_
  refine lv_iadd hx hb dX7_comes_14 ?_
  refine lv_eqi (v := (nI (4 * r + a))) (nA (a := 4 * r) (b := a) (c := 4 * r + a) (by omega)) ?_
  refine lv_istore_n (lv' := [(2, .int (nI (4 * r + a))), (0, .ref (ad 1000)), (1, .int (nI dp))]) hx hb dX7_comes_15 rfl hl (by decide) rfl (fun ls hl => ?_)
  refine lv_aload_n hx hb dX7_comes_16 rfl (lv_at hl 1 rfl) ?_
  refine gm_7 S hK hI dX7_comes_17 ?_
  refine lv_aload_n hx hb dX7_comes_20 rfl (lv_at hl 1 rfl) ?_
  refine gm_58 S hK hI dX7_comes_21 ?_
  refine lv_iload_n hx hb dX7_comes_24 rfl (lv_at hl 2 rfl) ?_
  refine ln_21 (j := dp) S hK hI (by omega) dX7_comes_25 ?_
  refine lv_eqi (v := (nI t)) (hw) ?_
  refine ln_1 (j := t) S hK hI (by omega) dX7_comes_26 ?_
  refine lv_eqi (v := (σ.1 1 t)) (rfl) ?_
  refine lv_aload_n hx hb dX7_comes_27 rfl (lv_at hl 1 rfl) ?_
  refine gm_26 S hK hI dX7_comes_28 ?_
  refine lv_iload_n hx hb dX7_comes_31 rfl (lv_at hl 0 rfl) ?_
  refine ln_6 (j := 4 * r + a) S hK hI (by omega) dX7_comes_32 ?_
  refine lv_eqi (v := (σ.1 6 (4 * r + a))) (rfl) ?_
  refine tw_calli (tw_rS (As := [.int (σ.1 1 t), .int (σ.1 6 (4 * r + a))]) (rest := []) S hK hI kX7_124 (c_X7_goes l D ad _ _ _ _) ⟨Nat.le_of_ble_eq_true rfl, Nat.le_of_ble_eq_true rfl⟩ ⟨Nat.le_of_ble_eq_true rfl, Nat.le_of_ble_eq_true rfl⟩ rfl hl.1 rfl (Nat.le_of_ble_eq_true rfl) dX7_comes_33) hI (fun H locs hI => ?_)
  refine lv_topi (fun x1 e1 => ?_)
  refine lv_if_eq (tgt := 48) hx hb dX7_comes_36 (by decide) (fun c2 => ?_) (fun c2 => ?_)
  · exact (by subst e1; exact absurd c2 hg)
  · refine lv_aload_n hx hb dX7_comes_39 rfl (lv_at hl 1 rfl) ?_
    refine lv_iload_n hx hb dX7_comes_40 rfl (lv_at hl 2 rfl) ?_
    refine lv_iload_n hx hb dX7_comes_41 rfl (lv_at hl 0 rfl) ?_
    refine tw_callv (tw_rV (As := [.int (nI dp), .int (nI (4 * r + a))]) (rest := []) S hK hI kX7_164 (c_X7_work_3last l D ad _ _ _ _ _ _ _ _ _ hV hr8 ha4 hdp h6 hw hm ha hn ea h10 hr7) (t := 1000) (fs := mRoot _) rfl rfl rfl ⟨Nat.le_of_ble_eq_true rfl, Nat.le_of_ble_eq_true rfl⟩ ⟨Nat.le_of_ble_eq_true rfl, Nat.le_of_ble_eq_true rfl⟩ rfl hl.1 rfl (Nat.le_of_ble_eq_true rfl) dX7_comes_42) hI (fun H locs hI => ?_)
    refine lv_goto (tgt := 123) hx hb dX7_comes_45 (by decide) ?_
    subst e1
    try rw [if_neg hg]
    exact tw_vret S hr hlocks hI dX7_comes_123

set_option maxHeartbeats 2000000 in
set_option maxRecDepth 100000 in
theorem c_X7_comes_w3s (l : Launch) (D : tw_G) (ad : Nat → Nat) (b : tw_W) (σ : Sg) (F : Nat → Nat → Int32) (sz : Nat) (dp r a t B : Nat) (hV : INV σ B) (hr8 : r < 8) (ha4 : a < 4) (hdp : dp < 8) (h6 : t < 60) (hw : F 21 dp = nI t) (hm : F 22 dp = nI r) (ha : F 23 dp = nI a) (hn : t < nS σ) (hg : ¬ goesF (σ.1 1 t) (σ.1 6 (4 * r + a)) = 0) (ea : σ.1 7 (4 * r + a) = 3) (h10 : ¬ isThF (σ.1 1 t) = 0) (hr7 : r < 7) : Met l yX7_comes (tw_w yX7_comes cX7_comes 3 none) (tw_R 6 0 0) (tw_Pc D ad (wM b (gr σ F)) sz [.ref (ad 1000), .int (nI dp)]) (tw_Q D ad (wM b (gr (wkF σ (4 * r + a)) (fI F 24 dp 0))) (tw_A ad (wM b (gr σ F)) sz) none) 0 0 (tw_A ad (wM b (gr σ F)) sz) := by
  refine tw_met (by decide) rfl (by simp [lg_sl, Value.category]) (fun p e s m below meth c ls S hK hr hlocks hnm hsz hI hl => ?_)
  have hx := S.1
  have hb := S.2.1
  have hl : lv_has ls 3 [(0, .ref (ad 1000)), (1, .int (nI dp))] := hl
  refine lv_iconst (v := 4) hx hb dX7_comes_0 (by decide) ?_
  refine lv_aload_n hx hb dX7_comes_1 rfl (lv_at hl 0 rfl) ?_
  refine gm_61 S hK hI dX7_comes_2 ?_
  refine lv_iload_n hx hb dX7_comes_5 rfl (lv_at hl 1 rfl) ?_
  refine ln_22 (j := dp) S hK hI (by omega) dX7_comes_6 ?_
  refine lv_eqi (v := (nI r)) (hm) ?_
  refine lv_imul hx hb dX7_comes_7 ?_
  refine lv_eqi (v := (nI (4 * r))) (nM (a := 4) (b := r) (c := 4 * r) (by omega)) ?_
  refine lv_aload_n hx hb dX7_comes_8 rfl (lv_at hl 0 rfl) ?_
  refine gm_64 S hK hI dX7_comes_9 ?_
  refine lv_iload_n hx hb dX7_comes_12 rfl (lv_at hl 1 rfl) ?_
  refine ln_23 (j := dp) S hK hI (by omega) dX7_comes_13 ?_
  refine lv_eqi (v := (nI a)) (ha) ?_
  refine lv_iadd hx hb dX7_comes_14 ?_
  refine lv_eqi (v := (nI (4 * r + a))) (nA (a := 4 * r) (b := a) (c := 4 * r + a) (by omega)) ?_
  refine lv_istore_n (lv' := [(2, .int (nI (4 * r + a))), (0, .ref (ad 1000)), (1, .int (nI dp))]) hx hb dX7_comes_15 rfl hl (by decide) rfl (fun ls hl => ?_)
  refine lv_aload_n hx hb dX7_comes_16 rfl (lv_at hl 1 rfl) ?_
  refine gm_7 S hK hI dX7_comes_17 ?_
  refine lv_aload_n hx hb dX7_comes_20 rfl (lv_at hl 1 rfl) ?_
  refine gm_58 S hK hI dX7_comes_21 ?_
  refine lv_iload_n hx hb dX7_comes_24 rfl (lv_at hl 2 rfl) ?_
  refine ln_21 (j := dp) S hK hI (by omega) dX7_comes_25 ?_
  refine lv_eqi (v := (nI t)) (hw) ?_
  refine ln_1 (j := t) S hK hI (by omega) dX7_comes_26 ?_
  refine lv_eqi (v := (σ.1 1 t)) (rfl) ?_
  refine lv_aload_n hx hb dX7_comes_27 rfl (lv_at hl 1 rfl) ?_
  refine gm_26 S hK hI dX7_comes_28 ?_
  refine lv_iload_n hx hb dX7_comes_31 rfl (lv_at hl 0 rfl) ?_
  refine ln_6 (j := 4 * r + a) S hK hI (by omega) dX7_comes_32 ?_
  refine lv_eqi (v := (σ.1 6 (4 * r + a))) (rfl) ?_
  refine tw_calli (tw_rS (As := [.int (σ.1 1 t), .int (σ.1 6 (4 * r + a))]) (rest := []) S hK hI kX7_124 (c_X7_goes l D ad _ _ _ _) ⟨Nat.le_of_ble_eq_true rfl, Nat.le_of_ble_eq_true rfl⟩ ⟨Nat.le_of_ble_eq_true rfl, Nat.le_of_ble_eq_true rfl⟩ rfl hl.1 rfl (Nat.le_of_ble_eq_true rfl) dX7_comes_33) hI (fun H locs hI => ?_)
  refine lv_topi (fun x1 e1 => ?_)
  refine lv_if_eq (tgt := 48) hx hb dX7_comes_36 (by decide) (fun c2 => ?_) (fun c2 => ?_)
  · exact (by subst e1; exact absurd c2 hg)
  · refine lv_aload_n hx hb dX7_comes_39 rfl (lv_at hl 1 rfl) ?_
    refine lv_iload_n hx hb dX7_comes_40 rfl (lv_at hl 2 rfl) ?_
    refine lv_iload_n hx hb dX7_comes_41 rfl (lv_at hl 0 rfl) ?_
    refine tw_callv (tw_rV (As := [.int (nI dp), .int (nI (4 * r + a))]) (rest := []) S hK hI kX7_164 (c_X7_work_3s l D ad _ _ _ _ _ _ _ _ _ hV hr8 ha4 hdp h6 hw hm ha hn ea h10 hr7) (t := 1000) (fs := mRoot _) rfl rfl rfl ⟨Nat.le_of_ble_eq_true rfl, Nat.le_of_ble_eq_true rfl⟩ ⟨Nat.le_of_ble_eq_true rfl, Nat.le_of_ble_eq_true rfl⟩ rfl hl.1 rfl (Nat.le_of_ble_eq_true rfl) dX7_comes_42) hI (fun H locs hI => ?_)
    refine lv_goto (tgt := 123) hx hb dX7_comes_45 (by decide) ?_
    subst e1
    try rw [if_neg hg]
    exact tw_vret S hr hlocks hI dX7_comes_123

set_option maxHeartbeats 2000000 in
set_option maxRecDepth 100000 in
theorem c_X7_comes_w4n (l : Launch) (D : tw_G) (ad : Nat → Nat) (b : tw_W) (σ : Sg) (F : Nat → Nat → Int32) (sz : Nat) (dp r a t B : Nat) (hV : INV σ B) (hr8 : r < 8) (ha4 : a < 4) (hdp : dp < 8) (h6 : t < 60) (hw : F 21 dp = nI t) (hm : F 22 dp = nI r) (ha : F 23 dp = nI a) (hn : t < nS σ) (hg : ¬ goesF (σ.1 1 t) (σ.1 6 (4 * r + a)) = 0) (ea : σ.1 7 (4 * r + a) = 4) (hh0 : σ.1 10 (4 * r + a) = -1) : Met l yX7_comes (tw_w yX7_comes cX7_comes 3 none) (tw_R 6 0 0) (tw_Pc D ad (wM b (gr σ F)) sz [.ref (ad 1000), .int (nI dp)]) (tw_Q D ad (wM b (gr (sI (wkF σ (4 * r + a)) 10 (4 * r + a) (nI t)) (endF F (-1)))) (tw_A ad (wM b (gr σ F)) sz) none) 0 0 (tw_A ad (wM b (gr σ F)) sz) := by
  refine tw_met (by decide) rfl (by simp [lg_sl, Value.category]) (fun p e s m below meth c ls S hK hr hlocks hnm hsz hI hl => ?_)
  have hx := S.1
  have hb := S.2.1
  have hl : lv_has ls 3 [(0, .ref (ad 1000)), (1, .int (nI dp))] := hl
  refine lv_iconst (v := 4) hx hb dX7_comes_0 (by decide) ?_
  refine lv_aload_n hx hb dX7_comes_1 rfl (lv_at hl 0 rfl) ?_
  refine gm_61 S hK hI dX7_comes_2 ?_
  refine lv_iload_n hx hb dX7_comes_5 rfl (lv_at hl 1 rfl) ?_
  refine ln_22 (j := dp) S hK hI (by omega) dX7_comes_6 ?_
  refine lv_eqi (v := (nI r)) (hm) ?_
  refine lv_imul hx hb dX7_comes_7 ?_
  refine lv_eqi (v := (nI (4 * r))) (nM (a := 4) (b := r) (c := 4 * r) (by omega)) ?_
  refine lv_aload_n hx hb dX7_comes_8 rfl (lv_at hl 0 rfl) ?_
  refine gm_64 S hK hI dX7_comes_9 ?_
  refine lv_iload_n hx hb dX7_comes_12 rfl (lv_at hl 1 rfl) ?_
  refine ln_23 (j := dp) S hK hI (by omega) dX7_comes_13 ?_
  refine lv_eqi (v := (nI a)) (ha) ?_
  refine lv_iadd hx hb dX7_comes_14 ?_
  refine lv_eqi (v := (nI (4 * r + a))) (nA (a := 4 * r) (b := a) (c := 4 * r + a) (by omega)) ?_
  refine lv_istore_n (lv' := [(2, .int (nI (4 * r + a))), (0, .ref (ad 1000)), (1, .int (nI dp))]) hx hb dX7_comes_15 rfl hl (by decide) rfl (fun ls hl => ?_)
  refine lv_aload_n hx hb dX7_comes_16 rfl (lv_at hl 1 rfl) ?_
  refine gm_7 S hK hI dX7_comes_17 ?_
  refine lv_aload_n hx hb dX7_comes_20 rfl (lv_at hl 1 rfl) ?_
  refine gm_58 S hK hI dX7_comes_21 ?_
  refine lv_iload_n hx hb dX7_comes_24 rfl (lv_at hl 2 rfl) ?_
  refine ln_21 (j := dp) S hK hI (by omega) dX7_comes_25 ?_
  refine lv_eqi (v := (nI t)) (hw) ?_
  refine ln_1 (j := t) S hK hI (by omega) dX7_comes_26 ?_
  refine lv_eqi (v := (σ.1 1 t)) (rfl) ?_
  refine lv_aload_n hx hb dX7_comes_27 rfl (lv_at hl 1 rfl) ?_
  refine gm_26 S hK hI dX7_comes_28 ?_
  refine lv_iload_n hx hb dX7_comes_31 rfl (lv_at hl 0 rfl) ?_
  refine ln_6 (j := 4 * r + a) S hK hI (by omega) dX7_comes_32 ?_
  refine lv_eqi (v := (σ.1 6 (4 * r + a))) (rfl) ?_
  refine tw_calli (tw_rS (As := [.int (σ.1 1 t), .int (σ.1 6 (4 * r + a))]) (rest := []) S hK hI kX7_124 (c_X7_goes l D ad _ _ _ _) ⟨Nat.le_of_ble_eq_true rfl, Nat.le_of_ble_eq_true rfl⟩ ⟨Nat.le_of_ble_eq_true rfl, Nat.le_of_ble_eq_true rfl⟩ rfl hl.1 rfl (Nat.le_of_ble_eq_true rfl) dX7_comes_33) hI (fun H locs hI => ?_)
  refine lv_topi (fun x1 e1 => ?_)
  refine lv_if_eq (tgt := 48) hx hb dX7_comes_36 (by decide) (fun c2 => ?_) (fun c2 => ?_)
  · exact (by subst e1; exact absurd c2 hg)
  · refine lv_aload_n hx hb dX7_comes_39 rfl (lv_at hl 1 rfl) ?_
    refine lv_iload_n hx hb dX7_comes_40 rfl (lv_at hl 2 rfl) ?_
    refine lv_iload_n hx hb dX7_comes_41 rfl (lv_at hl 0 rfl) ?_
    refine tw_callv (tw_rV (As := [.int (nI dp), .int (nI (4 * r + a))]) (rest := []) S hK hI kX7_164 (c_X7_work_4n l D ad _ _ _ _ _ _ _ _ _ hV hr8 ha4 hdp h6 hw hm ha hn ea hh0) (t := 1000) (fs := mRoot _) rfl rfl rfl ⟨Nat.le_of_ble_eq_true rfl, Nat.le_of_ble_eq_true rfl⟩ ⟨Nat.le_of_ble_eq_true rfl, Nat.le_of_ble_eq_true rfl⟩ rfl hl.1 rfl (Nat.le_of_ble_eq_true rfl) dX7_comes_42) hI (fun H locs hI => ?_)
    refine lv_goto (tgt := 123) hx hb dX7_comes_45 (by decide) ?_
    subst e1
    try rw [if_neg hg]
    exact tw_vret S hr hlocks hI dX7_comes_123

set_option maxHeartbeats 2000000 in
set_option maxRecDepth 100000 in
theorem c_X7_comes_w4s (l : Launch) (D : tw_G) (ad : Nat → Nat) (b : tw_W) (σ : Sg) (F : Nat → Nat → Int32) (sz : Nat) (dp r a t q B : Nat) (hV : INV σ B) (hr8 : r < 8) (ha4 : a < 4) (hdp : dp < 8) (h6 : t < 60) (hw : F 21 dp = nI t) (hm : F 22 dp = nI r) (ha : F 23 dp = nI a) (hn : t < nS σ) (hg : ¬ goesF (σ.1 1 t) (σ.1 6 (4 * r + a)) = 0) (ea : σ.1 7 (4 * r + a) = 4) (hh0 : σ.1 10 (4 * r + a) = nI q) (hq6 : q < 60) : Met l yX7_comes (tw_w yX7_comes cX7_comes 3 none) (tw_R 6 0 0) (tw_Pc D ad (wM b (gr σ F)) sz [.ref (ad 1000), .int (nI dp)]) (tw_Q D ad (wM b (gr (sI (wkF σ (4 * r + a)) 10 (4 * r + a) (nI t)) (fI (fI F 21 dp (nI q)) 23 dp (nI (a + 1))))) (tw_A ad (wM b (gr σ F)) sz) none) 0 0 (tw_A ad (wM b (gr σ F)) sz) := by
  refine tw_met (by decide) rfl (by simp [lg_sl, Value.category]) (fun p e s m below meth c ls S hK hr hlocks hnm hsz hI hl => ?_)
  have hx := S.1
  have hb := S.2.1
  have hl : lv_has ls 3 [(0, .ref (ad 1000)), (1, .int (nI dp))] := hl
  refine lv_iconst (v := 4) hx hb dX7_comes_0 (by decide) ?_
  refine lv_aload_n hx hb dX7_comes_1 rfl (lv_at hl 0 rfl) ?_
  refine gm_61 S hK hI dX7_comes_2 ?_
  refine lv_iload_n hx hb dX7_comes_5 rfl (lv_at hl 1 rfl) ?_
  refine ln_22 (j := dp) S hK hI (by omega) dX7_comes_6 ?_
  refine lv_eqi (v := (nI r)) (hm) ?_
  refine lv_imul hx hb dX7_comes_7 ?_
  refine lv_eqi (v := (nI (4 * r))) (nM (a := 4) (b := r) (c := 4 * r) (by omega)) ?_
  refine lv_aload_n hx hb dX7_comes_8 rfl (lv_at hl 0 rfl) ?_
  refine gm_64 S hK hI dX7_comes_9 ?_
  refine lv_iload_n hx hb dX7_comes_12 rfl (lv_at hl 1 rfl) ?_
  refine ln_23 (j := dp) S hK hI (by omega) dX7_comes_13 ?_
  refine lv_eqi (v := (nI a)) (ha) ?_
  refine lv_iadd hx hb dX7_comes_14 ?_
  refine lv_eqi (v := (nI (4 * r + a))) (nA (a := 4 * r) (b := a) (c := 4 * r + a) (by omega)) ?_
  refine lv_istore_n (lv' := [(2, .int (nI (4 * r + a))), (0, .ref (ad 1000)), (1, .int (nI dp))]) hx hb dX7_comes_15 rfl hl (by decide) rfl (fun ls hl => ?_)
  refine lv_aload_n hx hb dX7_comes_16 rfl (lv_at hl 1 rfl) ?_
  refine gm_7 S hK hI dX7_comes_17 ?_
  refine lv_aload_n hx hb dX7_comes_20 rfl (lv_at hl 1 rfl) ?_
  refine gm_58 S hK hI dX7_comes_21 ?_
  refine lv_iload_n hx hb dX7_comes_24 rfl (lv_at hl 2 rfl) ?_
  refine ln_21 (j := dp) S hK hI (by omega) dX7_comes_25 ?_
  refine lv_eqi (v := (nI t)) (hw) ?_
  refine ln_1 (j := t) S hK hI (by omega) dX7_comes_26 ?_
  refine lv_eqi (v := (σ.1 1 t)) (rfl) ?_
  refine lv_aload_n hx hb dX7_comes_27 rfl (lv_at hl 1 rfl) ?_
  refine gm_26 S hK hI dX7_comes_28 ?_
  refine lv_iload_n hx hb dX7_comes_31 rfl (lv_at hl 0 rfl) ?_
  refine ln_6 (j := 4 * r + a) S hK hI (by omega) dX7_comes_32 ?_
  refine lv_eqi (v := (σ.1 6 (4 * r + a))) (rfl) ?_
  refine tw_calli (tw_rS (As := [.int (σ.1 1 t), .int (σ.1 6 (4 * r + a))]) (rest := []) S hK hI kX7_124 (c_X7_goes l D ad _ _ _ _) ⟨Nat.le_of_ble_eq_true rfl, Nat.le_of_ble_eq_true rfl⟩ ⟨Nat.le_of_ble_eq_true rfl, Nat.le_of_ble_eq_true rfl⟩ rfl hl.1 rfl (Nat.le_of_ble_eq_true rfl) dX7_comes_33) hI (fun H locs hI => ?_)
  refine lv_topi (fun x1 e1 => ?_)
  refine lv_if_eq (tgt := 48) hx hb dX7_comes_36 (by decide) (fun c2 => ?_) (fun c2 => ?_)
  · exact (by subst e1; exact absurd c2 hg)
  · refine lv_aload_n hx hb dX7_comes_39 rfl (lv_at hl 1 rfl) ?_
    refine lv_iload_n hx hb dX7_comes_40 rfl (lv_at hl 2 rfl) ?_
    refine lv_iload_n hx hb dX7_comes_41 rfl (lv_at hl 0 rfl) ?_
    refine tw_callv (tw_rV (As := [.int (nI dp), .int (nI (4 * r + a))]) (rest := []) S hK hI kX7_164 (c_X7_work_4s l D ad _ _ _ _ _ _ _ _ _ _ hV hr8 ha4 hdp h6 hw hm ha hn ea hh0 hq6) (t := 1000) (fs := mRoot _) rfl rfl rfl ⟨Nat.le_of_ble_eq_true rfl, Nat.le_of_ble_eq_true rfl⟩ ⟨Nat.le_of_ble_eq_true rfl, Nat.le_of_ble_eq_true rfl⟩ rfl hl.1 rfl (Nat.le_of_ble_eq_true rfl) dX7_comes_42) hI (fun H locs hI => ?_)
    refine lv_goto (tgt := 123) hx hb dX7_comes_45 (by decide) ?_
    subst e1
    try rw [if_neg hg]
    exact tw_vret S hr hlocks hI dX7_comes_123
