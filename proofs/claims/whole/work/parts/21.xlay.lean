/-! the class: lay -/
theorem takes_goes : ∀ (a q : Fin 13), ¬ isThF (nI a) = 0 → (takesX (nI a) (nI q) = 0 ↔ goesF (nI q) (wantedF (nI a)) = 0) := by decide +kernel
theorem can_goes : ∀ (a q : Fin 13), ¬ isThF (nI a) = 0 → (canX (nI a) (nI q) = 0 ↔ goesF (nI q) (holdsF (nI a)) = 0) := by decide +kernel
theorem takes_g {σ : Sg} (hkd : okKd σ) {k q : Nat} (hn : k < nS σ) (hq : q < nS σ) (hT : isThF (σ.1 1 k) = 1) : takesX (σ.1 1 k) (σ.1 1 q) = 0 ↔ goesF (σ.1 1 q) (wantedF (σ.1 1 k)) = 0 := by
  obtain ⟨a, ha, e⟩ := hkd k hn
  obtain ⟨b, hb, e2⟩ := hkd q hq
  rw [e] at hT ⊢
  rw [e2]
  exact takes_goes ⟨a, by omega⟩ ⟨b, by omega⟩ (by rw [hT]; decide)
theorem can_g {σ : Sg} (hkd : okKd σ) {k q : Nat} (hn : k < nS σ) (hq : q < nS σ) (hT : isThF (σ.1 1 k) = 1) : canX (σ.1 1 k) (σ.1 1 q) = 0 ↔ goesF (σ.1 1 q) (holdsF (σ.1 1 k)) = 0 := by
  obtain ⟨a, ha, e⟩ := hkd k hn
  obtain ⟨b, hb, e2⟩ := hkd q hq
  rw [e] at hT ⊢
  rw [e2]
  exact can_goes ⟨a, by omega⟩ ⟨b, by omega⟩ (by rw [hT]; decide)
theorem noItem_m1 (σ : Sg) : noItem σ (-1) := Or.inl (by decide)
theorem nI_m1 {q : Nat} (h : q < 2 ^ 31) : ¬ nI q = -1 := fun e => absurd (e ▸ nI_pos h : ¬ (-1 : Int32) < 0) (by decide)
theorem lay_none {σ : Sg} {t i x : Int32} (hok : okM σ) (h : noItem σ t) : layM σ t i x = (-2, refuseM σ (-2)) := by
  unfold layM
  rw [if_pos (item_no (okM_acc hok) h), refuse_acc]
theorem lay_bad {σ : Sg} {k : Nat} {i x : Int32} (hok : okM σ) (h : k < nS σ) (hx : noItem σ x) (h1 : ¬ x = -1) : layM σ (nI k) i x = (-2, refuseM σ (-2)) := by
  unfold layM
  rw [if_neg (item_yes (okM_acc hok) h), if_neg h1, if_pos (item_no (okM_acc hok) hx), refuse_acc]
theorem lay_nil {σ : Sg} {k : Nat} {i : Int32} (hok : okM σ) (h : k < nS σ) : layM σ (nI k) i (-1) = layM2 (acc σ) (nI k) i (-1) := by
  unfold layM
  rw [if_neg (item_yes (okM_acc hok) h), if_pos rfl]
theorem lay_q {σ : Sg} {k q : Nat} {i : Int32} (hok : okM σ) (h : k < nS σ) (hq : q < nS σ) : layM σ (nI k) i (nI q) = layM2 (acc σ) (nI k) i (nI q) := by
  unfold layM
  rw [if_neg (item_yes (okM_acc hok) h), if_neg (nI_m1 (by have := (okN hok).1; omega)), if_neg (item_yes (okM_acc hok) hq)]
theorem lay2_cast {σ : Sg} {t i x : Int32} (h : layOK (acc σ) t x = 0) : layM2 (acc σ) t i x = (-4, refuseM σ (-4)) := by
  unfold layM2
  rw [h, wrong_0, if_neg (by decide), refuse_acc]
theorem lay2_index {σ : Sg} {k : Nat} {i x : Int32} (hok : okM σ) (h6 : k < 60) (h : ¬ layOK (acc σ) (nI k) x = 0) (hi : i < 0 ∨ nI (szS σ k) ≤ i) : layM2 (acc σ) (nI k) i x = (-5, refuseM σ (-5)) := by
  unfold layM2
  rw [wrong_out (σ := acc σ) (okM_acc hok) h6 hi h, if_neg (by decide), refuse_acc]
theorem lok_0 {σ : Sg} {k : Nat} {x : Int32} (h6 : k < 60) (hT : isThF (σ.1 1 k) = 0) : layOK (acc σ) (nI k) x = 0 := by
  unfold layOK
  rw [ixn (by omega), if_pos (show isThF ((acc σ).1 1 k) = 0 from hT)]
theorem lok_nil {σ : Sg} {k : Nat} (h6 : k < 60) (hT : isThF (σ.1 1 k) = 1) : ¬ layOK (acc σ) (nI k) (-1) = 0 := by
  unfold layOK
  rw [ixn (by omega), if_neg (show ¬ isThF ((acc σ).1 1 k) = 0 from by rw [show (acc σ).1 1 k = σ.1 1 k from rfl, hT]; decide), if_pos rfl]
  decide
theorem lok_q0 {σ : Sg} (hkd : okKd σ) {k q : Nat} (hn : k < nS σ) (hq : q < nS σ) (h6 : k < 60) (q6 : q < 60) (hT : isThF (σ.1 1 k) = 1) (ht : takesX (σ.1 1 k) (σ.1 1 q) = 0) : layOK (acc σ) (nI k) (nI q) = 0 := by
  unfold layOK
  rw [ixn (by omega), ixn (by omega), if_neg (show ¬ isThF ((acc σ).1 1 k) = 0 from by rw [show (acc σ).1 1 k = σ.1 1 k from rfl, hT]; decide), if_neg (nI_m1 (by omega)), if_pos (show goesF ((acc σ).1 1 q) (wantedF ((acc σ).1 1 k)) = 0 from (takes_g hkd hn hq hT).mp ht)]
theorem lok_q1 {σ : Sg} (hkd : okKd σ) {k q : Nat} (hn : k < nS σ) (hq : q < nS σ) (h6 : k < 60) (q6 : q < 60) (hT : isThF (σ.1 1 k) = 1) (ht : ¬ takesX (σ.1 1 k) (σ.1 1 q) = 0) : ¬ layOK (acc σ) (nI k) (nI q) = 0 := by
  unfold layOK
  rw [ixn (by omega), ixn (by omega), if_neg (show ¬ isThF ((acc σ).1 1 k) = 0 from by rw [show (acc σ).1 1 k = σ.1 1 k from rfl, hT]; decide), if_neg (nI_m1 (by omega)), if_neg (show ¬ goesF ((acc σ).1 1 q) (wantedF ((acc σ).1 1 k)) = 0 from fun z => ht ((takes_g hkd hn hq hT).mpr z))]
  decide
theorem ix3n {k j : Nat} (h6 : k < 60) (hj : j < 3) : ix (3 * nI k + nI j) = 3 * k + j := by
  rw [ix3 (vp_in_nI h6 (by decide)) (vp_in_nI hj (by decide)), ixn (by omega), ixn (by omega)]
theorem lay2_nil {σ : Sg} {k j : Nat} (hok : okM σ) (h6 : k < 60) (h : ¬ layOK (acc σ) (nI k) (-1) = 0) (hj : j < szS σ k) : layM2 (acc σ) (nI k) (nI j) (-1) = (1, sC (acc σ) (3 * k + j) (-1)) := by
  have hz := (okZ hok h6).1
  unfold layM2
  rw [wrong_ok (σ := acc σ) (okM_acc hok) h6 hj h, if_pos rfl, if_pos rfl, ix3n h6 (by omega)]
  rfl
theorem lay2_store {σ : Sg} (hkd : okKd σ) {k j q : Nat} (hok : okM σ) (hn : k < nS σ) (hq : q < nS σ) (h6 : k < 60) (q6 : q < 60) (hT : isThF (σ.1 1 k) = 1) (h : ¬ layOK (acc σ) (nI k) (nI q) = 0) (hj : j < szS σ k) (hc : canX (σ.1 1 k) (σ.1 1 q) = 0) : layM2 (acc σ) (nI k) (nI j) (nI q) = (-6, refuseM σ (-6)) := by
  unfold layM2
  rw [wrong_ok (σ := acc σ) (okM_acc hok) h6 hj h, if_pos rfl, if_neg (nI_m1 (by omega)), ixn (by omega), ixn (by omega), if_pos (show goesF ((acc σ).1 1 q) (holdsF ((acc σ).1 1 k)) = 0 from (can_g hkd hn hq hT).mp hc), refuse_acc]
theorem lay2_ok {σ : Sg} (hkd : okKd σ) {k j q : Nat} (hok : okM σ) (hn : k < nS σ) (hq : q < nS σ) (h6 : k < 60) (q6 : q < 60) (hT : isThF (σ.1 1 k) = 1) (h : ¬ layOK (acc σ) (nI k) (nI q) = 0) (hj : j < szS σ k) (hc : ¬ canX (σ.1 1 k) (σ.1 1 q) = 0) : layM2 (acc σ) (nI k) (nI j) (nI q) = (1, sC (acc σ) (3 * k + j) (lN q)) := by
  have hz := (okZ hok h6).1
  unfold layM2
  rw [wrong_ok (σ := acc σ) (okM_acc hok) h6 hj h, if_pos rfl, if_neg (nI_m1 (by omega)), ixn (show q < 2 ^ 31 by omega), ixn (show k < 2 ^ 31 by omega), if_neg (show ¬ goesF ((acc σ).1 1 q) (holdsF ((acc σ).1 1 k)) = 0 from fun z => hc ((can_g hkd hn hq hT).mpr z)), ix3n h6 (by omega), nI_l (by omega)]
theorem acc_sC (σ : Sg) (a : Nat) (v : Int64) : acc (sC σ a v) = sC (acc σ) a v := rfl

set_option maxHeartbeats 2000000 in
set_option maxRecDepth 100000 in
theorem c_X6_lay_none (l : Launch) (D : tw_G) (ad : Nat → Nat) (b : tw_W) (σ : Sg) (h : Int32) (Q : Nat → Int32) (sz : Nat) (t i x : Int32) (hok : okM σ) (hkd : okKd σ) (hv : noItem σ t) (hw : noItem σ x) : Met l yX6_lay (tw_w yX6_lay cX6_lay 7 (some .int)) (tw_R 3 0 0) (tw_Pc D ad (wX b σ h Q) sz [.ref (ad 0), .int t, .int i, .int x]) (tw_Q D ad (wX b ((layM σ t i x).2) h Q) (tw_A ad (wX b σ h Q) sz) (some (.int (layM σ t i x).1))) 0 0 (tw_A ad (wX b σ h Q) sz) := by
  refine tw_met (by decide) rfl (by simp [lg_sl, Value.category]) (fun p e s m below meth c ls S hK hr hlocks hnm hsz hI hl => ?_)
  have hx := S.1
  have hb := S.2.1
  have hl : lv_has ls 7 [(0, .ref (ad 0)), (1, .int t), (2, .int i), (3, .int x)] := hl
  refine lv_aload_n hx hb dX6_lay_0 rfl (lv_at hl 0 rfl) ?_
  refine lv_iload_n hx hb dX6_lay_1 rfl (lv_at hl 1 rfl) ?_
  refine tw_calla (tw_rV (As := [.int t]) (rest := []) S hK hI kX6_78 (c_X6_findItem_none l D ad _ _ _ _ _ _ (okN hok).1 hv) wX_0 rfl rfl ⟨Nat.le_of_ble_eq_true rfl, Nat.le_of_ble_eq_true rfl⟩ ⟨Nat.le_of_ble_eq_true rfl, Nat.le_of_ble_eq_true rfl⟩ rfl hl.1 rfl (Nat.le_of_ble_eq_true rfl) dX6_lay_2) hI (fun H locs hI => ?_)
  refine lv_astoreN (lv' := [(4, .null), (0, .ref (ad 0)), (1, .int t), (2, .int i), (3, .int x)]) hx hb dX6_lay_5 hl (by decide) rfl (fun ls hl => ?_)
  refine lv_aload_n hx hb dX6_lay_7 rfl (lv_at hl 1 rfl) ?_
  refine lv_iload_n hx hb dX6_lay_8 rfl (lv_at hl 4 rfl) ?_
  refine tw_calla (tw_rV (As := [.int x]) (rest := []) S hK hI kX6_78 (c_X6_findItem_none l D ad _ _ _ _ _ _ (okN hok).1 hw) wX_0 rfl rfl ⟨Nat.le_of_ble_eq_true rfl, Nat.le_of_ble_eq_true rfl⟩ ⟨Nat.le_of_ble_eq_true rfl, Nat.le_of_ble_eq_true rfl⟩ rfl hl.1 rfl (Nat.le_of_ble_eq_true rfl) dX6_lay_9) hI (fun H locs hI => ?_)
  refine lv_astoreN (lv' := [(5, .null), (4, .null), (0, .ref (ad 0)), (1, .int t), (2, .int i), (3, .int x)]) hx hb dX6_lay_12 hl (by decide) rfl (fun ls hl => ?_)
  refine lv_aloadN hx hb dX6_lay_14 (lv_at hl 1 rfl) ?_
  refine lv_ifnullN (tgt := 29) hx hb dX6_lay_16 (by decide) ?_
  refine lv_aload_n hx hb dX6_lay_29 rfl (lv_at hl 2 rfl) ?_
  refine lv_bipush (v := (-2)) hx hb dX6_lay_30 (by decide) ?_
  refine tw_calli (tw_rV (As := [.int (-2)]) (rest := []) S hK hI kX6_50 (c_X6_refuse l D ad _ _ _ _ _ _) wX_0 rfl rfl ⟨Nat.le_of_ble_eq_true rfl, Nat.le_of_ble_eq_true rfl⟩ ⟨Nat.le_of_ble_eq_true rfl, Nat.le_of_ble_eq_true rfl⟩ rfl hl.1 rfl (Nat.le_of_ble_eq_true rfl) dX6_lay_32) hI (fun H locs hI => ?_)
  refine lv_topi (fun x1 e1 => ?_)
  subst e1
  rw [lay_none hok hv]
  exact tw_iret S hr hlocks hI dX6_lay_35

set_option maxHeartbeats 2000000 in
set_option maxRecDepth 100000 in
theorem c_X6_lay_noneq (l : Launch) (D : tw_G) (ad : Nat → Nat) (b : tw_W) (σ : Sg) (h : Int32) (Q : Nat → Int32) (sz : Nat) (t i : Int32) (q : Nat) (hok : okM σ) (hkd : okKd σ) (hv : noItem σ t) (hq : q < nS σ) (hq6 : q < 60) : Met l yX6_lay (tw_w yX6_lay cX6_lay 7 (some .int)) (tw_R 3 0 0) (tw_Pc D ad (wX b σ h Q) sz [.ref (ad 0), .int t, .int i, .int (nI q)]) (tw_Q D ad (wX b ((layM σ t i (nI q)).2) h Q) (tw_A ad (wX b σ h Q) sz) (some (.int (layM σ t i (nI q)).1))) 0 0 (tw_A ad (wX b σ h Q) sz) := by
  refine tw_met (by decide) rfl (by simp [lg_sl, Value.category]) (fun p e s m below meth c ls S hK hr hlocks hnm hsz hI hl => ?_)
  have hx := S.1
  have hb := S.2.1
  have hl : lv_has ls 7 [(0, .ref (ad 0)), (1, .int t), (2, .int i), (3, .int (nI q))] := hl
  refine lv_aload_n hx hb dX6_lay_0 rfl (lv_at hl 0 rfl) ?_
  refine lv_iload_n hx hb dX6_lay_1 rfl (lv_at hl 1 rfl) ?_
  refine tw_calla (tw_rV (As := [.int t]) (rest := []) S hK hI kX6_78 (c_X6_findItem_none l D ad _ _ _ _ _ _ (okN hok).1 hv) wX_0 rfl rfl ⟨Nat.le_of_ble_eq_true rfl, Nat.le_of_ble_eq_true rfl⟩ ⟨Nat.le_of_ble_eq_true rfl, Nat.le_of_ble_eq_true rfl⟩ rfl hl.1 rfl (Nat.le_of_ble_eq_true rfl) dX6_lay_2) hI (fun H locs hI => ?_)
  refine lv_astoreN (lv' := [(4, .null), (0, .ref (ad 0)), (1, .int t), (2, .int i), (3, .int (nI q))]) hx hb dX6_lay_5 hl (by decide) rfl (fun ls hl => ?_)
  refine lv_aload_n hx hb dX6_lay_7 rfl (lv_at hl 1 rfl) ?_
  refine lv_iload_n hx hb dX6_lay_8 rfl (lv_at hl 4 rfl) ?_
  refine tw_calla (tw_rV (As := [.int (nI q)]) (rest := []) S hK hI kX6_78 (c_X6_findItem_some l D ad _ _ _ _ _ _ hq hq6) wX_0 rfl rfl ⟨Nat.le_of_ble_eq_true rfl, Nat.le_of_ble_eq_true rfl⟩ ⟨Nat.le_of_ble_eq_true rfl, Nat.le_of_ble_eq_true rfl⟩ rfl hl.1 rfl (Nat.le_of_ble_eq_true rfl) dX6_lay_9) hI (fun H locs hI => ?_)
  refine lv_astore (lv' := [(5, .ref (ad (100 + q))), (4, .null), (0, .ref (ad 0)), (1, .int t), (2, .int i), (3, .int (nI q))]) hx hb dX6_lay_12 hl (by decide) rfl (fun ls hl => ?_)
  refine lv_aloadN hx hb dX6_lay_14 (lv_at hl 1 rfl) ?_
  refine lv_ifnullN (tgt := 29) hx hb dX6_lay_16 (by decide) ?_
  refine lv_aload_n hx hb dX6_lay_29 rfl (lv_at hl 2 rfl) ?_
  refine lv_bipush (v := (-2)) hx hb dX6_lay_30 (by decide) ?_
  refine tw_calli (tw_rV (As := [.int (-2)]) (rest := []) S hK hI kX6_50 (c_X6_refuse l D ad _ _ _ _ _ _) wX_0 rfl rfl ⟨Nat.le_of_ble_eq_true rfl, Nat.le_of_ble_eq_true rfl⟩ ⟨Nat.le_of_ble_eq_true rfl, Nat.le_of_ble_eq_true rfl⟩ rfl hl.1 rfl (Nat.le_of_ble_eq_true rfl) dX6_lay_32) hI (fun H locs hI => ?_)
  refine lv_topi (fun x1 e1 => ?_)
  subst e1
  rw [lay_none hok hv]
  exact tw_iret S hr hlocks hI dX6_lay_35

set_option maxHeartbeats 2000000 in
set_option maxRecDepth 100000 in
theorem c_X6_lay_bad (l : Launch) (D : tw_G) (ad : Nat → Nat) (b : tw_W) (σ : Sg) (h : Int32) (Q : Nat → Int32) (sz : Nat) (k : Nat) (i x : Int32) (hok : okM σ) (hkd : okKd σ) (hn : k < nS σ) (h6 : k < 60) (hw : noItem σ x) (h1 : ¬ x = -1) : Met l yX6_lay (tw_w yX6_lay cX6_lay 7 (some .int)) (tw_R 3 0 0) (tw_Pc D ad (wX b σ h Q) sz [.ref (ad 0), .int (nI k), .int i, .int x]) (tw_Q D ad (wX b ((layM σ (nI k) i x).2) h Q) (tw_A ad (wX b σ h Q) sz) (some (.int (layM σ (nI k) i x).1))) 0 0 (tw_A ad (wX b σ h Q) sz) := by
  refine tw_met (by decide) rfl (by simp [lg_sl, Value.category]) (fun p e s m below meth c ls S hK hr hlocks hnm hsz hI hl => ?_)
  have hx := S.1
  have hb := S.2.1
  have hl : lv_has ls 7 [(0, .ref (ad 0)), (1, .int (nI k)), (2, .int i), (3, .int x)] := hl
  refine lv_aload_n hx hb dX6_lay_0 rfl (lv_at hl 0 rfl) ?_
  refine lv_iload_n hx hb dX6_lay_1 rfl (lv_at hl 1 rfl) ?_
  refine tw_calla (tw_rV (As := [.int (nI k)]) (rest := []) S hK hI kX6_78 (c_X6_findItem_some l D ad _ _ _ _ _ _ hn h6) wX_0 rfl rfl ⟨Nat.le_of_ble_eq_true rfl, Nat.le_of_ble_eq_true rfl⟩ ⟨Nat.le_of_ble_eq_true rfl, Nat.le_of_ble_eq_true rfl⟩ rfl hl.1 rfl (Nat.le_of_ble_eq_true rfl) dX6_lay_2) hI (fun H locs hI => ?_)
  refine lv_astore (lv' := [(4, .ref (ad (100 + k))), (0, .ref (ad 0)), (1, .int (nI k)), (2, .int i), (3, .int x)]) hx hb dX6_lay_5 hl (by decide) rfl (fun ls hl => ?_)
  refine lv_aload_n hx hb dX6_lay_7 rfl (lv_at hl 1 rfl) ?_
  refine lv_iload_n hx hb dX6_lay_8 rfl (lv_at hl 4 rfl) ?_
  refine tw_calla (tw_rV (As := [.int x]) (rest := []) S hK hI kX6_78 (c_X6_findItem_none l D ad _ _ _ _ _ _ (okN hok).1 hw) wX_0 rfl rfl ⟨Nat.le_of_ble_eq_true rfl, Nat.le_of_ble_eq_true rfl⟩ ⟨Nat.le_of_ble_eq_true rfl, Nat.le_of_ble_eq_true rfl⟩ rfl hl.1 rfl (Nat.le_of_ble_eq_true rfl) dX6_lay_9) hI (fun H locs hI => ?_)
  refine lv_astoreN (lv' := [(5, .null), (4, .ref (ad (100 + k))), (0, .ref (ad 0)), (1, .int (nI k)), (2, .int i), (3, .int x)]) hx hb dX6_lay_12 hl (by decide) rfl (fun ls hl => ?_)
  refine lv_aload hx hb dX6_lay_14 (lv_at hl 1 rfl) ?_
  refine lv_ifnull hx hb dX6_lay_16 ?_
  refine lv_aloadN hx hb dX6_lay_19 (lv_at hl 0 rfl) ?_
  refine lv_ifnonnullN hx hb dX6_lay_21 ?_
  refine lv_iload_n hx hb dX6_lay_24 rfl (lv_at hl 5 rfl) ?_
  refine lv_iconst (v := (-1)) hx hb dX6_lay_25 (by decide) ?_
  refine lv_icmp_eq (tgt := 36) hx hb dX6_lay_26 (by decide) (fun c1 => ?_) (fun c1 => ?_)
  · exact absurd c1 h1
  · refine lv_aload_n hx hb dX6_lay_29 rfl (lv_at hl 2 rfl) ?_
    refine lv_bipush (v := (-2)) hx hb dX6_lay_30 (by decide) ?_
    refine tw_calli (tw_rV (As := [.int (-2)]) (rest := []) S hK hI kX6_50 (c_X6_refuse l D ad _ _ _ _ _ _) wX_0 rfl rfl ⟨Nat.le_of_ble_eq_true rfl, Nat.le_of_ble_eq_true rfl⟩ ⟨Nat.le_of_ble_eq_true rfl, Nat.le_of_ble_eq_true rfl⟩ rfl hl.1 rfl (Nat.le_of_ble_eq_true rfl) dX6_lay_32) hI (fun H locs hI => ?_)
    refine lv_topi (fun x2 e2 => ?_)
    subst e2
    rw [lay_bad hok hn hw h1]
    exact tw_iret S hr hlocks hI dX6_lay_35

set_option maxHeartbeats 2000000 in
set_option maxRecDepth 100000 in
theorem c_X6_lay_numm1 (l : Launch) (D : tw_G) (ad : Nat → Nat) (b : tw_W) (σ : Sg) (h : Int32) (Q : Nat → Int32) (sz : Nat) (k : Nat) (i : Int32) (hok : okM σ) (hkd : okKd σ) (hn : k < nS σ) (h6 : k < 60) (hN : isNumK (σ.1 1 k) = true) (hw : noItem σ (-1)) : Met l yX6_lay (tw_w yX6_lay cX6_lay 7 (some .int)) (tw_R 3 0 0) (tw_Pc D ad (wX b σ h Q) sz [.ref (ad 0), .int (nI k), .int i, .int (-1)]) (tw_Q D ad (wX b ((layM σ (nI k) i (-1)).2) h Q) (tw_A ad (wX b σ h Q) sz) (some (.int (layM σ (nI k) i (-1)).1))) 0 0 (tw_A ad (wX b σ h Q) sz) := by
  refine tw_met (by decide) rfl (by simp [lg_sl, Value.category]) (fun p e s m below meth c ls S hK hr hlocks hnm hsz hI hl => ?_)
  have hx := S.1
  have hb := S.2.1
  have hl : lv_has ls 7 [(0, .ref (ad 0)), (1, .int (nI k)), (2, .int i), (3, .int (-1))] := hl
  refine lv_aload_n hx hb dX6_lay_0 rfl (lv_at hl 0 rfl) ?_
  refine lv_iload_n hx hb dX6_lay_1 rfl (lv_at hl 1 rfl) ?_
  refine tw_calla (tw_rV (As := [.int (nI k)]) (rest := []) S hK hI kX6_78 (c_X6_findItem_some l D ad _ _ _ _ _ _ hn h6) wX_0 rfl rfl ⟨Nat.le_of_ble_eq_true rfl, Nat.le_of_ble_eq_true rfl⟩ ⟨Nat.le_of_ble_eq_true rfl, Nat.le_of_ble_eq_true rfl⟩ rfl hl.1 rfl (Nat.le_of_ble_eq_true rfl) dX6_lay_2) hI (fun H locs hI => ?_)
  refine lv_astore (lv' := [(4, .ref (ad (100 + k))), (0, .ref (ad 0)), (1, .int (nI k)), (2, .int i), (3, .int (-1))]) hx hb dX6_lay_5 hl (by decide) rfl (fun ls hl => ?_)
  refine lv_aload_n hx hb dX6_lay_7 rfl (lv_at hl 1 rfl) ?_
  refine lv_iload_n hx hb dX6_lay_8 rfl (lv_at hl 4 rfl) ?_
  refine tw_calla (tw_rV (As := [.int (-1)]) (rest := []) S hK hI kX6_78 (c_X6_findItem_none l D ad _ _ _ _ _ _ (okN hok).1 hw) wX_0 rfl rfl ⟨Nat.le_of_ble_eq_true rfl, Nat.le_of_ble_eq_true rfl⟩ ⟨Nat.le_of_ble_eq_true rfl, Nat.le_of_ble_eq_true rfl⟩ rfl hl.1 rfl (Nat.le_of_ble_eq_true rfl) dX6_lay_9) hI (fun H locs hI => ?_)
  refine lv_astoreN (lv' := [(5, .null), (4, .ref (ad (100 + k))), (0, .ref (ad 0)), (1, .int (nI k)), (2, .int i), (3, .int (-1))]) hx hb dX6_lay_12 hl (by decide) rfl (fun ls hl => ?_)
  refine lv_aload hx hb dX6_lay_14 (lv_at hl 1 rfl) ?_
  refine lv_ifnull hx hb dX6_lay_16 ?_
  refine lv_aloadN hx hb dX6_lay_19 (lv_at hl 0 rfl) ?_
  refine lv_ifnonnullN hx hb dX6_lay_21 ?_
  refine lv_iload_n hx hb dX6_lay_24 rfl (lv_at hl 5 rfl) ?_
  refine lv_iconst (v := (-1)) hx hb dX6_lay_25 (by decide) ?_
  refine lv_icmp_eq (tgt := 36) hx hb dX6_lay_26 (by decide) (fun c1 => ?_) (fun c1 => ?_)
  · refine lv_aload hx hb dX6_lay_36 (lv_at hl 1 rfl) ?_
    refine tw_inst0 (nm := RX5) S hK hI (tw_mem (by decide +kernel) rfl) (xI_num hn h6 hN) rfl (by decide) dX6_lay_38 ?_
    refine lv_if_eq (tgt := 109) hx hb dX6_lay_41 (by decide) (fun c2 => ?_) (fun c2 => ?_)
    · refine lv_aload_n hx hb dX6_lay_109 rfl (lv_at hl 2 rfl) ?_
      refine lv_bipush (v := (-4)) hx hb dX6_lay_110 (by decide) ?_
      refine tw_calli (tw_rV (As := [.int (-4)]) (rest := []) S hK hI kX6_50 (c_X6_refuse l D ad _ _ _ _ _ _) wX_0 rfl rfl ⟨Nat.le_of_ble_eq_true rfl, Nat.le_of_ble_eq_true rfl⟩ ⟨Nat.le_of_ble_eq_true rfl, Nat.le_of_ble_eq_true rfl⟩ rfl hl.1 rfl (Nat.le_of_ble_eq_true rfl) dX6_lay_112) hI (fun H locs hI => ?_)
      refine lv_topi (fun x3 e3 => ?_)
      subst e3
      rw [lay_nil hok hn, lay2_cast (lok_0 h6 (thF0 hN))]
      try rw [if_pos (show ((-1) : Int32) = (-1) from by decide)]
      try rw [if_pos (show (0 : Int32) = 0 from by decide)]
      exact tw_iret S hr hlocks hI dX6_lay_115
    · exact absurd c2 (by decide)
  · exact absurd c1 (by decide)

set_option maxHeartbeats 2000000 in
set_option maxRecDepth 100000 in
theorem c_X6_lay_numq (l : Launch) (D : tw_G) (ad : Nat → Nat) (b : tw_W) (σ : Sg) (h : Int32) (Q : Nat → Int32) (sz : Nat) (k q : Nat) (i : Int32) (hok : okM σ) (hkd : okKd σ) (hn : k < nS σ) (h6 : k < 60) (hN : isNumK (σ.1 1 k) = true) (hq : q < nS σ) (hq6 : q < 60) : Met l yX6_lay (tw_w yX6_lay cX6_lay 7 (some .int)) (tw_R 3 0 0) (tw_Pc D ad (wX b σ h Q) sz [.ref (ad 0), .int (nI k), .int i, .int (nI q)]) (tw_Q D ad (wX b ((layM σ (nI k) i (nI q)).2) h Q) (tw_A ad (wX b σ h Q) sz) (some (.int (layM σ (nI k) i (nI q)).1))) 0 0 (tw_A ad (wX b σ h Q) sz) := by
  refine tw_met (by decide) rfl (by simp [lg_sl, Value.category]) (fun p e s m below meth c ls S hK hr hlocks hnm hsz hI hl => ?_)
  have hx := S.1
  have hb := S.2.1
  have hl : lv_has ls 7 [(0, .ref (ad 0)), (1, .int (nI k)), (2, .int i), (3, .int (nI q))] := hl
  refine lv_aload_n hx hb dX6_lay_0 rfl (lv_at hl 0 rfl) ?_
  refine lv_iload_n hx hb dX6_lay_1 rfl (lv_at hl 1 rfl) ?_
  refine tw_calla (tw_rV (As := [.int (nI k)]) (rest := []) S hK hI kX6_78 (c_X6_findItem_some l D ad _ _ _ _ _ _ hn h6) wX_0 rfl rfl ⟨Nat.le_of_ble_eq_true rfl, Nat.le_of_ble_eq_true rfl⟩ ⟨Nat.le_of_ble_eq_true rfl, Nat.le_of_ble_eq_true rfl⟩ rfl hl.1 rfl (Nat.le_of_ble_eq_true rfl) dX6_lay_2) hI (fun H locs hI => ?_)
  refine lv_astore (lv' := [(4, .ref (ad (100 + k))), (0, .ref (ad 0)), (1, .int (nI k)), (2, .int i), (3, .int (nI q))]) hx hb dX6_lay_5 hl (by decide) rfl (fun ls hl => ?_)
  refine lv_aload_n hx hb dX6_lay_7 rfl (lv_at hl 1 rfl) ?_
  refine lv_iload_n hx hb dX6_lay_8 rfl (lv_at hl 4 rfl) ?_
  refine tw_calla (tw_rV (As := [.int (nI q)]) (rest := []) S hK hI kX6_78 (c_X6_findItem_some l D ad _ _ _ _ _ _ hq hq6) wX_0 rfl rfl ⟨Nat.le_of_ble_eq_true rfl, Nat.le_of_ble_eq_true rfl⟩ ⟨Nat.le_of_ble_eq_true rfl, Nat.le_of_ble_eq_true rfl⟩ rfl hl.1 rfl (Nat.le_of_ble_eq_true rfl) dX6_lay_9) hI (fun H locs hI => ?_)
  refine lv_astore (lv' := [(5, .ref (ad (100 + q))), (4, .ref (ad (100 + k))), (0, .ref (ad 0)), (1, .int (nI k)), (2, .int i), (3, .int (nI q))]) hx hb dX6_lay_12 hl (by decide) rfl (fun ls hl => ?_)
  refine lv_aload hx hb dX6_lay_14 (lv_at hl 1 rfl) ?_
  refine lv_ifnull hx hb dX6_lay_16 ?_
  refine lv_aload hx hb dX6_lay_19 (lv_at hl 0 rfl) ?_
  refine lv_ifnonnull (tgt := 36) hx hb dX6_lay_21 (by decide) ?_
  refine lv_aload hx hb dX6_lay_36 (lv_at hl 1 rfl) ?_
  refine tw_inst0 (nm := RX5) S hK hI (tw_mem (by decide +kernel) rfl) (xI_num hn h6 hN) rfl (by decide) dX6_lay_38 ?_
  refine lv_if_eq (tgt := 109) hx hb dX6_lay_41 (by decide) (fun c1 => ?_) (fun c1 => ?_)
  · refine lv_aload_n hx hb dX6_lay_109 rfl (lv_at hl 2 rfl) ?_
    refine lv_bipush (v := (-4)) hx hb dX6_lay_110 (by decide) ?_
    refine tw_calli (tw_rV (As := [.int (-4)]) (rest := []) S hK hI kX6_50 (c_X6_refuse l D ad _ _ _ _ _ _) wX_0 rfl rfl ⟨Nat.le_of_ble_eq_true rfl, Nat.le_of_ble_eq_true rfl⟩ ⟨Nat.le_of_ble_eq_true rfl, Nat.le_of_ble_eq_true rfl⟩ rfl hl.1 rfl (Nat.le_of_ble_eq_true rfl) dX6_lay_112) hI (fun H locs hI => ?_)
    refine lv_topi (fun x2 e2 => ?_)
    subst e2
    rw [lay_q hok hn hq, lay2_cast (lok_0 h6 (thF0 hN))]
    try rw [if_pos (show (0 : Int32) = 0 from by decide)]
    exact tw_iret S hr hlocks hI dX6_lay_115
  · exact absurd c1 (by decide)

set_option maxHeartbeats 2000000 in
set_option maxRecDepth 100000 in
theorem c_X6_lay_onem1 (l : Launch) (D : tw_G) (ad : Nat → Nat) (b : tw_W) (σ : Sg) (h : Int32) (Q : Nat → Int32) (sz : Nat) (k : Nat) (i : Int32) (hok : okM σ) (hkd : okKd σ) (hn : k < nS σ) (h6 : k < 60) (hN : isNumK (σ.1 1 k) = false) (hO : isOneK (σ.1 1 k) = true) (hw : noItem σ (-1)) : Met l yX6_lay (tw_w yX6_lay cX6_lay 7 (some .int)) (tw_R 3 0 0) (tw_Pc D ad (wX b σ h Q) sz [.ref (ad 0), .int (nI k), .int i, .int (-1)]) (tw_Q D ad (wX b ((layM σ (nI k) i (-1)).2) h Q) (tw_A ad (wX b σ h Q) sz) (some (.int (layM σ (nI k) i (-1)).1))) 0 0 (tw_A ad (wX b σ h Q) sz) := by
  refine tw_met (by decide) rfl (by simp [lg_sl, Value.category]) (fun p e s m below meth c ls S hK hr hlocks hnm hsz hI hl => ?_)
  have hx := S.1
  have hb := S.2.1
  have hl : lv_has ls 7 [(0, .ref (ad 0)), (1, .int (nI k)), (2, .int i), (3, .int (-1))] := hl
  refine lv_aload_n hx hb dX6_lay_0 rfl (lv_at hl 0 rfl) ?_
  refine lv_iload_n hx hb dX6_lay_1 rfl (lv_at hl 1 rfl) ?_
  refine tw_calla (tw_rV (As := [.int (nI k)]) (rest := []) S hK hI kX6_78 (c_X6_findItem_some l D ad _ _ _ _ _ _ hn h6) wX_0 rfl rfl ⟨Nat.le_of_ble_eq_true rfl, Nat.le_of_ble_eq_true rfl⟩ ⟨Nat.le_of_ble_eq_true rfl, Nat.le_of_ble_eq_true rfl⟩ rfl hl.1 rfl (Nat.le_of_ble_eq_true rfl) dX6_lay_2) hI (fun H locs hI => ?_)
  refine lv_astore (lv' := [(4, .ref (ad (100 + k))), (0, .ref (ad 0)), (1, .int (nI k)), (2, .int i), (3, .int (-1))]) hx hb dX6_lay_5 hl (by decide) rfl (fun ls hl => ?_)
  refine lv_aload_n hx hb dX6_lay_7 rfl (lv_at hl 1 rfl) ?_
  refine lv_iload_n hx hb dX6_lay_8 rfl (lv_at hl 4 rfl) ?_
  refine tw_calla (tw_rV (As := [.int (-1)]) (rest := []) S hK hI kX6_78 (c_X6_findItem_none l D ad _ _ _ _ _ _ (okN hok).1 hw) wX_0 rfl rfl ⟨Nat.le_of_ble_eq_true rfl, Nat.le_of_ble_eq_true rfl⟩ ⟨Nat.le_of_ble_eq_true rfl, Nat.le_of_ble_eq_true rfl⟩ rfl hl.1 rfl (Nat.le_of_ble_eq_true rfl) dX6_lay_9) hI (fun H locs hI => ?_)
  refine lv_astoreN (lv' := [(5, .null), (4, .ref (ad (100 + k))), (0, .ref (ad 0)), (1, .int (nI k)), (2, .int i), (3, .int (-1))]) hx hb dX6_lay_12 hl (by decide) rfl (fun ls hl => ?_)
  refine lv_aload hx hb dX6_lay_14 (lv_at hl 1 rfl) ?_
  refine lv_ifnull hx hb dX6_lay_16 ?_
  refine lv_aloadN hx hb dX6_lay_19 (lv_at hl 0 rfl) ?_
  refine lv_ifnonnullN hx hb dX6_lay_21 ?_
  refine lv_iload_n hx hb dX6_lay_24 rfl (lv_at hl 5 rfl) ?_
  refine lv_iconst (v := (-1)) hx hb dX6_lay_25 (by decide) ?_
  refine lv_icmp_eq (tgt := 36) hx hb dX6_lay_26 (by decide) (fun c1 => ?_) (fun c1 => ?_)
  · refine lv_aload hx hb dX6_lay_36 (lv_at hl 1 rfl) ?_
    refine tw_inst0 (nm := RX5) S hK hI (tw_mem (by decide +kernel) rfl) (xI_one hn h6 hN hO) rfl (by decide) dX6_lay_38 ?_
    refine lv_if_eq (tgt := 109) hx hb dX6_lay_41 (by decide) (fun c2 => ?_) (fun c2 => ?_)
    · refine lv_aload_n hx hb dX6_lay_109 rfl (lv_at hl 2 rfl) ?_
      refine lv_bipush (v := (-4)) hx hb dX6_lay_110 (by decide) ?_
      refine tw_calli (tw_rV (As := [.int (-4)]) (rest := []) S hK hI kX6_50 (c_X6_refuse l D ad _ _ _ _ _ _) wX_0 rfl rfl ⟨Nat.le_of_ble_eq_true rfl, Nat.le_of_ble_eq_true rfl⟩ ⟨Nat.le_of_ble_eq_true rfl, Nat.le_of_ble_eq_true rfl⟩ rfl hl.1 rfl (Nat.le_of_ble_eq_true rfl) dX6_lay_112) hI (fun H locs hI => ?_)
      refine lv_topi (fun x3 e3 => ?_)
      subst e3
      rw [lay_nil hok hn, lay2_cast (lok_0 h6 (thF1 hO))]
      try rw [if_pos (show ((-1) : Int32) = (-1) from by decide)]
      try rw [if_pos (show (0 : Int32) = 0 from by decide)]
      exact tw_iret S hr hlocks hI dX6_lay_115
    · exact absurd c2 (by decide)
  · exact absurd c1 (by decide)

set_option maxHeartbeats 2000000 in
set_option maxRecDepth 100000 in
theorem c_X6_lay_oneq (l : Launch) (D : tw_G) (ad : Nat → Nat) (b : tw_W) (σ : Sg) (h : Int32) (Q : Nat → Int32) (sz : Nat) (k q : Nat) (i : Int32) (hok : okM σ) (hkd : okKd σ) (hn : k < nS σ) (h6 : k < 60) (hN : isNumK (σ.1 1 k) = false) (hO : isOneK (σ.1 1 k) = true) (hq : q < nS σ) (hq6 : q < 60) : Met l yX6_lay (tw_w yX6_lay cX6_lay 7 (some .int)) (tw_R 3 0 0) (tw_Pc D ad (wX b σ h Q) sz [.ref (ad 0), .int (nI k), .int i, .int (nI q)]) (tw_Q D ad (wX b ((layM σ (nI k) i (nI q)).2) h Q) (tw_A ad (wX b σ h Q) sz) (some (.int (layM σ (nI k) i (nI q)).1))) 0 0 (tw_A ad (wX b σ h Q) sz) := by
  refine tw_met (by decide) rfl (by simp [lg_sl, Value.category]) (fun p e s m below meth c ls S hK hr hlocks hnm hsz hI hl => ?_)
  have hx := S.1
  have hb := S.2.1
  have hl : lv_has ls 7 [(0, .ref (ad 0)), (1, .int (nI k)), (2, .int i), (3, .int (nI q))] := hl
  refine lv_aload_n hx hb dX6_lay_0 rfl (lv_at hl 0 rfl) ?_
  refine lv_iload_n hx hb dX6_lay_1 rfl (lv_at hl 1 rfl) ?_
  refine tw_calla (tw_rV (As := [.int (nI k)]) (rest := []) S hK hI kX6_78 (c_X6_findItem_some l D ad _ _ _ _ _ _ hn h6) wX_0 rfl rfl ⟨Nat.le_of_ble_eq_true rfl, Nat.le_of_ble_eq_true rfl⟩ ⟨Nat.le_of_ble_eq_true rfl, Nat.le_of_ble_eq_true rfl⟩ rfl hl.1 rfl (Nat.le_of_ble_eq_true rfl) dX6_lay_2) hI (fun H locs hI => ?_)
  refine lv_astore (lv' := [(4, .ref (ad (100 + k))), (0, .ref (ad 0)), (1, .int (nI k)), (2, .int i), (3, .int (nI q))]) hx hb dX6_lay_5 hl (by decide) rfl (fun ls hl => ?_)
  refine lv_aload_n hx hb dX6_lay_7 rfl (lv_at hl 1 rfl) ?_
  refine lv_iload_n hx hb dX6_lay_8 rfl (lv_at hl 4 rfl) ?_
  refine tw_calla (tw_rV (As := [.int (nI q)]) (rest := []) S hK hI kX6_78 (c_X6_findItem_some l D ad _ _ _ _ _ _ hq hq6) wX_0 rfl rfl ⟨Nat.le_of_ble_eq_true rfl, Nat.le_of_ble_eq_true rfl⟩ ⟨Nat.le_of_ble_eq_true rfl, Nat.le_of_ble_eq_true rfl⟩ rfl hl.1 rfl (Nat.le_of_ble_eq_true rfl) dX6_lay_9) hI (fun H locs hI => ?_)
  refine lv_astore (lv' := [(5, .ref (ad (100 + q))), (4, .ref (ad (100 + k))), (0, .ref (ad 0)), (1, .int (nI k)), (2, .int i), (3, .int (nI q))]) hx hb dX6_lay_12 hl (by decide) rfl (fun ls hl => ?_)
  refine lv_aload hx hb dX6_lay_14 (lv_at hl 1 rfl) ?_
  refine lv_ifnull hx hb dX6_lay_16 ?_
  refine lv_aload hx hb dX6_lay_19 (lv_at hl 0 rfl) ?_
  refine lv_ifnonnull (tgt := 36) hx hb dX6_lay_21 (by decide) ?_
  refine lv_aload hx hb dX6_lay_36 (lv_at hl 1 rfl) ?_
  refine tw_inst0 (nm := RX5) S hK hI (tw_mem (by decide +kernel) rfl) (xI_one hn h6 hN hO) rfl (by decide) dX6_lay_38 ?_
  refine lv_if_eq (tgt := 109) hx hb dX6_lay_41 (by decide) (fun c1 => ?_) (fun c1 => ?_)
  · refine lv_aload_n hx hb dX6_lay_109 rfl (lv_at hl 2 rfl) ?_
    refine lv_bipush (v := (-4)) hx hb dX6_lay_110 (by decide) ?_
    refine tw_calli (tw_rV (As := [.int (-4)]) (rest := []) S hK hI kX6_50 (c_X6_refuse l D ad _ _ _ _ _ _) wX_0 rfl rfl ⟨Nat.le_of_ble_eq_true rfl, Nat.le_of_ble_eq_true rfl⟩ ⟨Nat.le_of_ble_eq_true rfl, Nat.le_of_ble_eq_true rfl⟩ rfl hl.1 rfl (Nat.le_of_ble_eq_true rfl) dX6_lay_112) hI (fun H locs hI => ?_)
    refine lv_topi (fun x2 e2 => ?_)
    subst e2
    rw [lay_q hok hn hq, lay2_cast (lok_0 h6 (thF1 hO))]
    try rw [if_pos (show (0 : Int32) = 0 from by decide)]
    exact tw_iret S hr hlocks hI dX6_lay_115
  · exact absurd c1 (by decide)

set_option maxHeartbeats 2000000 in
set_option maxRecDepth 100000 in
theorem c_X6_lay_thm1out (l : Launch) (D : tw_G) (ad : Nat → Nat) (b : tw_W) (σ : Sg) (h : Int32) (Q : Nat → Int32) (sz : Nat) (k : Nat) (i : Int32) (hok : okM σ) (hkd : okKd σ) (hn : k < nS σ) (h6 : k < 60) (hN : isNumK (σ.1 1 k) = false) (hO : isOneK (σ.1 1 k) = false) (hw : noItem σ (-1)) (hi : i < 0 ∨ nI (szS σ k) ≤ i) : Met l yX6_lay (tw_w yX6_lay cX6_lay 7 (some .int)) (tw_R 3 0 0) (tw_Pc D ad (wX b σ h Q) sz [.ref (ad 0), .int (nI k), .int i, .int (-1)]) (tw_Q D ad (wX b ((layM σ (nI k) i (-1)).2) h Q) (tw_A ad (wX b σ h Q) sz) (some (.int (layM σ (nI k) i (-1)).1))) 0 0 (tw_A ad (wX b σ h Q) sz) := by
  refine tw_met (by decide) rfl (by simp [lg_sl, Value.category]) (fun p e s m below meth c ls S hK hr hlocks hnm hsz hI hl => ?_)
  have hx := S.1
  have hb := S.2.1
  have hl : lv_has ls 7 [(0, .ref (ad 0)), (1, .int (nI k)), (2, .int i), (3, .int (-1))] := hl
  refine lv_aload_n hx hb dX6_lay_0 rfl (lv_at hl 0 rfl) ?_
  refine lv_iload_n hx hb dX6_lay_1 rfl (lv_at hl 1 rfl) ?_
  refine tw_calla (tw_rV (As := [.int (nI k)]) (rest := []) S hK hI kX6_78 (c_X6_findItem_some l D ad _ _ _ _ _ _ hn h6) wX_0 rfl rfl ⟨Nat.le_of_ble_eq_true rfl, Nat.le_of_ble_eq_true rfl⟩ ⟨Nat.le_of_ble_eq_true rfl, Nat.le_of_ble_eq_true rfl⟩ rfl hl.1 rfl (Nat.le_of_ble_eq_true rfl) dX6_lay_2) hI (fun H locs hI => ?_)
  refine lv_astore (lv' := [(4, .ref (ad (100 + k))), (0, .ref (ad 0)), (1, .int (nI k)), (2, .int i), (3, .int (-1))]) hx hb dX6_lay_5 hl (by decide) rfl (fun ls hl => ?_)
  refine lv_aload_n hx hb dX6_lay_7 rfl (lv_at hl 1 rfl) ?_
  refine lv_iload_n hx hb dX6_lay_8 rfl (lv_at hl 4 rfl) ?_
  refine tw_calla (tw_rV (As := [.int (-1)]) (rest := []) S hK hI kX6_78 (c_X6_findItem_none l D ad _ _ _ _ _ _ (okN hok).1 hw) wX_0 rfl rfl ⟨Nat.le_of_ble_eq_true rfl, Nat.le_of_ble_eq_true rfl⟩ ⟨Nat.le_of_ble_eq_true rfl, Nat.le_of_ble_eq_true rfl⟩ rfl hl.1 rfl (Nat.le_of_ble_eq_true rfl) dX6_lay_9) hI (fun H locs hI => ?_)
  refine lv_astoreN (lv' := [(5, .null), (4, .ref (ad (100 + k))), (0, .ref (ad 0)), (1, .int (nI k)), (2, .int i), (3, .int (-1))]) hx hb dX6_lay_12 hl (by decide) rfl (fun ls hl => ?_)
  refine lv_aload hx hb dX6_lay_14 (lv_at hl 1 rfl) ?_
  refine lv_ifnull hx hb dX6_lay_16 ?_
  refine lv_aloadN hx hb dX6_lay_19 (lv_at hl 0 rfl) ?_
  refine lv_ifnonnullN hx hb dX6_lay_21 ?_
  refine lv_iload_n hx hb dX6_lay_24 rfl (lv_at hl 5 rfl) ?_
  refine lv_iconst (v := (-1)) hx hb dX6_lay_25 (by decide) ?_
  refine lv_icmp_eq (tgt := 36) hx hb dX6_lay_26 (by decide) (fun c1 => ?_) (fun c1 => ?_)
  · refine lv_aload hx hb dX6_lay_36 (lv_at hl 1 rfl) ?_
    refine tw_inst1 (nm := RX5) S hK hI (tw_mem (by decide +kernel) rfl) (xI_th hn h6 hN hO) rfl (tw_memN (by decide +kernel) rfl) dX6_lay_38 ?_
    refine lv_if_eq (tgt := 109) hx hb dX6_lay_41 (by decide) (fun c2 => ?_) (fun c2 => ?_)
    · exact absurd c2 (by decide)
    · refine lv_aload hx hb dX6_lay_44 (lv_at hl 1 rfl) ?_
      refine tw_cast (nm := RX5) S hK hI (tw_mem (by decide +kernel) rfl) (xI_th hn h6 hN hO) rfl (tw_memN (by decide +kernel) rfl) dX6_lay_46 ?_
      refine lv_astore (lv' := [(6, .ref (ad (100 + k))), (5, .null), (4, .ref (ad (100 + k))), (0, .ref (ad 0)), (1, .int (nI k)), (2, .int i), (3, .int (-1))]) hx hb dX6_lay_49 hl (by decide) rfl (fun ls hl => ?_)
      refine lv_aload hx hb dX6_lay_51 (lv_at hl 0 rfl) ?_
      refine lv_aloadN hx hb dX6_lay_53 (lv_at hl 1 rfl) ?_
      refine tw_calli (tw_rV (As := [.null]) (rest := []) S hK hI kX6_84 (c_X5_takes_nil l D ad _ _ _ _ _ _ hn h6 hN hO) (xI_th hn h6 hN hO) rfl rfl ⟨Nat.le_of_ble_eq_true rfl, Nat.le_of_ble_eq_true rfl⟩ ⟨Nat.le_of_ble_eq_true rfl, Nat.le_of_ble_eq_true rfl⟩ rfl hl.1 rfl (Nat.le_of_ble_eq_true rfl) dX6_lay_55) hI (fun H locs hI => ?_)
      refine lv_if_eq (tgt := 109) hx hb dX6_lay_58 (by decide) (fun c3 => ?_) (fun c3 => ?_)
      · exact absurd c3 (by decide)
      · refine lv_aload hx hb dX6_lay_61 (lv_at hl 0 rfl) ?_
        refine lv_iload_n hx hb dX6_lay_63 rfl (lv_at hl 5 rfl) ?_
        refine tw_calli (tw_rV (As := [.int i]) (rest := []) S hK hI kX6_88 (c_X5_hasPlace_out l D ad _ _ _ _ _ _ _ hn h6 hN hO hi) (xI_th hn h6 hN hO) rfl rfl ⟨Nat.le_of_ble_eq_true rfl, Nat.le_of_ble_eq_true rfl⟩ ⟨Nat.le_of_ble_eq_true rfl, Nat.le_of_ble_eq_true rfl⟩ rfl hl.1 rfl (Nat.le_of_ble_eq_true rfl) dX6_lay_64) hI (fun H locs hI => ?_)
        refine lv_if_ne (tgt := 77) hx hb dX6_lay_67 (by decide) (fun c4 => ?_) (fun c4 => ?_)
        · exact absurd c4 (by decide)
        · refine lv_aload_n hx hb dX6_lay_70 rfl (lv_at hl 3 rfl) ?_
          refine lv_bipush (v := (-5)) hx hb dX6_lay_71 (by decide) ?_
          refine tw_calli (tw_rV (As := [.int (-5)]) (rest := []) S hK hI kX6_50 (c_X6_refuse l D ad _ _ _ _ _ _) wX_0 rfl rfl ⟨Nat.le_of_ble_eq_true rfl, Nat.le_of_ble_eq_true rfl⟩ ⟨Nat.le_of_ble_eq_true rfl, Nat.le_of_ble_eq_true rfl⟩ rfl hl.1 rfl (Nat.le_of_ble_eq_true rfl) dX6_lay_73) hI (fun H locs hI => ?_)
          refine lv_topi (fun x5 e5 => ?_)
          subst e5
          rw [lay_nil hok hn, lay2_index hok h6 (lok_nil h6 (thF2 hN hO)) hi]
          try rw [if_pos (show ((-1) : Int32) = (-1) from by decide)]
          try rw [if_neg (show ¬ (1 : Int32) = 0 from by decide)]
          try rw [if_neg (show ¬ (1 : Int32) = 0 from by decide)]
          try rw [if_pos (show (0 : Int32) = 0 from by decide)]
          exact tw_iret S hr hlocks hI dX6_lay_76
  · exact absurd c1 (by decide)

set_option maxHeartbeats 2000000 in
set_option maxRecDepth 100000 in
theorem c_X6_lay_thm1in (l : Launch) (D : tw_G) (ad : Nat → Nat) (b : tw_W) (σ : Sg) (h : Int32) (Q : Nat → Int32) (sz : Nat) (k i : Nat) (hok : okM σ) (hkd : okKd σ) (hn : k < nS σ) (h6 : k < 60) (hN : isNumK (σ.1 1 k) = false) (hO : isOneK (σ.1 1 k) = false) (hw : noItem σ (-1)) (hi : i < szS σ k) (hz : szS σ k ≤ 3) : Met l yX6_lay (tw_w yX6_lay cX6_lay 7 (some .int)) (tw_R 3 0 0) (tw_Pc D ad (wX b σ h Q) sz [.ref (ad 0), .int (nI k), .int (nI i), .int (-1)]) (tw_Q D ad (wX b ((layM σ (nI k) (nI i) (-1)).2) h Q) (tw_A ad (wX b σ h Q) sz) (some (.int (layM σ (nI k) (nI i) (-1)).1))) 0 0 (tw_A ad (wX b σ h Q) sz) := by
  refine tw_met (by decide) rfl (by simp [lg_sl, Value.category]) (fun p e s m below meth c ls S hK hr hlocks hnm hsz hI hl => ?_)
  have hx := S.1
  have hb := S.2.1
  have hl : lv_has ls 7 [(0, .ref (ad 0)), (1, .int (nI k)), (2, .int (nI i)), (3, .int (-1))] := hl
  refine lv_aload_n hx hb dX6_lay_0 rfl (lv_at hl 0 rfl) ?_
  refine lv_iload_n hx hb dX6_lay_1 rfl (lv_at hl 1 rfl) ?_
  refine tw_calla (tw_rV (As := [.int (nI k)]) (rest := []) S hK hI kX6_78 (c_X6_findItem_some l D ad _ _ _ _ _ _ hn h6) wX_0 rfl rfl ⟨Nat.le_of_ble_eq_true rfl, Nat.le_of_ble_eq_true rfl⟩ ⟨Nat.le_of_ble_eq_true rfl, Nat.le_of_ble_eq_true rfl⟩ rfl hl.1 rfl (Nat.le_of_ble_eq_true rfl) dX6_lay_2) hI (fun H locs hI => ?_)
  refine lv_astore (lv' := [(4, .ref (ad (100 + k))), (0, .ref (ad 0)), (1, .int (nI k)), (2, .int (nI i)), (3, .int (-1))]) hx hb dX6_lay_5 hl (by decide) rfl (fun ls hl => ?_)
  refine lv_aload_n hx hb dX6_lay_7 rfl (lv_at hl 1 rfl) ?_
  refine lv_iload_n hx hb dX6_lay_8 rfl (lv_at hl 4 rfl) ?_
  refine tw_calla (tw_rV (As := [.int (-1)]) (rest := []) S hK hI kX6_78 (c_X6_findItem_none l D ad _ _ _ _ _ _ (okN hok).1 hw) wX_0 rfl rfl ⟨Nat.le_of_ble_eq_true rfl, Nat.le_of_ble_eq_true rfl⟩ ⟨Nat.le_of_ble_eq_true rfl, Nat.le_of_ble_eq_true rfl⟩ rfl hl.1 rfl (Nat.le_of_ble_eq_true rfl) dX6_lay_9) hI (fun H locs hI => ?_)
  refine lv_astoreN (lv' := [(5, .null), (4, .ref (ad (100 + k))), (0, .ref (ad 0)), (1, .int (nI k)), (2, .int (nI i)), (3, .int (-1))]) hx hb dX6_lay_12 hl (by decide) rfl (fun ls hl => ?_)
  refine lv_aload hx hb dX6_lay_14 (lv_at hl 1 rfl) ?_
  refine lv_ifnull hx hb dX6_lay_16 ?_
  refine lv_aloadN hx hb dX6_lay_19 (lv_at hl 0 rfl) ?_
  refine lv_ifnonnullN hx hb dX6_lay_21 ?_
  refine lv_iload_n hx hb dX6_lay_24 rfl (lv_at hl 5 rfl) ?_
  refine lv_iconst (v := (-1)) hx hb dX6_lay_25 (by decide) ?_
  refine lv_icmp_eq (tgt := 36) hx hb dX6_lay_26 (by decide) (fun c1 => ?_) (fun c1 => ?_)
  · refine lv_aload hx hb dX6_lay_36 (lv_at hl 1 rfl) ?_
    refine tw_inst1 (nm := RX5) S hK hI (tw_mem (by decide +kernel) rfl) (xI_th hn h6 hN hO) rfl (tw_memN (by decide +kernel) rfl) dX6_lay_38 ?_
    refine lv_if_eq (tgt := 109) hx hb dX6_lay_41 (by decide) (fun c2 => ?_) (fun c2 => ?_)
    · exact absurd c2 (by decide)
    · refine lv_aload hx hb dX6_lay_44 (lv_at hl 1 rfl) ?_
      refine tw_cast (nm := RX5) S hK hI (tw_mem (by decide +kernel) rfl) (xI_th hn h6 hN hO) rfl (tw_memN (by decide +kernel) rfl) dX6_lay_46 ?_
      refine lv_astore (lv' := [(6, .ref (ad (100 + k))), (5, .null), (4, .ref (ad (100 + k))), (0, .ref (ad 0)), (1, .int (nI k)), (2, .int (nI i)), (3, .int (-1))]) hx hb dX6_lay_49 hl (by decide) rfl (fun ls hl => ?_)
      refine lv_aload hx hb dX6_lay_51 (lv_at hl 0 rfl) ?_
      refine lv_aloadN hx hb dX6_lay_53 (lv_at hl 1 rfl) ?_
      refine tw_calli (tw_rV (As := [.null]) (rest := []) S hK hI kX6_84 (c_X5_takes_nil l D ad _ _ _ _ _ _ hn h6 hN hO) (xI_th hn h6 hN hO) rfl rfl ⟨Nat.le_of_ble_eq_true rfl, Nat.le_of_ble_eq_true rfl⟩ ⟨Nat.le_of_ble_eq_true rfl, Nat.le_of_ble_eq_true rfl⟩ rfl hl.1 rfl (Nat.le_of_ble_eq_true rfl) dX6_lay_55) hI (fun H locs hI => ?_)
      refine lv_if_eq (tgt := 109) hx hb dX6_lay_58 (by decide) (fun c3 => ?_) (fun c3 => ?_)
      · exact absurd c3 (by decide)
      · refine lv_aload hx hb dX6_lay_61 (lv_at hl 0 rfl) ?_
        refine lv_iload_n hx hb dX6_lay_63 rfl (lv_at hl 5 rfl) ?_
        refine tw_calli (tw_rV (As := [.int (nI i)]) (rest := []) S hK hI kX6_88 (c_X5_hasPlace_in l D ad _ _ _ _ _ _ _ hn h6 hN hO hi hz) (xI_th hn h6 hN hO) rfl rfl ⟨Nat.le_of_ble_eq_true rfl, Nat.le_of_ble_eq_true rfl⟩ ⟨Nat.le_of_ble_eq_true rfl, Nat.le_of_ble_eq_true rfl⟩ rfl hl.1 rfl (Nat.le_of_ble_eq_true rfl) dX6_lay_64) hI (fun H locs hI => ?_)
        refine lv_if_ne (tgt := 77) hx hb dX6_lay_67 (by decide) (fun c4 => ?_) (fun c4 => ?_)
        · refine lv_aload hx hb dX6_lay_77 (lv_at hl 0 rfl) ?_
          refine lv_aloadN hx hb dX6_lay_79 (lv_at hl 1 rfl) ?_
          refine tw_calli (tw_rV (As := [.null]) (rest := []) S hK hI kX6_91 (c_X5_canHold_nil l D ad _ _ _ _ _ _ hn h6 hN hO) (xI_th hn h6 hN hO) rfl rfl ⟨Nat.le_of_ble_eq_true rfl, Nat.le_of_ble_eq_true rfl⟩ ⟨Nat.le_of_ble_eq_true rfl, Nat.le_of_ble_eq_true rfl⟩ rfl hl.1 rfl (Nat.le_of_ble_eq_true rfl) dX6_lay_81) hI (fun H locs hI => ?_)
          refine lv_if_ne (tgt := 94) hx hb dX6_lay_84 (by decide) (fun c5 => ?_) (fun c5 => ?_)
          · refine lv_aload hx hb dX6_lay_94 (lv_at hl 0 rfl) ?_
            refine f6_94_5 S hK hI (xI_th hn h6 hN hO) rfl (v' := .ref (ad (200 + k))) rfl dX6_lay_96 ?_
            refine lv_iload_n hx hb dX6_lay_99 rfl (lv_at hl 5 rfl) ?_
            refine lv_aloadN hx hb dX6_lay_100 (lv_at hl 1 rfl) ?_
            refine xs_th (k := k) (i := i) (q := -1) S hK hI hn h6 hN hO hi (by omega) (by omega) rfl (fun y e => by cases e) dX6_lay_102 (fun H locs hI => ?_)
            refine lv_aload_n hx hb dX6_lay_103 rfl (lv_at hl 3 rfl) ?_
            refine lv_iconst (v := 1) hx hb dX6_lay_104 (by decide) ?_
            refine tw_calli (tw_rV (As := [.int 1]) (rest := []) S hK hI kX6_62 (c_X6_accept l D ad _ _ _ _ _ _) wX_0 rfl rfl ⟨Nat.le_of_ble_eq_true rfl, Nat.le_of_ble_eq_true rfl⟩ ⟨Nat.le_of_ble_eq_true rfl, Nat.le_of_ble_eq_true rfl⟩ rfl hl.1 rfl (Nat.le_of_ble_eq_true rfl) dX6_lay_105) hI (fun H locs hI => ?_)
            refine lv_topi (fun x6 e6 => ?_)
            subst e6
            rw [lay_nil hok hn, lay2_nil hok h6 (lok_nil h6 (thF2 hN hO)) hi]
            try rw [if_pos (show ((-1) : Int32) = (-1) from by decide)]
            try rw [if_neg (show ¬ (1 : Int32) = 0 from by decide)]
            try rw [if_neg (show ¬ (1 : Int32) = 0 from by decide)]
            try rw [if_neg (show ¬ (1 : Int32) = 0 from by decide)]
            try rw [if_neg (show ¬ (1 : Int32) = 0 from by decide)]
            exact tw_iret S hr hlocks hI dX6_lay_108
          · exact absurd c5 (by decide)
        · exact absurd c4 (by decide)
  · exact absurd c1 (by decide)

set_option maxHeartbeats 2000000 in
set_option maxRecDepth 100000 in
theorem c_X6_lay_thqcast (l : Launch) (D : tw_G) (ad : Nat → Nat) (b : tw_W) (σ : Sg) (h : Int32) (Q : Nat → Int32) (sz : Nat) (k q : Nat) (i : Int32) (hok : okM σ) (hkd : okKd σ) (hn : k < nS σ) (h6 : k < 60) (hN : isNumK (σ.1 1 k) = false) (hO : isOneK (σ.1 1 k) = false) (hq : q < nS σ) (hq6 : q < 60) (ht : takesX (σ.1 1 k) (σ.1 1 q) = 0) : Met l yX6_lay (tw_w yX6_lay cX6_lay 7 (some .int)) (tw_R 3 0 0) (tw_Pc D ad (wX b σ h Q) sz [.ref (ad 0), .int (nI k), .int i, .int (nI q)]) (tw_Q D ad (wX b ((layM σ (nI k) i (nI q)).2) h Q) (tw_A ad (wX b σ h Q) sz) (some (.int (layM σ (nI k) i (nI q)).1))) 0 0 (tw_A ad (wX b σ h Q) sz) := by
  refine tw_met (by decide) rfl (by simp [lg_sl, Value.category]) (fun p e s m below meth c ls S hK hr hlocks hnm hsz hI hl => ?_)
  have hx := S.1
  have hb := S.2.1
  have hl : lv_has ls 7 [(0, .ref (ad 0)), (1, .int (nI k)), (2, .int i), (3, .int (nI q))] := hl
  refine lv_aload_n hx hb dX6_lay_0 rfl (lv_at hl 0 rfl) ?_
  refine lv_iload_n hx hb dX6_lay_1 rfl (lv_at hl 1 rfl) ?_
  refine tw_calla (tw_rV (As := [.int (nI k)]) (rest := []) S hK hI kX6_78 (c_X6_findItem_some l D ad _ _ _ _ _ _ hn h6) wX_0 rfl rfl ⟨Nat.le_of_ble_eq_true rfl, Nat.le_of_ble_eq_true rfl⟩ ⟨Nat.le_of_ble_eq_true rfl, Nat.le_of_ble_eq_true rfl⟩ rfl hl.1 rfl (Nat.le_of_ble_eq_true rfl) dX6_lay_2) hI (fun H locs hI => ?_)
  refine lv_astore (lv' := [(4, .ref (ad (100 + k))), (0, .ref (ad 0)), (1, .int (nI k)), (2, .int i), (3, .int (nI q))]) hx hb dX6_lay_5 hl (by decide) rfl (fun ls hl => ?_)
  refine lv_aload_n hx hb dX6_lay_7 rfl (lv_at hl 1 rfl) ?_
  refine lv_iload_n hx hb dX6_lay_8 rfl (lv_at hl 4 rfl) ?_
  refine tw_calla (tw_rV (As := [.int (nI q)]) (rest := []) S hK hI kX6_78 (c_X6_findItem_some l D ad _ _ _ _ _ _ hq hq6) wX_0 rfl rfl ⟨Nat.le_of_ble_eq_true rfl, Nat.le_of_ble_eq_true rfl⟩ ⟨Nat.le_of_ble_eq_true rfl, Nat.le_of_ble_eq_true rfl⟩ rfl hl.1 rfl (Nat.le_of_ble_eq_true rfl) dX6_lay_9) hI (fun H locs hI => ?_)
  refine lv_astore (lv' := [(5, .ref (ad (100 + q))), (4, .ref (ad (100 + k))), (0, .ref (ad 0)), (1, .int (nI k)), (2, .int i), (3, .int (nI q))]) hx hb dX6_lay_12 hl (by decide) rfl (fun ls hl => ?_)
  refine lv_aload hx hb dX6_lay_14 (lv_at hl 1 rfl) ?_
  refine lv_ifnull hx hb dX6_lay_16 ?_
  refine lv_aload hx hb dX6_lay_19 (lv_at hl 0 rfl) ?_
  refine lv_ifnonnull (tgt := 36) hx hb dX6_lay_21 (by decide) ?_
  refine lv_aload hx hb dX6_lay_36 (lv_at hl 1 rfl) ?_
  refine tw_inst1 (nm := RX5) S hK hI (tw_mem (by decide +kernel) rfl) (xI_th hn h6 hN hO) rfl (tw_memN (by decide +kernel) rfl) dX6_lay_38 ?_
  refine lv_if_eq (tgt := 109) hx hb dX6_lay_41 (by decide) (fun c1 => ?_) (fun c1 => ?_)
  · exact absurd c1 (by decide)
  · refine lv_aload hx hb dX6_lay_44 (lv_at hl 1 rfl) ?_
    refine tw_cast (nm := RX5) S hK hI (tw_mem (by decide +kernel) rfl) (xI_th hn h6 hN hO) rfl (tw_memN (by decide +kernel) rfl) dX6_lay_46 ?_
    refine lv_astore (lv' := [(6, .ref (ad (100 + k))), (5, .ref (ad (100 + q))), (4, .ref (ad (100 + k))), (0, .ref (ad 0)), (1, .int (nI k)), (2, .int i), (3, .int (nI q))]) hx hb dX6_lay_49 hl (by decide) rfl (fun ls hl => ?_)
    refine lv_aload hx hb dX6_lay_51 (lv_at hl 0 rfl) ?_
    refine lv_aload hx hb dX6_lay_53 (lv_at hl 1 rfl) ?_
    refine tw_calli (tw_rV (As := [.ref (ad (100 + q))]) (rest := []) S hK hI kX6_84 (c_X5_takes_q l D ad _ _ _ _ _ _ _ hn h6 hN hO hq hq6) (xI_th hn h6 hN hO) rfl rfl ⟨Nat.le_of_ble_eq_true rfl, Nat.le_of_ble_eq_true rfl⟩ ⟨Nat.le_of_ble_eq_true rfl, Nat.le_of_ble_eq_true rfl⟩ rfl hl.1 rfl (Nat.le_of_ble_eq_true rfl) dX6_lay_55) hI (fun H locs hI => ?_)
    refine lv_topi (fun x2 e2 => ?_)
    refine lv_if_eq (tgt := 109) hx hb dX6_lay_58 (by decide) (fun c3 => ?_) (fun c3 => ?_)
    · refine lv_aload_n hx hb dX6_lay_109 rfl (lv_at hl 3 rfl) ?_
      refine lv_bipush (v := (-4)) hx hb dX6_lay_110 (by decide) ?_
      refine tw_calli (tw_rV (As := [.int (-4)]) (rest := []) S hK hI kX6_50 (c_X6_refuse l D ad _ _ _ _ _ _) wX_0 rfl rfl ⟨Nat.le_of_ble_eq_true rfl, Nat.le_of_ble_eq_true rfl⟩ ⟨Nat.le_of_ble_eq_true rfl, Nat.le_of_ble_eq_true rfl⟩ rfl hl.1 rfl (Nat.le_of_ble_eq_true rfl) dX6_lay_112) hI (fun H locs hI => ?_)
      refine lv_topi (fun x4 e4 => ?_)
      subst e4
      subst e2
      rw [lay_q hok hn hq, lay2_cast (lok_q0 hkd hn hq h6 hq6 (thF2 hN hO) ht)]
      try rw [if_neg (show ¬ (1 : Int32) = 0 from by decide)]
      try rw [if_pos ht]
      exact tw_iret S hr hlocks hI dX6_lay_115
    · exact (by subst e2; exact absurd ht c3)

set_option maxHeartbeats 2000000 in
set_option maxRecDepth 100000 in
theorem c_X6_lay_thqout (l : Launch) (D : tw_G) (ad : Nat → Nat) (b : tw_W) (σ : Sg) (h : Int32) (Q : Nat → Int32) (sz : Nat) (k q : Nat) (i : Int32) (hok : okM σ) (hkd : okKd σ) (hn : k < nS σ) (h6 : k < 60) (hN : isNumK (σ.1 1 k) = false) (hO : isOneK (σ.1 1 k) = false) (hq : q < nS σ) (hq6 : q < 60) (ht : ¬ takesX (σ.1 1 k) (σ.1 1 q) = 0) (hi : i < 0 ∨ nI (szS σ k) ≤ i) : Met l yX6_lay (tw_w yX6_lay cX6_lay 7 (some .int)) (tw_R 3 0 0) (tw_Pc D ad (wX b σ h Q) sz [.ref (ad 0), .int (nI k), .int i, .int (nI q)]) (tw_Q D ad (wX b ((layM σ (nI k) i (nI q)).2) h Q) (tw_A ad (wX b σ h Q) sz) (some (.int (layM σ (nI k) i (nI q)).1))) 0 0 (tw_A ad (wX b σ h Q) sz) := by
  refine tw_met (by decide) rfl (by simp [lg_sl, Value.category]) (fun p e s m below meth c ls S hK hr hlocks hnm hsz hI hl => ?_)
  have hx := S.1
  have hb := S.2.1
  have hl : lv_has ls 7 [(0, .ref (ad 0)), (1, .int (nI k)), (2, .int i), (3, .int (nI q))] := hl
  refine lv_aload_n hx hb dX6_lay_0 rfl (lv_at hl 0 rfl) ?_
  refine lv_iload_n hx hb dX6_lay_1 rfl (lv_at hl 1 rfl) ?_
  refine tw_calla (tw_rV (As := [.int (nI k)]) (rest := []) S hK hI kX6_78 (c_X6_findItem_some l D ad _ _ _ _ _ _ hn h6) wX_0 rfl rfl ⟨Nat.le_of_ble_eq_true rfl, Nat.le_of_ble_eq_true rfl⟩ ⟨Nat.le_of_ble_eq_true rfl, Nat.le_of_ble_eq_true rfl⟩ rfl hl.1 rfl (Nat.le_of_ble_eq_true rfl) dX6_lay_2) hI (fun H locs hI => ?_)
  refine lv_astore (lv' := [(4, .ref (ad (100 + k))), (0, .ref (ad 0)), (1, .int (nI k)), (2, .int i), (3, .int (nI q))]) hx hb dX6_lay_5 hl (by decide) rfl (fun ls hl => ?_)
  refine lv_aload_n hx hb dX6_lay_7 rfl (lv_at hl 1 rfl) ?_
  refine lv_iload_n hx hb dX6_lay_8 rfl (lv_at hl 4 rfl) ?_
  refine tw_calla (tw_rV (As := [.int (nI q)]) (rest := []) S hK hI kX6_78 (c_X6_findItem_some l D ad _ _ _ _ _ _ hq hq6) wX_0 rfl rfl ⟨Nat.le_of_ble_eq_true rfl, Nat.le_of_ble_eq_true rfl⟩ ⟨Nat.le_of_ble_eq_true rfl, Nat.le_of_ble_eq_true rfl⟩ rfl hl.1 rfl (Nat.le_of_ble_eq_true rfl) dX6_lay_9) hI (fun H locs hI => ?_)
  refine lv_astore (lv' := [(5, .ref (ad (100 + q))), (4, .ref (ad (100 + k))), (0, .ref (ad 0)), (1, .int (nI k)), (2, .int i), (3, .int (nI q))]) hx hb dX6_lay_12 hl (by decide) rfl (fun ls hl => ?_)
  refine lv_aload hx hb dX6_lay_14 (lv_at hl 1 rfl) ?_
  refine lv_ifnull hx hb dX6_lay_16 ?_
  refine lv_aload hx hb dX6_lay_19 (lv_at hl 0 rfl) ?_
  refine lv_ifnonnull (tgt := 36) hx hb dX6_lay_21 (by decide) ?_
  refine lv_aload hx hb dX6_lay_36 (lv_at hl 1 rfl) ?_
  refine tw_inst1 (nm := RX5) S hK hI (tw_mem (by decide +kernel) rfl) (xI_th hn h6 hN hO) rfl (tw_memN (by decide +kernel) rfl) dX6_lay_38 ?_
  refine lv_if_eq (tgt := 109) hx hb dX6_lay_41 (by decide) (fun c1 => ?_) (fun c1 => ?_)
  · exact absurd c1 (by decide)
  · refine lv_aload hx hb dX6_lay_44 (lv_at hl 1 rfl) ?_
    refine tw_cast (nm := RX5) S hK hI (tw_mem (by decide +kernel) rfl) (xI_th hn h6 hN hO) rfl (tw_memN (by decide +kernel) rfl) dX6_lay_46 ?_
    refine lv_astore (lv' := [(6, .ref (ad (100 + k))), (5, .ref (ad (100 + q))), (4, .ref (ad (100 + k))), (0, .ref (ad 0)), (1, .int (nI k)), (2, .int i), (3, .int (nI q))]) hx hb dX6_lay_49 hl (by decide) rfl (fun ls hl => ?_)
    refine lv_aload hx hb dX6_lay_51 (lv_at hl 0 rfl) ?_
    refine lv_aload hx hb dX6_lay_53 (lv_at hl 1 rfl) ?_
    refine tw_calli (tw_rV (As := [.ref (ad (100 + q))]) (rest := []) S hK hI kX6_84 (c_X5_takes_q l D ad _ _ _ _ _ _ _ hn h6 hN hO hq hq6) (xI_th hn h6 hN hO) rfl rfl ⟨Nat.le_of_ble_eq_true rfl, Nat.le_of_ble_eq_true rfl⟩ ⟨Nat.le_of_ble_eq_true rfl, Nat.le_of_ble_eq_true rfl⟩ rfl hl.1 rfl (Nat.le_of_ble_eq_true rfl) dX6_lay_55) hI (fun H locs hI => ?_)
    refine lv_topi (fun x2 e2 => ?_)
    refine lv_if_eq (tgt := 109) hx hb dX6_lay_58 (by decide) (fun c3 => ?_) (fun c3 => ?_)
    · exact (by subst e2; exact absurd c3 ht)
    · refine lv_aload hx hb dX6_lay_61 (lv_at hl 0 rfl) ?_
      refine lv_iload_n hx hb dX6_lay_63 rfl (lv_at hl 5 rfl) ?_
      refine tw_calli (tw_rV (As := [.int i]) (rest := []) S hK hI kX6_88 (c_X5_hasPlace_out l D ad _ _ _ _ _ _ _ hn h6 hN hO hi) (xI_th hn h6 hN hO) rfl rfl ⟨Nat.le_of_ble_eq_true rfl, Nat.le_of_ble_eq_true rfl⟩ ⟨Nat.le_of_ble_eq_true rfl, Nat.le_of_ble_eq_true rfl⟩ rfl hl.1 rfl (Nat.le_of_ble_eq_true rfl) dX6_lay_64) hI (fun H locs hI => ?_)
      refine lv_if_ne (tgt := 77) hx hb dX6_lay_67 (by decide) (fun c4 => ?_) (fun c4 => ?_)
      · exact absurd c4 (by decide)
      · refine lv_aload_n hx hb dX6_lay_70 rfl (lv_at hl 3 rfl) ?_
        refine lv_bipush (v := (-5)) hx hb dX6_lay_71 (by decide) ?_
        refine tw_calli (tw_rV (As := [.int (-5)]) (rest := []) S hK hI kX6_50 (c_X6_refuse l D ad _ _ _ _ _ _) wX_0 rfl rfl ⟨Nat.le_of_ble_eq_true rfl, Nat.le_of_ble_eq_true rfl⟩ ⟨Nat.le_of_ble_eq_true rfl, Nat.le_of_ble_eq_true rfl⟩ rfl hl.1 rfl (Nat.le_of_ble_eq_true rfl) dX6_lay_73) hI (fun H locs hI => ?_)
        refine lv_topi (fun x5 e5 => ?_)
        subst e5
        subst e2
        rw [lay_q hok hn hq, lay2_index hok h6 (lok_q1 hkd hn hq h6 hq6 (thF2 hN hO) ht) hi]
        try rw [if_neg (show ¬ (1 : Int32) = 0 from by decide)]
        try rw [if_neg ht]
        try rw [if_pos (show (0 : Int32) = 0 from by decide)]
        exact tw_iret S hr hlocks hI dX6_lay_76

set_option maxHeartbeats 2000000 in
set_option maxRecDepth 100000 in
theorem c_X6_lay_thqstore (l : Launch) (D : tw_G) (ad : Nat → Nat) (b : tw_W) (σ : Sg) (h : Int32) (Q : Nat → Int32) (sz : Nat) (k q i : Nat) (hok : okM σ) (hkd : okKd σ) (hn : k < nS σ) (h6 : k < 60) (hN : isNumK (σ.1 1 k) = false) (hO : isOneK (σ.1 1 k) = false) (hq : q < nS σ) (hq6 : q < 60) (ht : ¬ takesX (σ.1 1 k) (σ.1 1 q) = 0) (hi : i < szS σ k) (hz : szS σ k ≤ 3) (hc : canX (σ.1 1 k) (σ.1 1 q) = 0) : Met l yX6_lay (tw_w yX6_lay cX6_lay 7 (some .int)) (tw_R 3 0 0) (tw_Pc D ad (wX b σ h Q) sz [.ref (ad 0), .int (nI k), .int (nI i), .int (nI q)]) (tw_Q D ad (wX b ((layM σ (nI k) (nI i) (nI q)).2) h Q) (tw_A ad (wX b σ h Q) sz) (some (.int (layM σ (nI k) (nI i) (nI q)).1))) 0 0 (tw_A ad (wX b σ h Q) sz) := by
  refine tw_met (by decide) rfl (by simp [lg_sl, Value.category]) (fun p e s m below meth c ls S hK hr hlocks hnm hsz hI hl => ?_)
  have hx := S.1
  have hb := S.2.1
  have hl : lv_has ls 7 [(0, .ref (ad 0)), (1, .int (nI k)), (2, .int (nI i)), (3, .int (nI q))] := hl
  refine lv_aload_n hx hb dX6_lay_0 rfl (lv_at hl 0 rfl) ?_
  refine lv_iload_n hx hb dX6_lay_1 rfl (lv_at hl 1 rfl) ?_
  refine tw_calla (tw_rV (As := [.int (nI k)]) (rest := []) S hK hI kX6_78 (c_X6_findItem_some l D ad _ _ _ _ _ _ hn h6) wX_0 rfl rfl ⟨Nat.le_of_ble_eq_true rfl, Nat.le_of_ble_eq_true rfl⟩ ⟨Nat.le_of_ble_eq_true rfl, Nat.le_of_ble_eq_true rfl⟩ rfl hl.1 rfl (Nat.le_of_ble_eq_true rfl) dX6_lay_2) hI (fun H locs hI => ?_)
  refine lv_astore (lv' := [(4, .ref (ad (100 + k))), (0, .ref (ad 0)), (1, .int (nI k)), (2, .int (nI i)), (3, .int (nI q))]) hx hb dX6_lay_5 hl (by decide) rfl (fun ls hl => ?_)
  refine lv_aload_n hx hb dX6_lay_7 rfl (lv_at hl 1 rfl) ?_
  refine lv_iload_n hx hb dX6_lay_8 rfl (lv_at hl 4 rfl) ?_
  refine tw_calla (tw_rV (As := [.int (nI q)]) (rest := []) S hK hI kX6_78 (c_X6_findItem_some l D ad _ _ _ _ _ _ hq hq6) wX_0 rfl rfl ⟨Nat.le_of_ble_eq_true rfl, Nat.le_of_ble_eq_true rfl⟩ ⟨Nat.le_of_ble_eq_true rfl, Nat.le_of_ble_eq_true rfl⟩ rfl hl.1 rfl (Nat.le_of_ble_eq_true rfl) dX6_lay_9) hI (fun H locs hI => ?_)
  refine lv_astore (lv' := [(5, .ref (ad (100 + q))), (4, .ref (ad (100 + k))), (0, .ref (ad 0)), (1, .int (nI k)), (2, .int (nI i)), (3, .int (nI q))]) hx hb dX6_lay_12 hl (by decide) rfl (fun ls hl => ?_)
  refine lv_aload hx hb dX6_lay_14 (lv_at hl 1 rfl) ?_
  refine lv_ifnull hx hb dX6_lay_16 ?_
  refine lv_aload hx hb dX6_lay_19 (lv_at hl 0 rfl) ?_
  refine lv_ifnonnull (tgt := 36) hx hb dX6_lay_21 (by decide) ?_
  refine lv_aload hx hb dX6_lay_36 (lv_at hl 1 rfl) ?_
  refine tw_inst1 (nm := RX5) S hK hI (tw_mem (by decide +kernel) rfl) (xI_th hn h6 hN hO) rfl (tw_memN (by decide +kernel) rfl) dX6_lay_38 ?_
  refine lv_if_eq (tgt := 109) hx hb dX6_lay_41 (by decide) (fun c1 => ?_) (fun c1 => ?_)
  · exact absurd c1 (by decide)
  · refine lv_aload hx hb dX6_lay_44 (lv_at hl 1 rfl) ?_
    refine tw_cast (nm := RX5) S hK hI (tw_mem (by decide +kernel) rfl) (xI_th hn h6 hN hO) rfl (tw_memN (by decide +kernel) rfl) dX6_lay_46 ?_
    refine lv_astore (lv' := [(6, .ref (ad (100 + k))), (5, .ref (ad (100 + q))), (4, .ref (ad (100 + k))), (0, .ref (ad 0)), (1, .int (nI k)), (2, .int (nI i)), (3, .int (nI q))]) hx hb dX6_lay_49 hl (by decide) rfl (fun ls hl => ?_)
    refine lv_aload hx hb dX6_lay_51 (lv_at hl 0 rfl) ?_
    refine lv_aload hx hb dX6_lay_53 (lv_at hl 1 rfl) ?_
    refine tw_calli (tw_rV (As := [.ref (ad (100 + q))]) (rest := []) S hK hI kX6_84 (c_X5_takes_q l D ad _ _ _ _ _ _ _ hn h6 hN hO hq hq6) (xI_th hn h6 hN hO) rfl rfl ⟨Nat.le_of_ble_eq_true rfl, Nat.le_of_ble_eq_true rfl⟩ ⟨Nat.le_of_ble_eq_true rfl, Nat.le_of_ble_eq_true rfl⟩ rfl hl.1 rfl (Nat.le_of_ble_eq_true rfl) dX6_lay_55) hI (fun H locs hI => ?_)
    refine lv_topi (fun x2 e2 => ?_)
    refine lv_if_eq (tgt := 109) hx hb dX6_lay_58 (by decide) (fun c3 => ?_) (fun c3 => ?_)
    · exact (by subst e2; exact absurd c3 ht)
    · refine lv_aload hx hb dX6_lay_61 (lv_at hl 0 rfl) ?_
      refine lv_iload_n hx hb dX6_lay_63 rfl (lv_at hl 5 rfl) ?_
      refine tw_calli (tw_rV (As := [.int (nI i)]) (rest := []) S hK hI kX6_88 (c_X5_hasPlace_in l D ad _ _ _ _ _ _ _ hn h6 hN hO hi hz) (xI_th hn h6 hN hO) rfl rfl ⟨Nat.le_of_ble_eq_true rfl, Nat.le_of_ble_eq_true rfl⟩ ⟨Nat.le_of_ble_eq_true rfl, Nat.le_of_ble_eq_true rfl⟩ rfl hl.1 rfl (Nat.le_of_ble_eq_true rfl) dX6_lay_64) hI (fun H locs hI => ?_)
      refine lv_if_ne (tgt := 77) hx hb dX6_lay_67 (by decide) (fun c4 => ?_) (fun c4 => ?_)
      · refine lv_aload hx hb dX6_lay_77 (lv_at hl 0 rfl) ?_
        refine lv_aload hx hb dX6_lay_79 (lv_at hl 1 rfl) ?_
        refine tw_calli (tw_rV (As := [.ref (ad (100 + q))]) (rest := []) S hK hI kX6_91 (c_X5_canHold_q l D ad _ _ _ _ _ _ _ hn h6 hN hO hq hq6) (xI_th hn h6 hN hO) rfl rfl ⟨Nat.le_of_ble_eq_true rfl, Nat.le_of_ble_eq_true rfl⟩ ⟨Nat.le_of_ble_eq_true rfl, Nat.le_of_ble_eq_true rfl⟩ rfl hl.1 rfl (Nat.le_of_ble_eq_true rfl) dX6_lay_81) hI (fun H locs hI => ?_)
        refine lv_topi (fun x5 e5 => ?_)
        refine lv_if_ne (tgt := 94) hx hb dX6_lay_84 (by decide) (fun c6 => ?_) (fun c6 => ?_)
        · exact (by subst e5; subst e2; exact absurd hc c6)
        · refine lv_aload_n hx hb dX6_lay_87 rfl (lv_at hl 3 rfl) ?_
          refine lv_bipush (v := (-6)) hx hb dX6_lay_88 (by decide) ?_
          refine tw_calli (tw_rV (As := [.int (-6)]) (rest := []) S hK hI kX6_50 (c_X6_refuse l D ad _ _ _ _ _ _) wX_0 rfl rfl ⟨Nat.le_of_ble_eq_true rfl, Nat.le_of_ble_eq_true rfl⟩ ⟨Nat.le_of_ble_eq_true rfl, Nat.le_of_ble_eq_true rfl⟩ rfl hl.1 rfl (Nat.le_of_ble_eq_true rfl) dX6_lay_90) hI (fun H locs hI => ?_)
          refine lv_topi (fun x7 e7 => ?_)
          subst e7
          subst e5
          subst e2
          rw [lay_q hok hn hq, lay2_store hkd hok hn hq h6 hq6 (thF2 hN hO) (lok_q1 hkd hn hq h6 hq6 (thF2 hN hO) ht) hi hc]
          try rw [if_neg (show ¬ (1 : Int32) = 0 from by decide)]
          try rw [if_neg ht]
          try rw [if_neg (show ¬ (1 : Int32) = 0 from by decide)]
          try rw [if_pos hc]
          exact tw_iret S hr hlocks hI dX6_lay_93
      · exact absurd c4 (by decide)

set_option maxHeartbeats 2000000 in
set_option maxRecDepth 100000 in
theorem c_X6_lay_thqok (l : Launch) (D : tw_G) (ad : Nat → Nat) (b : tw_W) (σ : Sg) (h : Int32) (Q : Nat → Int32) (sz : Nat) (k q i : Nat) (hok : okM σ) (hkd : okKd σ) (hn : k < nS σ) (h6 : k < 60) (hN : isNumK (σ.1 1 k) = false) (hO : isOneK (σ.1 1 k) = false) (hq : q < nS σ) (hq6 : q < 60) (ht : ¬ takesX (σ.1 1 k) (σ.1 1 q) = 0) (hi : i < szS σ k) (hz : szS σ k ≤ 3) (hc : ¬ canX (σ.1 1 k) (σ.1 1 q) = 0) : Met l yX6_lay (tw_w yX6_lay cX6_lay 7 (some .int)) (tw_R 3 0 0) (tw_Pc D ad (wX b σ h Q) sz [.ref (ad 0), .int (nI k), .int (nI i), .int (nI q)]) (tw_Q D ad (wX b ((layM σ (nI k) (nI i) (nI q)).2) h Q) (tw_A ad (wX b σ h Q) sz) (some (.int (layM σ (nI k) (nI i) (nI q)).1))) 0 0 (tw_A ad (wX b σ h Q) sz) := by
  refine tw_met (by decide) rfl (by simp [lg_sl, Value.category]) (fun p e s m below meth c ls S hK hr hlocks hnm hsz hI hl => ?_)
  have hx := S.1
  have hb := S.2.1
  have hl : lv_has ls 7 [(0, .ref (ad 0)), (1, .int (nI k)), (2, .int (nI i)), (3, .int (nI q))] := hl
  refine lv_aload_n hx hb dX6_lay_0 rfl (lv_at hl 0 rfl) ?_
  refine lv_iload_n hx hb dX6_lay_1 rfl (lv_at hl 1 rfl) ?_
  refine tw_calla (tw_rV (As := [.int (nI k)]) (rest := []) S hK hI kX6_78 (c_X6_findItem_some l D ad _ _ _ _ _ _ hn h6) wX_0 rfl rfl ⟨Nat.le_of_ble_eq_true rfl, Nat.le_of_ble_eq_true rfl⟩ ⟨Nat.le_of_ble_eq_true rfl, Nat.le_of_ble_eq_true rfl⟩ rfl hl.1 rfl (Nat.le_of_ble_eq_true rfl) dX6_lay_2) hI (fun H locs hI => ?_)
  refine lv_astore (lv' := [(4, .ref (ad (100 + k))), (0, .ref (ad 0)), (1, .int (nI k)), (2, .int (nI i)), (3, .int (nI q))]) hx hb dX6_lay_5 hl (by decide) rfl (fun ls hl => ?_)
  refine lv_aload_n hx hb dX6_lay_7 rfl (lv_at hl 1 rfl) ?_
  refine lv_iload_n hx hb dX6_lay_8 rfl (lv_at hl 4 rfl) ?_
  refine tw_calla (tw_rV (As := [.int (nI q)]) (rest := []) S hK hI kX6_78 (c_X6_findItem_some l D ad _ _ _ _ _ _ hq hq6) wX_0 rfl rfl ⟨Nat.le_of_ble_eq_true rfl, Nat.le_of_ble_eq_true rfl⟩ ⟨Nat.le_of_ble_eq_true rfl, Nat.le_of_ble_eq_true rfl⟩ rfl hl.1 rfl (Nat.le_of_ble_eq_true rfl) dX6_lay_9) hI (fun H locs hI => ?_)
  refine lv_astore (lv' := [(5, .ref (ad (100 + q))), (4, .ref (ad (100 + k))), (0, .ref (ad 0)), (1, .int (nI k)), (2, .int (nI i)), (3, .int (nI q))]) hx hb dX6_lay_12 hl (by decide) rfl (fun ls hl => ?_)
  refine lv_aload hx hb dX6_lay_14 (lv_at hl 1 rfl) ?_
  refine lv_ifnull hx hb dX6_lay_16 ?_
  refine lv_aload hx hb dX6_lay_19 (lv_at hl 0 rfl) ?_
  refine lv_ifnonnull (tgt := 36) hx hb dX6_lay_21 (by decide) ?_
  refine lv_aload hx hb dX6_lay_36 (lv_at hl 1 rfl) ?_
  refine tw_inst1 (nm := RX5) S hK hI (tw_mem (by decide +kernel) rfl) (xI_th hn h6 hN hO) rfl (tw_memN (by decide +kernel) rfl) dX6_lay_38 ?_
  refine lv_if_eq (tgt := 109) hx hb dX6_lay_41 (by decide) (fun c1 => ?_) (fun c1 => ?_)
  · exact absurd c1 (by decide)
  · refine lv_aload hx hb dX6_lay_44 (lv_at hl 1 rfl) ?_
    refine tw_cast (nm := RX5) S hK hI (tw_mem (by decide +kernel) rfl) (xI_th hn h6 hN hO) rfl (tw_memN (by decide +kernel) rfl) dX6_lay_46 ?_
    refine lv_astore (lv' := [(6, .ref (ad (100 + k))), (5, .ref (ad (100 + q))), (4, .ref (ad (100 + k))), (0, .ref (ad 0)), (1, .int (nI k)), (2, .int (nI i)), (3, .int (nI q))]) hx hb dX6_lay_49 hl (by decide) rfl (fun ls hl => ?_)
    refine lv_aload hx hb dX6_lay_51 (lv_at hl 0 rfl) ?_
    refine lv_aload hx hb dX6_lay_53 (lv_at hl 1 rfl) ?_
    refine tw_calli (tw_rV (As := [.ref (ad (100 + q))]) (rest := []) S hK hI kX6_84 (c_X5_takes_q l D ad _ _ _ _ _ _ _ hn h6 hN hO hq hq6) (xI_th hn h6 hN hO) rfl rfl ⟨Nat.le_of_ble_eq_true rfl, Nat.le_of_ble_eq_true rfl⟩ ⟨Nat.le_of_ble_eq_true rfl, Nat.le_of_ble_eq_true rfl⟩ rfl hl.1 rfl (Nat.le_of_ble_eq_true rfl) dX6_lay_55) hI (fun H locs hI => ?_)
    refine lv_topi (fun x2 e2 => ?_)
    refine lv_if_eq (tgt := 109) hx hb dX6_lay_58 (by decide) (fun c3 => ?_) (fun c3 => ?_)
    · exact (by subst e2; exact absurd c3 ht)
    · refine lv_aload hx hb dX6_lay_61 (lv_at hl 0 rfl) ?_
      refine lv_iload_n hx hb dX6_lay_63 rfl (lv_at hl 5 rfl) ?_
      refine tw_calli (tw_rV (As := [.int (nI i)]) (rest := []) S hK hI kX6_88 (c_X5_hasPlace_in l D ad _ _ _ _ _ _ _ hn h6 hN hO hi hz) (xI_th hn h6 hN hO) rfl rfl ⟨Nat.le_of_ble_eq_true rfl, Nat.le_of_ble_eq_true rfl⟩ ⟨Nat.le_of_ble_eq_true rfl, Nat.le_of_ble_eq_true rfl⟩ rfl hl.1 rfl (Nat.le_of_ble_eq_true rfl) dX6_lay_64) hI (fun H locs hI => ?_)
      refine lv_if_ne (tgt := 77) hx hb dX6_lay_67 (by decide) (fun c4 => ?_) (fun c4 => ?_)
      · refine lv_aload hx hb dX6_lay_77 (lv_at hl 0 rfl) ?_
        refine lv_aload hx hb dX6_lay_79 (lv_at hl 1 rfl) ?_
        refine tw_calli (tw_rV (As := [.ref (ad (100 + q))]) (rest := []) S hK hI kX6_91 (c_X5_canHold_q l D ad _ _ _ _ _ _ _ hn h6 hN hO hq hq6) (xI_th hn h6 hN hO) rfl rfl ⟨Nat.le_of_ble_eq_true rfl, Nat.le_of_ble_eq_true rfl⟩ ⟨Nat.le_of_ble_eq_true rfl, Nat.le_of_ble_eq_true rfl⟩ rfl hl.1 rfl (Nat.le_of_ble_eq_true rfl) dX6_lay_81) hI (fun H locs hI => ?_)
        refine lv_topi (fun x5 e5 => ?_)
        refine lv_if_ne (tgt := 94) hx hb dX6_lay_84 (by decide) (fun c6 => ?_) (fun c6 => ?_)
        · refine lv_aload hx hb dX6_lay_94 (lv_at hl 0 rfl) ?_
          refine f6_94_5 S hK hI (xI_th hn h6 hN hO) rfl (v' := .ref (ad (200 + k))) rfl dX6_lay_96 ?_
          refine lv_iload_n hx hb dX6_lay_99 rfl (lv_at hl 5 rfl) ?_
          refine lv_aload hx hb dX6_lay_100 (lv_at hl 1 rfl) ?_
          refine xs_th (k := k) (i := i) (q := lN q) S hK hI hn h6 hN hO hi (by omega) (by omega) (by rw [decL_lN (by omega)]; rfl) (fun y e => by rw [decL_lN (by omega)] at e; cases e; exact xAny hK hI hq hq6) dX6_lay_102 (fun H locs hI => ?_)
          refine lv_aload_n hx hb dX6_lay_103 rfl (lv_at hl 3 rfl) ?_
          refine lv_iconst (v := 1) hx hb dX6_lay_104 (by decide) ?_
          refine tw_calli (tw_rV (As := [.int 1]) (rest := []) S hK hI kX6_62 (c_X6_accept l D ad _ _ _ _ _ _) wX_0 rfl rfl ⟨Nat.le_of_ble_eq_true rfl, Nat.le_of_ble_eq_true rfl⟩ ⟨Nat.le_of_ble_eq_true rfl, Nat.le_of_ble_eq_true rfl⟩ rfl hl.1 rfl (Nat.le_of_ble_eq_true rfl) dX6_lay_105) hI (fun H locs hI => ?_)
          refine lv_topi (fun x7 e7 => ?_)
          subst e7
          subst e5
          subst e2
          rw [lay_q hok hn hq, lay2_ok hkd hok hn hq h6 hq6 (thF2 hN hO) (lok_q1 hkd hn hq h6 hq6 (thF2 hN hO) ht) hi hc]
          try rw [if_neg (show ¬ (1 : Int32) = 0 from by decide)]
          try rw [if_neg ht]
          try rw [if_neg (show ¬ (1 : Int32) = 0 from by decide)]
          try rw [if_neg hc]
          exact tw_iret S hr hlocks hI dX6_lay_108
        · exact (by subst e5; subst e2; exact absurd c6 hc)
      · exact absurd c4 (by decide)

theorem c_X6_lay (l : Launch) (D : tw_G) (ad : Nat → Nat) (b : tw_W) (σ : Sg) (h : Int32) (Q : Nat → Int32) (sz : Nat) (t i x : Int32) (hok : okM σ) (hkd : okKd σ) : Met l yX6_lay (tw_w yX6_lay cX6_lay 7 (some .int)) (tw_R 3 0 0) (tw_Pc D ad (wX b σ h Q) sz [.ref (ad 0), .int t, .int i, .int x]) (tw_Q D ad (wX b ((layM σ t i x).2) h Q) (tw_A ad (wX b σ h Q) sz) (some (.int (layM σ t i x).1))) 0 0 (tw_A ad (wX b σ h Q) sz) := by
  rcases item_or σ t (okN hok).1 with hv | ⟨k, hn, h6, rfl⟩
  · rcases item_or σ x (okN hok).1 with hw | ⟨q, hq, hq6, rfl⟩
    · exact c_X6_lay_none l D ad b σ h Q sz t i x hok hkd hv hw
    · exact c_X6_lay_noneq l D ad b σ h Q sz t i q hok hkd hv hq hq6
  · rcases item_or σ x (okN hok).1 with hw | ⟨q, hq, hq6, rfl⟩
    · by_cases h1 : x = -1
      · subst h1
        cases hN : isNumK (σ.1 1 k) with
        | true => exact c_X6_lay_numm1 l D ad b σ h Q sz k i hok hkd hn h6 hN hw
        | false =>
          cases hO : isOneK (σ.1 1 k) with
          | true => exact c_X6_lay_onem1 l D ad b σ h Q sz k i hok hkd hn h6 hN hO hw
          | false =>
            rcases place_or (szS σ k) i (okZ hok h6).1 with hi | ⟨j, hj, rfl⟩
            · exact c_X6_lay_thm1out l D ad b σ h Q sz k i hok hkd hn h6 hN hO hw hi
            · exact c_X6_lay_thm1in l D ad b σ h Q sz k j hok hkd hn h6 hN hO hw hj (okZ hok h6).1
      · exact c_X6_lay_bad l D ad b σ h Q sz k i x hok hkd hn h6 hw h1
    · cases hN : isNumK (σ.1 1 k) with
      | true => exact c_X6_lay_numq l D ad b σ h Q sz k q i hok hkd hn h6 hN hq hq6
      | false =>
        cases hO : isOneK (σ.1 1 k) with
        | true => exact c_X6_lay_oneq l D ad b σ h Q sz k q i hok hkd hn h6 hN hO hq hq6
        | false =>
          by_cases ht : takesX (σ.1 1 k) (σ.1 1 q) = 0
          · exact c_X6_lay_thqcast l D ad b σ h Q sz k q i hok hkd hn h6 hN hO hq hq6 ht
          · rcases place_or (szS σ k) i (okZ hok h6).1 with hi | ⟨j, hj, rfl⟩
            · exact c_X6_lay_thqout l D ad b σ h Q sz k q i hok hkd hn h6 hN hO hq hq6 ht hi
            · by_cases hc : canX (σ.1 1 k) (σ.1 1 q) = 0
              · exact c_X6_lay_thqstore l D ad b σ h Q sz k q j hok hkd hn h6 hN hO hq hq6 ht hj (okZ hok h6).1 hc
              · exact c_X6_lay_thqok l D ad b σ h Q sz k q j hok hkd hn h6 hN hO hq hq6 ht hj (okZ hok h6).1 hc