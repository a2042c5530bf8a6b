set_option maxHeartbeats 2000000 in
set_option maxRecDepth 100000 in
theorem c_X6_at_none (l : Launch) (D : tw_G) (ad : Nat → Nat) (b : tw_W) (σ : Sg) (h : Int32) (Q : Nat → Int32) (sz : Nat) (t i : Int32) (hok : okM σ) (hv : noItem σ t) : Met l yX6_at (tw_w yX6_at cX6_at 5 (some .int)) (tw_R 3 0 0) (tw_Pc D ad (wX b σ h Q) sz [.ref (ad 0), .int t, .int i]) (tw_Q D ad (wX b ((atM σ t i).2) h Q) (tw_A ad (wX b σ h Q) sz) (some (.int (atM σ t i).1))) 0 0 (tw_A ad (wX b σ h Q) sz) := by
  refine tw_met (by decide) rfl (by simp [lg_sl, Value.category]) (fun p e s m below meth c ls S hK hr hlocks hnm hsz hI hl => ?_)
  have hx := S.1
  have hb := S.2.1
  have hl : lv_has ls 5 [(0, .ref (ad 0)), (1, .int t), (2, .int i)] := hl
  refine lv_aload_n hx hb dX6_at_0 rfl (lv_at hl 0 rfl) ?_
  refine lv_iload_n hx hb dX6_at_1 rfl (lv_at hl 1 rfl) ?_
  refine tw_calla (tw_rV (As := [.int t]) (rest := []) S hK hI kX6_78 (c_X6_findItem_none l D ad _ _ _ _ _ _ (okN hok).1 hv) wX_0 rfl rfl ⟨Nat.le_of_ble_eq_true rfl, Nat.le_of_ble_eq_true rfl⟩ ⟨Nat.le_of_ble_eq_true rfl, Nat.le_of_ble_eq_true rfl⟩ rfl hl.1 rfl (Nat.le_of_ble_eq_true rfl) dX6_at_2) hI (fun H locs hI => ?_)
  refine lv_astore_nN (lv' := [(3, .null), (0, .ref (ad 0)), (1, .int t), (2, .int i)]) hx hb dX6_at_5 rfl hl (by decide) rfl (fun ls hl => ?_)
  refine lv_aload_nN hx hb dX6_at_6 rfl (lv_at hl 0 rfl) ?_
  refine lv_ifnonnullN hx hb dX6_at_7 ?_
  refine lv_aload_n hx hb dX6_at_10 rfl (lv_at hl 1 rfl) ?_
  refine lv_bipush (v := (-2)) hx hb dX6_at_11 (by decide) ?_
  refine tw_calli (tw_rV (As := [.int (-2)]) (rest := []) S hK hI kX6_50 (c_X6_refuse l D ad _ _ _ _ _ _) wX_0 rfl rfl ⟨Nat.le_of_ble_eq_true rfl, Nat.le_of_ble_eq_true rfl⟩ ⟨Nat.le_of_ble_eq_true rfl, Nat.le_of_ble_eq_true rfl⟩ rfl hl.1 rfl (Nat.le_of_ble_eq_true rfl) dX6_at_13) hI (fun H locs hI => ?_)
  refine lv_topi (fun x1 e1 => ?_)
  subst e1
  rw [at_none hok hv]
  exact tw_iret S hr hlocks hI dX6_at_16

set_option maxHeartbeats 2000000 in
set_option maxRecDepth 100000 in
theorem c_X6_at_num (l : Launch) (D : tw_G) (ad : Nat → Nat) (b : tw_W) (σ : Sg) (h : Int32) (Q : Nat → Int32) (sz : Nat) (k : Nat) (i : Int32) (hok : okM σ) (hn : k < nS σ) (h6 : k < 60) (hN : isNumK (σ.1 1 k) = true) : Met l yX6_at (tw_w yX6_at cX6_at 5 (some .int)) (tw_R 3 0 0) (tw_Pc D ad (wX b σ h Q) sz [.ref (ad 0), .int (nI k), .int i]) (tw_Q D ad (wX b ((atM σ (nI k) i).2) h Q) (tw_A ad (wX b σ h Q) sz) (some (.int (atM σ (nI k) i).1))) 0 0 (tw_A ad (wX b σ h Q) sz) := by
  refine tw_met (by decide) rfl (by simp [lg_sl, Value.category]) (fun p e s m below meth c ls S hK hr hlocks hnm hsz hI hl => ?_)
  have hx := S.1
  have hb := S.2.1
  have hl : lv_has ls 5 [(0, .ref (ad 0)), (1, .int (nI k)), (2, .int i)] := hl
  refine lv_aload_n hx hb dX6_at_0 rfl (lv_at hl 0 rfl) ?_
  refine lv_iload_n hx hb dX6_at_1 rfl (lv_at hl 1 rfl) ?_
  refine tw_calla (tw_rV (As := [.int (nI k)]) (rest := []) S hK hI kX6_78 (c_X6_findItem_some l D ad _ _ _ _ _ _ hn h6) wX_0 rfl rfl ⟨Nat.le_of_ble_eq_true rfl, Nat.le_of_ble_eq_true rfl⟩ ⟨Nat.le_of_ble_eq_true rfl, Nat.le_of_ble_eq_true rfl⟩ rfl hl.1 rfl (Nat.le_of_ble_eq_true rfl) dX6_at_2) hI (fun H locs hI => ?_)
  refine lv_astore_n (lv' := [(3, .ref (ad (100 + k))), (0, .ref (ad 0)), (1, .int (nI k)), (2, .int i)]) hx hb dX6_at_5 rfl hl (by decide) rfl (fun ls hl => ?_)
  refine lv_aload_n hx hb dX6_at_6 rfl (lv_at hl 0 rfl) ?_
  refine lv_ifnonnull (tgt := 17) hx hb dX6_at_7 (by decide) ?_
  refine lv_aload_n hx hb dX6_at_17 rfl (lv_at hl 0 rfl) ?_
  refine tw_inst0 (nm := RX5) S hK hI (tw_mem (by decide +kernel) rfl) (xI_num hn h6 hN) rfl (by decide) dX6_at_18 ?_
  refine lv_if_eq (tgt := 63) hx hb dX6_at_21 (by decide) (fun c1 => ?_) (fun c1 => ?_)
  · refine lv_aload_n hx hb dX6_at_63 rfl (lv_at hl 1 rfl) ?_
    refine lv_bipush (v := (-4)) hx hb dX6_at_64 (by decide) ?_
    refine tw_calli (tw_rV (As := [.int (-4)]) (rest := []) S hK hI kX6_50 (c_X6_refuse l D ad _ _ _ _ _ _) wX_0 rfl rfl ⟨Nat.le_of_ble_eq_true rfl, Nat.le_of_ble_eq_true rfl⟩ ⟨Nat.le_of_ble_eq_true rfl, Nat.le_of_ble_eq_true rfl⟩ rfl hl.1 rfl (Nat.le_of_ble_eq_true rfl) dX6_at_66) hI (fun H locs hI => ?_)
    refine lv_topi (fun x2 e2 => ?_)
    subst e2
    rw [at_cast hok hn h6 (thF0 hN)]
    try rw [if_pos (show (0 : Int32) = 0 from by decide)]
    exact tw_iret S hr hlocks hI dX6_at_69
  · exact absurd c1 (by decide)

set_option maxHeartbeats 2000000 in
set_option maxRecDepth 100000 in
theorem c_X6_at_one (l : Launch) (D : tw_G) (ad : Nat → Nat) (b : tw_W) (σ : Sg) (h : Int32) (Q : Nat → Int32) (sz : Nat) (k : Nat) (i : Int32) (hok : okM σ) (hn : k < nS σ) (h6 : k < 60) (hN : isNumK (σ.1 1 k) = false) (hO : isOneK (σ.1 1 k) = true) : Met l yX6_at (tw_w yX6_at cX6_at 5 (some .int)) (tw_R 3 0 0) (tw_Pc D ad (wX b σ h Q) sz [.ref (ad 0), .int (nI k), .int i]) (tw_Q D ad (wX b ((atM σ (nI k) i).2) h Q) (tw_A ad (wX b σ h Q) sz) (some (.int (atM σ (nI k) i).1))) 0 0 (tw_A ad (wX b σ h Q) sz) := by
  refine tw_met (by decide) rfl (by simp [lg_sl, Value.category]) (fun p e s m below meth c ls S hK hr hlocks hnm hsz hI hl => ?_)
  have hx := S.1
  have hb := S.2.1
  have hl : lv_has ls 5 [(0, .ref (ad 0)), (1, .int (nI k)), (2, .int i)] := hl
  refine lv_aload_n hx hb dX6_at_0 rfl (lv_at hl 0 rfl) ?_
  refine lv_iload_n hx hb dX6_at_1 rfl (lv_at hl 1 rfl) ?_
  refine tw_calla (tw_rV (As := [.int (nI k)]) (rest := []) S hK hI kX6_78 (c_X6_findItem_some l D ad _ _ _ _ _ _ hn h6) wX_0 rfl rfl ⟨Nat.le_of_ble_eq_true rfl, Nat.le_of_ble_eq_true rfl⟩ ⟨Nat.le_of_ble_eq_true rfl, Nat.le_of_ble_eq_true rfl⟩ rfl hl.1 rfl (Nat.le_of_ble_eq_true rfl) dX6_at_2) hI (fun H locs hI => ?_)
  refine lv_astore_n (lv' := [(3, .ref (ad (100 + k))), (0, .ref (ad 0)), (1, .int (nI k)), (2, .int i)]) hx hb dX6_at_5 rfl hl (by decide) rfl (fun ls hl => ?_)
  refine lv_aload_n hx hb dX6_at_6 rfl (lv_at hl 0 rfl) ?_
  refine lv_ifnonnull (tgt := 17) hx hb dX6_at_7 (by decide) ?_
  refine lv_aload_n hx hb dX6_at_17 rfl (lv_at hl 0 rfl) ?_
  refine tw_inst0 (nm := RX5) S hK hI (tw_mem (by decide +kernel) rfl) (xI_one hn h6 hN hO) rfl (by decide) dX6_at_18 ?_
  refine lv_if_eq (tgt := 63) hx hb dX6_at_21 (by decide) (fun c1 => ?_) (fun c1 => ?_)
  · refine lv_aload_n hx hb dX6_at_63 rfl (lv_at hl 1 rfl) ?_
    refine lv_bipush (v := (-4)) hx hb dX6_at_64 (by decide) ?_
    refine tw_calli (tw_rV (As := [.int (-4)]) (rest := []) S hK hI kX6_50 (c_X6_refuse l D ad _ _ _ _ _ _) wX_0 rfl rfl ⟨Nat.le_of_ble_eq_true rfl, Nat.le_of_ble_eq_true rfl⟩ ⟨Nat.le_of_ble_eq_true rfl, Nat.le_of_ble_eq_true rfl⟩ rfl hl.1 rfl (Nat.le_of_ble_eq_true rfl) dX6_at_66) hI (fun H locs hI => ?_)
    refine lv_topi (fun x2 e2 => ?_)
    subst e2
    rw [at_cast hok hn h6 (thF1 hO)]
    try rw [if_pos (show (0 : Int32) = 0 from by decide)]
    exact tw_iret S hr hlocks hI dX6_at_69
  · exact absurd c1 (by decide)

set_option maxHeartbeats 2000000 in
set_option maxRecDepth 100000 in
theorem c_X6_at_out (l : Launch) (D : tw_G) (ad : Nat → Nat) (b : tw_W) (σ : Sg) (h : Int32) (Q : Nat → Int32) (sz : Nat) (k : Nat) (i : Int32) (hok : okM σ) (hn : k < nS σ) (h6 : k < 60) (hN : isNumK (σ.1 1 k) = false) (hO : isOneK (σ.1 1 k) = false) (hi : i < 0 ∨ nI (szS σ k) ≤ i) : Met l yX6_at (tw_w yX6_at cX6_at 5 (some .int)) (tw_R 3 0 0) (tw_Pc D ad (wX b σ h Q) sz [.ref (ad 0), .int (nI k), .int i]) (tw_Q D ad (wX b ((atM σ (nI k) i).2) h Q) (tw_A ad (wX b σ h Q) sz) (some (.int (atM σ (nI k) i).1))) 0 0 (tw_A ad (wX b σ h Q) sz) := by
  refine tw_met (by decide) rfl (by simp [lg_sl, Value.category]) (fun p e s m below meth c ls S hK hr hlocks hnm hsz hI hl => ?_)
  have hx := S.1
  have hb := S.2.1
  have hl : lv_has ls 5 [(0, .ref (ad 0)), (1, .int (nI k)), (2, .int i)] := hl
  refine lv_aload_n hx hb dX6_at_0 rfl (lv_at hl 0 rfl) ?_
  refine lv_iload_n hx hb dX6_at_1 rfl (lv_at hl 1 rfl) ?_
  refine tw_calla (tw_rV (As := [.int (nI k)]) (rest := []) S hK hI kX6_78 (c_X6_findItem_some l D ad _ _ _ _ _ _ hn h6) wX_0 rfl rfl ⟨Nat.le_of_ble_eq_true rfl, Nat.le_of_ble_eq_true rfl⟩ ⟨Nat.le_of_ble_eq_true rfl, Nat.le_of_ble_eq_true rfl⟩ rfl hl.1 rfl (Nat.le_of_ble_eq_true rfl) dX6_at_2) hI (fun H locs hI => ?_)
  refine lv_astore_n (lv' := [(3, .ref (ad (100 + k))), (0, .ref (ad 0)), (1, .int (nI k)), (2, .int i)]) hx hb dX6_at_5 rfl hl (by decide) rfl (fun ls hl => ?_)
  refine lv_aload_n hx hb dX6_at_6 rfl (lv_at hl 0 rfl) ?_
  refine lv_ifnonnull (tgt := 17) hx hb dX6_at_7 (by decide) ?_
  refine lv_aload_n hx hb dX6_at_17 rfl (lv_at hl 0 rfl) ?_
  refine tw_inst1 (nm := RX5) S hK hI (tw_mem (by decide +kernel) rfl) (xI_th hn h6 hN hO) rfl (tw_memN (by decide +kernel) rfl) dX6_at_18 ?_
  refine lv_if_eq (tgt := 63) hx hb dX6_at_21 (by decide) (fun c1 => ?_) (fun c1 => ?_)
  · exact absurd c1 (by decide)
  · refine lv_aload_n hx hb dX6_at_24 rfl (lv_at hl 0 rfl) ?_
    refine tw_cast (nm := RX5) S hK hI (tw_mem (by decide +kernel) rfl) (xI_th hn h6 hN hO) rfl (tw_memN (by decide +kernel) rfl) dX6_at_25 ?_
    refine lv_astore (lv' := [(4, .ref (ad (100 + k))), (3, .ref (ad (100 + k))), (0, .ref (ad 0)), (1, .int (nI k)), (2, .int i)]) hx hb dX6_at_28 hl (by decide) rfl (fun ls hl => ?_)
    refine lv_aload hx hb dX6_at_30 (lv_at hl 0 rfl) ?_
    refine lv_iload_n hx hb dX6_at_32 rfl (lv_at hl 4 rfl) ?_
    refine tw_calli (tw_rV (As := [.int i]) (rest := []) S hK hI kX6_88 (c_X5_hasPlace_out l D ad _ _ _ _ _ _ _ hn h6 hN hO hi) (xI_th hn h6 hN hO) rfl rfl ⟨Nat.le_of_ble_eq_true rfl, Nat.le_of_ble_eq_true rfl⟩ ⟨Nat.le_of_ble_eq_true rfl, Nat.le_of_ble_eq_true rfl⟩ rfl hl.1 rfl (Nat.le_of_ble_eq_true rfl) dX6_at_33) hI (fun H locs hI => ?_)
    refine lv_if_eq (tgt := 56) hx hb dX6_at_36 (by decide) (fun c2 => ?_) (fun c2 => ?_)
    · refine lv_aload_n hx hb dX6_at_56 rfl (lv_at hl 2 rfl) ?_
      refine lv_bipush (v := (-5)) hx hb dX6_at_57 (by decide) ?_
      refine tw_calli (tw_rV (As := [.int (-5)]) (rest := []) S hK hI kX6_50 (c_X6_refuse l D ad _ _ _ _ _ _) wX_0 rfl rfl ⟨Nat.le_of_ble_eq_true rfl, Nat.le_of_ble_eq_true rfl⟩ ⟨Nat.le_of_ble_eq_true rfl, Nat.le_of_ble_eq_true rfl⟩ rfl hl.1 rfl (Nat.le_of_ble_eq_true rfl) dX6_at_59) hI (fun H locs hI => ?_)
      refine lv_topi (fun x3 e3 => ?_)
      subst e3
      rw [at_index hok hn h6 (thF2 hN hO) hi]
      try rw [if_neg (show ¬ (1 : Int32) = 0 from by decide)]
      try rw [if_pos (show (0 : Int32) = 0 from by decide)]
      exact tw_iret S hr hlocks hI dX6_at_62
    · exact absurd c2 (by decide)

set_option maxHeartbeats 2000000 in
set_option maxRecDepth 100000 in
theorem c_X6_at_nil (l : Launch) (D : tw_G) (ad : Nat → Nat) (b : tw_W) (σ : Sg) (h : Int32) (Q : Nat → Int32) (sz : Nat) (k i : Nat) (hok : okM σ) (hn : k < nS σ) (h6 : k < 60) (hN : isNumK (σ.1 1 k) = false) (hO : isOneK (σ.1 1 k) = false) (hi : i < szS σ k) (hz : szS σ k ≤ 3) (hc : σ.2 (3 * k + i) = -1) (hc2 : decL (σ.2 (3 * k + i)) = none) : Met l yX6_at (tw_w yX6_at cX6_at 5 (some .int)) (tw_R 3 0 0) (tw_Pc D ad (wX b σ h Q) sz [.ref (ad 0), .int (nI k), .int (nI i)]) (tw_Q D ad (wX b ((atM σ (nI k) (nI i)).2) h Q) (tw_A ad (wX b σ h Q) sz) (some (.int (atM σ (nI k) (nI i)).1))) 0 0 (tw_A ad (wX b σ h Q) sz) := by
  refine tw_met (by decide) rfl (by simp [lg_sl, Value.category]) (fun p e s m below meth c ls S hK hr hlocks hnm hsz hI hl => ?_)
  have hx := S.1
  have hb := S.2.1
  have hl : lv_has ls 5 [(0, .ref (ad 0)), (1, .int (nI k)), (2, .int (nI i))] := hl
  refine lv_aload_n hx hb dX6_at_0 rfl (lv_at hl 0 rfl) ?_
  refine lv_iload_n hx hb dX6_at_1 rfl (lv_at hl 1 rfl) ?_
  refine tw_calla (tw_rV (As := [.int (nI k)]) (rest := []) S hK hI kX6_78 (c_X6_findItem_some l D ad _ _ _ _ _ _ hn h6) wX_0 rfl rfl ⟨Nat.le_of_ble_eq_true rfl, Nat.le_of_ble_eq_true rfl⟩ ⟨Nat.le_of_ble_eq_true rfl, Nat.le_of_ble_eq_true rfl⟩ rfl hl.1 rfl (Nat.le_of_ble_eq_true rfl) dX6_at_2) hI (fun H locs hI => ?_)
  refine lv_astore_n (lv' := [(3, .ref (ad (100 + k))), (0, .ref (ad 0)), (1, .int (nI k)), (2, .int (nI i))]) hx hb dX6_at_5 rfl hl (by decide) rfl (fun ls hl => ?_)
  refine lv_aload_n hx hb dX6_at_6 rfl (lv_at hl 0 rfl) ?_
  refine lv_ifnonnull (tgt := 17) hx hb dX6_at_7 (by decide) ?_
  refine lv_aload_n hx hb dX6_at_17 rfl (lv_at hl 0 rfl) ?_
  refine tw_inst1 (nm := RX5) S hK hI (tw_mem (by decide +kernel) rfl) (xI_th hn h6 hN hO) rfl (tw_memN (by decide +kernel) rfl) dX6_at_18 ?_
  refine lv_if_eq (tgt := 63) hx hb dX6_at_21 (by decide) (fun c1 => ?_) (fun c1 => ?_)
  · exact absurd c1 (by decide)
  · refine lv_aload_n hx hb dX6_at_24 rfl (lv_at hl 0 rfl) ?_
    refine tw_cast (nm := RX5) S hK hI (tw_mem (by decide +kernel) rfl) (xI_th hn h6 hN hO) rfl (tw_memN (by decide +kernel) rfl) dX6_at_25 ?_
    refine lv_astore (lv' := [(4, .ref (ad (100 + k))), (3, .ref (ad (100 + k))), (0, .ref (ad 0)), (1, .int (nI k)), (2, .int (nI i))]) hx hb dX6_at_28 hl (by decide) rfl (fun ls hl => ?_)
    refine lv_aload hx hb dX6_at_30 (lv_at hl 0 rfl) ?_
    refine lv_iload_n hx hb dX6_at_32 rfl (lv_at hl 4 rfl) ?_
    refine tw_calli (tw_rV (As := [.int (nI i)]) (rest := []) S hK hI kX6_88 (c_X5_hasPlace_in l D ad _ _ _ _ _ _ _ hn h6 hN hO hi hz) (xI_th hn h6 hN hO) rfl rfl ⟨Nat.le_of_ble_eq_true rfl, Nat.le_of_ble_eq_true rfl⟩ ⟨Nat.le_of_ble_eq_true rfl, Nat.le_of_ble_eq_true rfl⟩ rfl hl.1 rfl (Nat.le_of_ble_eq_true rfl) dX6_at_33) hI (fun H locs hI => ?_)
    refine lv_if_eq (tgt := 56) hx hb dX6_at_36 (by decide) (fun c2 => ?_) (fun c2 => ?_)
    · exact absurd c2 (by decide)
    · refine lv_aload_n hx hb dX6_at_39 rfl (lv_at hl 2 rfl) ?_
      refine lv_aload hx hb dX6_at_40 (lv_at hl 0 rfl) ?_
      refine f6_94_5 S hK hI (xI_th hn h6 hN hO) rfl (v' := .ref (ad (200 + k))) rfl dX6_at_42 ?_
      refine lv_iload_n hx hb dX6_at_45 rfl (lv_at hl 4 rfl) ?_
      refine xl_th (k := k) (i := i) (v := .null) S hK hI hn h6 hN hO hi (by omega) (by omega) (by rw [hc2]; rfl) dX6_at_46 ?_
      refine tw_calli (tw_rS (As := [.null]) (rest := [.ref (ad 0)]) S hK hI kX6_97 (c_X6_numberOf_none l D ad _ _ _ _ _) ⟨Nat.le_of_ble_eq_true rfl, Nat.le_of_ble_eq_true rfl⟩ ⟨Nat.le_of_ble_eq_true rfl, Nat.le_of_ble_eq_true rfl⟩ rfl hl.1 rfl (Nat.le_of_ble_eq_true rfl) dX6_at_47) hI (fun H locs hI => ?_)
      refine lv_topi (fun x3 e3 => ?_)
      refine tw_calli (tw_rV (As := [.int x3]) (rest := []) S hK hI kX6_62 (c_X6_accept l D ad _ _ _ _ _ _) wX_0 rfl rfl ⟨Nat.le_of_ble_eq_true rfl, Nat.le_of_ble_eq_true rfl⟩ ⟨Nat.le_of_ble_eq_true rfl, Nat.le_of_ble_eq_true rfl⟩ rfl hl.1 rfl (Nat.le_of_ble_eq_true rfl) dX6_at_50) hI (fun H locs hI => ?_)
      refine lv_topi (fun x4 e4 => ?_)
      refine lv_goto (tgt := 62) hx hb dX6_at_53 (by decide) ?_
      subst e4
      subst e3
      rw [at_ok hok hn h6 (thF2 hN hO) hi, hc, show ((-1 : Int64).toInt32) = -1 by decide]
      try rw [if_neg (show ¬ (1 : Int32) = 0 from by decide)]
      try rw [if_neg (show ¬ (1 : Int32) = 0 from by decide)]
      exact tw_iret S hr hlocks hI dX6_at_62

set_option maxHeartbeats 2000000 in
set_option maxRecDepth 100000 in
theorem c_X6_at_in (l : Launch) (D : tw_G) (ad : Nat → Nat) (b : tw_W) (σ : Sg) (h : Int32) (Q : Nat → Int32) (sz : Nat) (k i q : Nat) (hok : okM σ) (hn : k < nS σ) (h6 : k < 60) (hN : isNumK (σ.1 1 k) = false) (hO : isOneK (σ.1 1 k) = false) (hi : i < szS σ k) (hz : szS σ k ≤ 3) (hq : q < nS σ) (hq6 : q < 60) (hc : σ.2 (3 * k + i) = lN q) (hc2 : decL (σ.2 (3 * k + i)) = some q) : Met l yX6_at (tw_w yX6_at cX6_at 5 (some .int)) (tw_R 3 0 0) (tw_Pc D ad (wX b σ h Q) sz [.ref (ad 0), .int (nI k), .int (nI i)]) (tw_Q D ad (wX b ((atM σ (nI k) (nI i)).2) h Q) (tw_A ad (wX b σ h Q) sz) (some (.int (atM σ (nI k) (nI i)).1))) 0 0 (tw_A ad (wX b σ h Q) sz) := by
  refine tw_met (by decide) rfl (by simp [lg_sl, Value.category]) (fun p e s m below meth c ls S hK hr hlocks hnm hsz hI hl => ?_)
  have hx := S.1
  have hb := S.2.1
  have hl : lv_has ls 5 [(0, .ref (ad 0)), (1, .int (nI k)), (2, .int (nI i))] := hl
  refine lv_aload_n hx hb dX6_at_0 rfl (lv_at hl 0 rfl) ?_
  refine lv_iload_n hx hb dX6_at_1 rfl (lv_at hl 1 rfl) ?_
  refine tw_calla (tw_rV (As := [.int (nI k)]) (rest := []) S hK hI kX6_78 (c_X6_findItem_some l D ad _ _ _ _ _ _ hn h6) wX_0 rfl rfl ⟨Nat.le_of_ble_eq_true rfl, Nat.le_of_ble_eq_true rfl⟩ ⟨Nat.le_of_ble_eq_true rfl, Nat.le_of_ble_eq_true rfl⟩ rfl hl.1 rfl (Nat.le_of_ble_eq_true rfl) dX6_at_2) hI (fun H locs hI => ?_)
  refine lv_astore_n (lv' := [(3, .ref (ad (100 + k))), (0, .ref (ad 0)), (1, .int (nI k)), (2, .int (nI i))]) hx hb dX6_at_5 rfl hl (by decide) rfl (fun ls hl => ?_)
  refine lv_aload_n hx hb dX6_at_6 rfl (lv_at hl 0 rfl) ?_
  refine lv_ifnonnull (tgt := 17) hx hb dX6_at_7 (by decide) ?_
  refine lv_aload_n hx hb dX6_at_17 rfl (lv_at hl 0 rfl) ?_
  refine tw_inst1 (nm := RX5) S hK hI (tw_mem (by decide +kernel) rfl) (xI_th hn h6 hN hO) rfl (tw_memN (by decide +kernel) rfl) dX6_at_18 ?_
  refine lv_if_eq (tgt := 63) hx hb dX6_at_21 (by decide) (fun c1 => ?_) (fun c1 => ?_)
  · exact absurd c1 (by decide)
  · refine lv_aload_n hx hb dX6_at_24 rfl (lv_at hl 0 rfl) ?_
    refine tw_cast (nm := RX5) S hK hI (tw_mem (by decide +kernel) rfl) (xI_th hn h6 hN hO) rfl (tw_memN (by decide +kernel) rfl) dX6_at_25 ?_
    refine lv_astore (lv' := [(4, .ref (ad (100 + k))), (3, .ref (ad (100 + k))), (0, .ref (ad 0)), (1, .int (nI k)), (2, .int (nI i))]) hx hb dX6_at_28 hl (by decide) rfl (fun ls hl => ?_)
    refine lv_aload hx hb dX6_at_30 (lv_at hl 0 rfl) ?_
    refine lv_iload_n hx hb dX6_at_32 rfl (lv_at hl 4 rfl) ?_
    refine tw_calli (tw_rV (As := [.int (nI i)]) (rest := []) S hK hI kX6_88 (c_X5_hasPlace_in l D ad _ _ _ _ _ _ _ hn h6 hN hO hi hz) (xI_th hn h6 hN hO) rfl rfl ⟨Nat.le_of_ble_eq_true rfl, Nat.le_of_ble_eq_true rfl⟩ ⟨Nat.le_of_ble_eq_true rfl, Nat.le_of_ble_eq_true rfl⟩ rfl hl.1 rfl (Nat.le_of_ble_eq_true rfl) dX6_at_33) hI (fun H locs hI => ?_)
    refine lv_if_eq (tgt := 56) hx hb dX6_at_36 (by decide) (fun c2 => ?_) (fun c2 => ?_)
    · exact absurd c2 (by decide)
    · refine lv_aload_n hx hb dX6_at_39 rfl (lv_at hl 2 rfl) ?_
      refine lv_aload hx hb dX6_at_40 (lv_at hl 0 rfl) ?_
      refine f6_94_5 S hK hI (xI_th hn h6 hN hO) rfl (v' := .ref (ad (200 + k))) rfl dX6_at_42 ?_
      refine lv_iload_n hx hb dX6_at_45 rfl (lv_at hl 4 rfl) ?_
      refine xl_th (k := k) (i := i) (v := .ref (ad (100 + q))) S hK hI hn h6 hN hO hi (by omega) (by omega) (by rw [hc2]; rfl) dX6_at_46 ?_
      refine tw_calli (tw_rS (As := [.ref (ad (100 + q))]) (rest := [.ref (ad 0)]) S hK hI kX6_97 (c_X6_numberOf_some l D ad _ _ _ _ _ _ hq hq6) ⟨Nat.le_of_ble_eq_true rfl, Nat.le_of_ble_eq_true rfl⟩ ⟨Nat.le_of_ble_eq_true rfl, Nat.le_of_ble_eq_true rfl⟩ rfl hl.1 rfl (Nat.le_of_ble_eq_true rfl) dX6_at_47) hI (fun H locs hI => ?_)
      refine lv_topi (fun x3 e3 => ?_)
      refine tw_calli (tw_rV (As := [.int x3]) (rest := []) S hK hI kX6_62 (c_X6_accept l D ad _ _ _ _ _ _) wX_0 rfl rfl ⟨Nat.le_of_ble_eq_true rfl, Nat.le_of_ble_eq_true rfl⟩ ⟨Nat.le_of_ble_eq_true rfl, Nat.le_of_ble_eq_true rfl⟩ rfl hl.1 rfl (Nat.le_of_ble_eq_true rfl) dX6_at_50) hI (fun H locs hI => ?_)
      refine lv_topi (fun x4 e4 => ?_)
      refine lv_goto (tgt := 62) hx hb dX6_at_53 (by decide) ?_
      subst e4
      subst e3
      rw [at_ok hok hn h6 (thF2 hN hO) hi, hc, lN_32]
      try rw [if_neg (show ¬ (1 : Int32) = 0 from by decide)]
      try rw [if_neg (show ¬ (1 : Int32) = 0 from by decide)]
      exact tw_iret S hr hlocks hI dX6_at_62

theorem c_X6_at (l : Launch) (D : tw_G) (ad : Nat → Nat) (b : tw_W) (σ : Sg) (h : Int32) (Q : Nat → Int32) (sz : Nat) (t i : Int32) (hok : okM σ) (hT : okT σ) : Met l yX6_at (tw_w yX6_at cX6_at 5 (some .int)) (tw_R 3 0 0) (tw_Pc D ad (wX b σ h Q) sz [.ref (ad 0), .int t, .int i]) (tw_Q D ad (wX b ((atM σ t i).2) h Q) (tw_A ad (wX b σ h Q) sz) (some (.int (atM σ t i).1))) 0 0 (tw_A ad (wX b σ h Q) sz) := by
  rcases item_or σ t (okN hok).1 with hv | ⟨k, hn, h6, rfl⟩
  · exact c_X6_at_none l D ad b σ h Q sz t i hok hv
  · cases hN : isNumK (σ.1 1 k) with
    | true => exact c_X6_at_num l D ad b σ h Q sz k i hok hn h6 hN
    | false =>
      cases hO : isOneK (σ.1 1 k) with
      | true => exact c_X6_at_one l D ad b σ h Q sz k i hok hn h6 hN hO
      | false =>
        rcases place_or (szS σ k) i (okZ hok h6).1 with hi | ⟨j, hj, rfl⟩
        · exact c_X6_at_out l D ad b σ h Q sz k i hok hn h6 hN hO hi
        · rcases cell_or hok hT hn hN hj with ⟨e1, e2⟩ | ⟨q, hq, hq6, e1, e2⟩
          · exact c_X6_at_nil l D ad b σ h Q sz k j hok hn h6 hN hO hj (okZ hok h6).1 e1 e2
          · exact c_X6_at_in l D ad b σ h Q sz k j q hok hn h6 hN hO hj (okZ hok h6).1 hq hq6 e1 e2
set_option maxHeartbeats 2000000 in
set_option maxRecDepth 100000 in
theorem c_X6_is_none (l : Launch) (D : tw_G) (ad : Nat → Nat) (b : tw_W) (σ : Sg) (h : Int32) (Q : Nat → Int32) (sz : Nat) (t f : Int32) (hok : okM σ) (hkd : okKd σ) (hv : noItem σ t) : Met l yX6_is (tw_w yX6_is cX6_is 4 (some .int)) (tw_R 3 0 0) (tw_Pc D ad (wX b σ h Q) sz [.ref (ad 0), .int t, .int f]) (tw_Q D ad (wX b ((isM σ t f).2) h Q) (tw_A ad (wX b σ h Q) sz) (some (.int (isM σ t f).1))) 0 0 (tw_A ad (wX b σ h Q) sz) := by
  refine tw_met (by decide) rfl (by simp [lg_sl, Value.category]) (fun p e s m below meth c ls S hK hr hlocks hnm hsz hI hl => ?_)
  have hx := S.1
  have hb := S.2.1
  have hl : lv_has ls 4 [(0, .ref (ad 0)), (1, .int t), (2, .int f)] := hl
  refine lv_aload_n hx hb dX6_is_0 rfl (lv_at hl 0 rfl) ?_
  refine lv_iload_n hx hb dX6_is_1 rfl (lv_at hl 1 rfl) ?_
  refine tw_calla (tw_rV (As := [.int t]) (rest := []) S hK hI kX6_78 (c_X6_findItem_none l D ad _ _ _ _ _ _ (okN hok).1 hv) wX_0 rfl rfl ⟨Nat.le_of_ble_eq_true rfl, Nat.le_of_ble_eq_true rfl⟩ ⟨Nat.le_of_ble_eq_true rfl, Nat.le_of_ble_eq_true rfl⟩ rfl hl.1 rfl (Nat.le_of_ble_eq_true rfl) dX6_is_2) hI (fun H locs hI => ?_)
  refine lv_astore_nN (lv' := [(3, .null), (0, .ref (ad 0)), (1, .int t), (2, .int f)]) hx hb dX6_is_5 rfl hl (by decide) rfl (fun ls hl => ?_)
  refine lv_aload_nN hx hb dX6_is_6 rfl (lv_at hl 0 rfl) ?_
  refine lv_ifnullN (tgt := 17) hx hb dX6_is_7 (by decide) ?_
  refine lv_aload_n hx hb dX6_is_17 rfl (lv_at hl 1 rfl) ?_
  refine lv_bipush (v := (-2)) hx hb dX6_is_18 (by decide) ?_
  refine tw_calli (tw_rV (As := [.int (-2)]) (rest := []) S hK hI kX6_50 (c_X6_refuse l D ad _ _ _ _ _ _) wX_0 rfl rfl ⟨Nat.le_of_ble_eq_true rfl, Nat.le_of_ble_eq_true rfl⟩ ⟨Nat.le_of_ble_eq_true rfl, Nat.le_of_ble_eq_true rfl⟩ rfl hl.1 rfl (Nat.le_of_ble_eq_true rfl) dX6_is_20) hI (fun H locs hI => ?_)
  refine lv_topi (fun x1 e1 => ?_)
  subst e1
  rw [is_none hok hv]
  exact tw_iret S hr hlocks hI dX6_is_23

set_option maxHeartbeats 2000000 in
set_option maxRecDepth 100000 in
theorem c_X6_is_numok (l : Launch) (D : tw_G) (ad : Nat → Nat) (b : tw_W) (σ : Sg) (h : Int32) (Q : Nat → Int32) (sz : Nat) (k : Nat) (f : Int32) (hok : okM σ) (hkd : okKd σ) (hn : k < nS σ) (h6 : k < 60) (hN : isNumK (σ.1 1 k) = true) (hf : ¬ isFormF f = 0) : Met l yX6_is (tw_w yX6_is cX6_is 4 (some .int)) (tw_R 3 0 0) (tw_Pc D ad (wX b σ h Q) sz [.ref (ad 0), .int (nI k), .int f]) (tw_Q D ad (wX b ((isM σ (nI k) f).2) h Q) (tw_A ad (wX b σ h Q) sz) (some (.int (isM σ (nI k) f).1))) 0 0 (tw_A ad (wX b σ h Q) sz) := by
  refine tw_met (by decide) rfl (by simp [lg_sl, Value.category]) (fun p e s m below meth c ls S hK hr hlocks hnm hsz hI hl => ?_)
  have hx := S.1
  have hb := S.2.1
  have hl : lv_has ls 4 [(0, .ref (ad 0)), (1, .int (nI k)), (2, .int f)] := hl
  refine lv_aload_n hx hb dX6_is_0 rfl (lv_at hl 0 rfl) ?_
  refine lv_iload_n hx hb dX6_is_1 rfl (lv_at hl 1 rfl) ?_
  refine tw_calla (tw_rV (As := [.int (nI k)]) (rest := []) S hK hI kX6_78 (c_X6_findItem_some l D ad _ _ _ _ _ _ hn h6) wX_0 rfl rfl ⟨Nat.le_of_ble_eq_true rfl, Nat.le_of_ble_eq_true rfl⟩ ⟨Nat.le_of_ble_eq_true rfl, Nat.le_of_ble_eq_true rfl⟩ rfl hl.1 rfl (Nat.le_of_ble_eq_true rfl) dX6_is_2) hI (fun H locs hI => ?_)
  refine lv_astore_n (lv' := [(3, .ref (ad (100 + k))), (0, .ref (ad 0)), (1, .int (nI k)), (2, .int f)]) hx hb dX6_is_5 rfl hl (by decide) rfl (fun ls hl => ?_)
  refine lv_aload_n hx hb dX6_is_6 rfl (lv_at hl 0 rfl) ?_
  refine lv_ifnull hx hb dX6_is_7 ?_
  refine lv_iload_n hx hb dX6_is_10 rfl (lv_at hl 3 rfl) ?_
  refine tw_calli (tw_rS (As := [.int f]) (rest := []) S hK hI kX6_101 (c_X6_isForm l D ad _ _ _) ⟨Nat.le_of_ble_eq_true rfl, Nat.le_of_ble_eq_true rfl⟩ ⟨Nat.le_of_ble_eq_true rfl, Nat.le_of_ble_eq_true rfl⟩ rfl hl.1 rfl (Nat.le_of_ble_eq_true rfl) dX6_is_11) hI (fun H locs hI => ?_)
  refine lv_topi (fun x1 e1 => ?_)
  refine lv_if_ne (tgt := 24) hx hb dX6_is_14 (by decide) (fun c2 => ?_) (fun c2 => ?_)
  · refine lv_aload_n hx hb dX6_is_24 rfl (lv_at hl 1 rfl) ?_
    refine lv_aload_n hx hb dX6_is_25 rfl (lv_at hl 0 rfl) ?_
    refine lv_iload_n hx hb dX6_is_26 rfl (lv_at hl 3 rfl) ?_
    refine tw_calli (tw_rU (As := [.int f]) (rest := [.ref (ad 0)]) S hK hI kX6_104_X2 (c_X1_isOf l D ad _ _ _ _ _ _ _ hn h6) (xI_num hn h6 hN) rfl rfl ⟨Nat.le_of_ble_eq_true rfl, Nat.le_of_ble_eq_true rfl⟩ ⟨Nat.le_of_ble_eq_true rfl, Nat.le_of_ble_eq_true rfl⟩ rfl hl.1 rfl (Nat.le_of_ble_eq_true rfl) dX6_is_27) hI (fun H locs hI => ?_)
    refine lv_topi (fun x3 e3 => ?_)
    refine lv_if_eq (tgt := 37) hx hb dX6_is_30 (by decide) (fun c4 => ?_) (fun c4 => ?_)
    · refine lv_iconst (v := 0) hx hb dX6_is_37 (by decide) ?_
      refine tw_calli (tw_rV (As := [.int 0]) (rest := []) S hK hI kX6_62 (c_X6_accept l D ad _ _ _ _ _ _) wX_0 rfl rfl ⟨Nat.le_of_ble_eq_true rfl, Nat.le_of_ble_eq_true rfl⟩ ⟨Nat.le_of_ble_eq_true rfl, Nat.le_of_ble_eq_true rfl⟩ rfl hl.1 rfl (Nat.le_of_ble_eq_true rfl) dX6_is_38) hI (fun H locs hI => ?_)
      refine lv_topi (fun x5 e5 => ?_)
      subst e5
      subst e3
      subst e1
      rw [is_ok hok hkd hn h6 hf]
      try rw [if_neg hf]
      try rw [if_pos c4]
      exact tw_iret S hr hlocks hI dX6_is_41
    · refine lv_iconst (v := 1) hx hb dX6_is_33 (by decide) ?_
      refine lv_goto (tgt := 38) hx hb dX6_is_34 (by decide) ?_
      refine tw_calli (tw_rV (As := [.int 1]) (rest := []) S hK hI kX6_62 (c_X6_accept l D ad _ _ _ _ _ _) wX_0 rfl rfl ⟨Nat.le_of_ble_eq_true rfl, Nat.le_of_ble_eq_true rfl⟩ ⟨Nat.le_of_ble_eq_true rfl, Nat.le_of_ble_eq_true rfl⟩ rfl hl.1 rfl (Nat.le_of_ble_eq_true rfl) dX6_is_38) hI (fun H locs hI => ?_)
      refine lv_topi (fun x6 e6 => ?_)
      subst e6
      subst e3
      subst e1
      rw [is_ok hok hkd hn h6 hf]
      try rw [if_neg hf]
      try rw [if_neg c4]
      exact tw_iret S hr hlocks hI dX6_is_41
  · exact (by subst e1; exact absurd c2 hf)

set_option maxHeartbeats 2000000 in
set_option maxRecDepth 100000 in
theorem c_X6_is_numbad (l : Launch) (D : tw_G) (ad : Nat → Nat) (b : tw_W) (σ : Sg) (h : Int32) (Q : Nat → Int32) (sz : Nat) (k : Nat) (f : Int32) (hok : okM σ) (hkd : okKd σ) (hn : k < nS σ) (h6 : k < 60) (hN : isNumK (σ.1 1 k) = true) (hf : isFormF f = 0) : Met l yX6_is (tw_w yX6_is cX6_is 4 (some .int)) (tw_R 3 0 0) (tw_Pc D ad (wX b σ h Q) sz [.ref (ad 0), .int (nI k), .int f]) (tw_Q D ad (wX b ((isM σ (nI k) f).2) h Q) (tw_A ad (wX b σ h Q) sz) (some (.int (isM σ (nI k) f).1))) 0 0 (tw_A ad (wX b σ h Q) sz) := by
  refine tw_met (by decide) rfl (by simp [lg_sl, Value.category]) (fun p e s m below meth c ls S hK hr hlocks hnm hsz hI hl => ?_)
  have hx := S.1
  have hb := S.2.1
  have hl : lv_has ls 4 [(0, .ref (ad 0)), (1, .int (nI k)), (2, .int f)] := hl
  refine lv_aload_n hx hb dX6_is_0 rfl (lv_at hl 0 rfl) ?_
  refine lv_iload_n hx hb dX6_is_1 rfl (lv_at hl 1 rfl) ?_
  refine tw_calla (tw_rV (As := [.int (nI k)]) (rest := []) S hK hI kX6_78 (c_X6_findItem_some l D ad _ _ _ _ _ _ hn h6) wX_0 rfl rfl ⟨Nat.le_of_ble_eq_true rfl, Nat.le_of_ble_eq_true rfl⟩ ⟨Nat.le_of_ble_eq_true rfl, Nat.le_of_ble_eq_true rfl⟩ rfl hl.1 rfl (Nat.le_of_ble_eq_true rfl) dX6_is_2) hI (fun H locs hI => ?_)
  refine lv_astore_n (lv' := [(3, .ref (ad (100 + k))), (0, .ref (ad 0)), (1, .int (nI k)), (2, .int f)]) hx hb dX6_is_5 rfl hl (by decide) rfl (fun ls hl => ?_)
  refine lv_aload_n hx hb dX6_is_6 rfl (lv_at hl 0 rfl) ?_
  refine lv_ifnull hx hb dX6_is_7 ?_
  refine lv_iload_n hx hb dX6_is_10 rfl (lv_at hl 3 rfl) ?_
  refine tw_calli (tw_rS (As := [.int f]) (rest := []) S hK hI kX6_101 (c_X6_isForm l D ad _ _ _) ⟨Nat.le_of_ble_eq_true rfl, Nat.le_of_ble_eq_true rfl⟩ ⟨Nat.le_of_ble_eq_true rfl, Nat.le_of_ble_eq_true rfl⟩ rfl hl.1 rfl (Nat.le_of_ble_eq_true rfl) dX6_is_11) hI (fun H locs hI => ?_)
  refine lv_topi (fun x1 e1 => ?_)
  refine lv_if_ne (tgt := 24) hx hb dX6_is_14 (by decide) (fun c2 => ?_) (fun c2 => ?_)
  · exact (by subst e1; exact absurd hf c2)
  · refine lv_aload_n hx hb dX6_is_17 rfl (lv_at hl 1 rfl) ?_
    refine lv_bipush (v := (-2)) hx hb dX6_is_18 (by decide) ?_
    refine tw_calli (tw_rV (As := [.int (-2)]) (rest := []) S hK hI kX6_50 (c_X6_refuse l D ad _ _ _ _ _ _) wX_0 rfl rfl ⟨Nat.le_of_ble_eq_true rfl, Nat.le_of_ble_eq_true rfl⟩ ⟨Nat.le_of_ble_eq_true rfl, Nat.le_of_ble_eq_true rfl⟩ rfl hl.1 rfl (Nat.le_of_ble_eq_true rfl) dX6_is_20) hI (fun H locs hI => ?_)
    refine lv_topi (fun x3 e3 => ?_)
    subst e3
    subst e1
    rw [is_bad hok hn hf]
    try rw [if_pos hf]
    exact tw_iret S hr hlocks hI dX6_is_23

set_option maxHeartbeats 2000000 in
set_option maxRecDepth 100000 in
theorem c_X6_is_oneok (l : Launch) (D : tw_G) (ad : Nat → Nat) (b : tw_W) (σ : Sg) (h : Int32) (Q : Nat → Int32) (sz : Nat) (k : Nat) (f : Int32) (hok : okM σ) (hkd : okKd σ) (hn : k < nS σ) (h6 : k < 60) (hN : isNumK (σ.1 1 k) = false) (hO : isOneK (σ.1 1 k) = true) (hf : ¬ isFormF f = 0) : Met l yX6_is (tw_w yX6_is cX6_is 4 (some .int)) (tw_R 3 0 0) (tw_Pc D ad (wX b σ h Q) sz [.ref (ad 0), .int (nI k), .int f]) (tw_Q D ad (wX b ((isM σ (nI k) f).2) h Q) (tw_A ad (wX b σ h Q) sz) (some (.int (isM σ (nI k) f).1))) 0 0 (tw_A ad (wX b σ h Q) sz) := by
  refine tw_met (by decide) rfl (by simp [lg_sl, Value.category]) (fun p e s m below meth c ls S hK hr hlocks hnm hsz hI hl => ?_)
  have hx := S.1
  have hb := S.2.1
  have hl : lv_has ls 4 [(0, .ref (ad 0)), (1, .int (nI k)), (2, .int f)] := hl
  refine lv_aload_n hx hb dX6_is_0 rfl (lv_at hl 0 rfl) ?_
  refine lv_iload_n hx hb dX6_is_1 rfl (lv_at hl 1 rfl) ?_
  refine tw_calla (tw_rV (As := [.int (nI k)]) (rest := []) S hK hI kX6_78 (c_X6_findItem_some l D ad _ _ _ _ _ _ hn h6) wX_0 rfl rfl ⟨Nat.le_of_ble_eq_true rfl, Nat.le_of_ble_eq_true rfl⟩ ⟨Nat.le_of_ble_eq_true rfl, Nat.le_of_ble_eq_true rfl⟩ rfl hl.1 rfl (Nat.le_of_ble_eq_true rfl) dX6_is_2) hI (fun H locs hI => ?_)
  refine lv_astore_n (lv' := [(3, .ref (ad (100 + k))), (0, .ref (ad 0)), (1, .int (nI k)), (2, .int f)]) hx hb dX6_is_5 rfl hl (by decide) rfl (fun ls hl => ?_)
  refine lv_aload_n hx hb dX6_is_6 rfl (lv_at hl 0 rfl) ?_
  refine lv_ifnull hx hb dX6_is_7 ?_
  refine lv_iload_n hx hb dX6_is_10 rfl (lv_at hl 3 rfl) ?_
  refine tw_calli (tw_rS (As := [.int f]) (rest := []) S hK hI kX6_101 (c_X6_isForm l D ad _ _ _) ⟨Nat.le_of_ble_eq_true rfl, Nat.le_of_ble_eq_true rfl⟩ ⟨Nat.le_of_ble_eq_true rfl, Nat.le_of_ble_eq_true rfl⟩ rfl hl.1 rfl (Nat.le_of_ble_eq_true rfl) dX6_is_11) hI (fun H locs hI => ?_)
  refine lv_topi (fun x1 e1 => ?_)
  refine lv_if_ne (tgt := 24) hx hb dX6_is_14 (by decide) (fun c2 => ?_) (fun c2 => ?_)
  · refine lv_aload_n hx hb dX6_is_24 rfl (lv_at hl 1 rfl) ?_
    refine lv_aload_n hx hb dX6_is_25 rfl (lv_at hl 0 rfl) ?_
    refine lv_iload_n hx hb dX6_is_26 rfl (lv_at hl 3 rfl) ?_
    refine tw_calli (tw_rU (As := [.int f]) (rest := [.ref (ad 0)]) S hK hI kX6_104_X3 (c_X1_isOf l D ad _ _ _ _ _ _ _ hn h6) (xI_one hn h6 hN hO) rfl rfl ⟨Nat.le_of_ble_eq_true rfl, Nat.le_of_ble_eq_true rfl⟩ ⟨Nat.le_of_ble_eq_true rfl, Nat.le_of_ble_eq_true rfl⟩ rfl hl.1 rfl (Nat.le_of_ble_eq_true rfl) dX6_is_27) hI (fun H locs hI => ?_)
    refine lv_topi (fun x3 e3 => ?_)
    refine lv_if_eq (tgt := 37) hx hb dX6_is_30 (by decide) (fun c4 => ?_) (fun c4 => ?_)
    · refine lv_iconst (v := 0) hx hb dX6_is_37 (by decide) ?_
      refine tw_calli (tw_rV (As := [.int 0]) (rest := []) S hK hI kX6_62 (c_X6_accept l D ad _ _ _ _ _ _) wX_0 rfl rfl ⟨Nat.le_of_ble_eq_true rfl, Nat.le_of_ble_eq_true rfl⟩ ⟨Nat.le_of_ble_eq_true rfl, Nat.le_of_ble_eq_true rfl⟩ rfl hl.1 rfl (Nat.le_of_ble_eq_true rfl) dX6_is_38) hI (fun H locs hI => ?_)
      refine lv_topi (fun x5 e5 => ?_)
      subst e5
      subst e3
      subst e1
      rw [is_ok hok hkd hn h6 hf]
      try rw [if_neg hf]
      try rw [if_pos c4]
      exact tw_iret S hr hlocks hI dX6_is_41
    · refine lv_iconst (v := 1) hx hb dX6_is_33 (by decide) ?_
      refine lv_goto (tgt := 38) hx hb dX6_is_34 (by decide) ?_
      refine tw_calli (tw_rV (As := [.int 1]) (rest := []) S hK hI kX6_62 (c_X6_accept l D ad _ _ _ _ _ _) wX_0 rfl rfl ⟨Nat.le_of_ble_eq_true rfl, Nat.le_of_ble_eq_true rfl⟩ ⟨Nat.le_of_ble_eq_true rfl, Nat.le_of_ble_eq_true rfl⟩ rfl hl.1 rfl (Nat.le_of_ble_eq_true rfl) dX6_is_38) hI (fun H locs hI => ?_)
      refine lv_topi (fun x6 e6 => ?_)
      subst e6
      subst e3
      subst e1
      rw [is_ok hok hkd hn h6 hf]
      try rw [if_neg hf]
      try rw [if_neg c4]
      exact tw_iret S hr hlocks hI dX6_is_41
  · exact (by subst e1; exact absurd c2 hf)

set_option maxHeartbeats 2000000 in
set_option maxRecDepth 100000 in
theorem c_X6_is_onebad (l : Launch) (D : tw_G) (ad : Nat → Nat) (b : tw_W) (σ : Sg) (h : Int32) (Q : Nat → Int32) (sz : Nat) (k : Nat) (f : Int32) (hok : okM σ) (hkd : okKd σ) (hn : k < nS σ) (h6 : k < 60) (hN : isNumK (σ.1 1 k) = false) (hO : isOneK (σ.1 1 k) = true) (hf : isFormF f = 0) : Met l yX6_is (tw_w yX6_is cX6_is 4 (some .int)) (tw_R 3 0 0) (tw_Pc D ad (wX b σ h Q) sz [.ref (ad 0), .int (nI k), .int f]) (tw_Q D ad (wX b ((isM σ (nI k) f).2) h Q) (tw_A ad (wX b σ h Q) sz) (some (.int (isM σ (nI k) f).1))) 0 0 (tw_A ad (wX b σ h Q) sz) := by
  refine tw_met (by decide) rfl (by simp [lg_sl, Value.category]) (fun p e s m below meth c ls S hK hr hlocks hnm hsz hI hl => ?_)
  have hx := S.1
  have hb := S.2.1
  have hl : lv_has ls 4 [(0, .ref (ad 0)), (1, .int (nI k)), (2, .int f)] := hl
  refine lv_aload_n hx hb dX6_is_0 rfl (lv_at hl 0 rfl) ?_
  refine lv_iload_n hx hb dX6_is_1 rfl (lv_at hl 1 rfl) ?_
  refine tw_calla (tw_rV (As := [.int (nI k)]) (rest := []) S hK hI kX6_78 (c_X6_findItem_some l D ad _ _ _ _ _ _ hn h6) wX_0 rfl rfl ⟨Nat.le_of_ble_eq_true rfl, Nat.le_of_ble_eq_true rfl⟩ ⟨Nat.le_of_ble_eq_true rfl, Nat.le_of_ble_eq_true rfl⟩ rfl hl.1 rfl (Nat.le_of_ble_eq_true rfl) dX6_is_2) hI (fun H locs hI => ?_)
  refine lv_astore_n (lv' := [(3, .ref (ad (100 + k))), (0, .ref (ad 0)), (1, .int (nI k)), (2, .int f)]) hx hb dX6_is_5 rfl hl (by decide) rfl (fun ls hl => ?_)
  refine lv_aload_n hx hb dX6_is_6 rfl (lv_at hl 0 rfl) ?_
  refine lv_ifnull hx hb dX6_is_7 ?_
  refine lv_iload_n hx hb dX6_is_10 rfl (lv_at hl 3 rfl) ?_
  refine tw_calli (tw_rS (As := [.int f]) (rest := []) S hK hI kX6_101 (c_X6_isForm l D ad _ _ _) ⟨Nat.le_of_ble_eq_true rfl, Nat.le_of_ble_eq_true rfl⟩ ⟨Nat.le_of_ble_eq_true rfl, Nat.le_of_ble_eq_true rfl⟩ rfl hl.1 rfl (Nat.le_of_ble_eq_true rfl) dX6_is_11) hI (fun H locs hI => ?_)
  refine lv_topi (fun x1 e1 => ?_)
  refine lv_if_ne (tgt := 24) hx hb dX6_is_14 (by decide) (fun c2 => ?_) (fun c2 => ?_)
  · exact (by subst e1; exact absurd hf c2)
  · refine lv_aload_n hx hb dX6_is_17 rfl (lv_at hl 1 rfl) ?_
    refine lv_bipush (v := (-2)) hx hb dX6_is_18 (by decide) ?_
    refine tw_calli (tw_rV (As := [.int (-2)]) (rest := []) S hK hI kX6_50 (c_X6_refuse l D ad _ _ _ _ _ _) wX_0 rfl rfl ⟨Nat.le_of_ble_eq_true rfl, Nat.le_of_ble_eq_true rfl⟩ ⟨Nat.le_of_ble_eq_true rfl, Nat.le_of_ble_eq_true rfl⟩ rfl hl.1 rfl (Nat.le_of_ble_eq_true rfl) dX6_is_20) hI (fun H locs hI => ?_)
    refine lv_topi (fun x3 e3 => ?_)
    subst e3
    subst e1
    rw [is_bad hok hn hf]
    try rw [if_pos hf]
    exact tw_iret S hr hlocks hI dX6_is_23

set_option maxHeartbeats 2000000 in
set_option maxRecDepth 100000 in
theorem c_X6_is_thok (l : Launch) (D : tw_G) (ad : Nat → Nat) (b : tw_W) (σ : Sg) (h : Int32) (Q : Nat → Int32) (sz : Nat) (k : Nat) (f : Int32) (hok : okM σ) (hkd : okKd σ) (hn : k < nS σ) (h6 : k < 60) (hN : isNumK (σ.1 1 k) = false) (hO : isOneK (σ.1 1 k) = false) (hf : ¬ isFormF f = 0) : Met l yX6_is (tw_w yX6_is cX6_is 4 (some .int)) (tw_R 3 0 0) (tw_Pc D ad (wX b σ h Q) sz [.ref (ad 0), .int (nI k), .int f]) (tw_Q D ad (wX b ((isM σ (nI k) f).2) h Q) (tw_A ad (wX b σ h Q) sz) (some (.int (isM σ (nI k) f).1))) 0 0 (tw_A ad (wX b σ h Q) sz) := by
  refine tw_met (by decide) rfl (by simp [lg_sl, Value.category]) (fun p e s m below meth c ls S hK hr hlocks hnm hsz hI hl => ?_)
  have hx := S.1
  have hb := S.2.1
  have hl : lv_has ls 4 [(0, .ref (ad 0)), (1, .int (nI k)), (2, .int f)] := hl
  refine lv_aload_n hx hb dX6_is_0 rfl (lv_at hl 0 rfl) ?_
  refine lv_iload_n hx hb dX6_is_1 rfl (lv_at hl 1 rfl) ?_
  refine tw_calla (tw_rV (As := [.int (nI k)]) (rest := []) S hK hI kX6_78 (c_X6_findItem_some l D ad _ _ _ _ _ _ hn h6) wX_0 rfl rfl ⟨Nat.le_of_ble_eq_true rfl, Nat.le_of_ble_eq_true rfl⟩ ⟨Nat.le_of_ble_eq_true rfl, Nat.le_of_ble_eq_true rfl⟩ rfl hl.1 rfl (Nat.le_of_ble_eq_true rfl) dX6_is_2) hI (fun H locs hI => ?_)
  refine lv_astore_n (lv' := [(3, .ref (ad (100 + k))), (0, .ref (ad 0)), (1, .int (nI k)), (2, .int f)]) hx hb dX6_is_5 rfl hl (by decide) rfl (fun ls hl => ?_)
  refine lv_aload_n hx hb dX6_is_6 rfl (lv_at hl 0 rfl) ?_
  refine lv_ifnull hx hb dX6_is_7 ?_
  refine lv_iload_n hx hb dX6_is_10 rfl (lv_at hl 3 rfl) ?_
  refine tw_calli (tw_rS (As := [.int f]) (rest := []) S hK hI kX6_101 (c_X6_isForm l D ad _ _ _) ⟨Nat.le_of_ble_eq_true rfl, Nat.le_of_ble_eq_true rfl⟩ ⟨Nat.le_of_ble_eq_true rfl, Nat.le_of_ble_eq_true rfl⟩ rfl hl.1 rfl (Nat.le_of_ble_eq_true rfl) dX6_is_11) hI (fun H locs hI => ?_)
  refine lv_topi (fun x1 e1 => ?_)
  refine lv_if_ne (tgt := 24) hx hb dX6_is_14 (by decide) (fun c2 => ?_) (fun c2 => ?_)
  · refine lv_aload_n hx hb dX6_is_24 rfl (lv_at hl 1 rfl) ?_
    refine lv_aload_n hx hb dX6_is_25 rfl (lv_at hl 0 rfl) ?_
    refine lv_iload_n hx hb dX6_is_26 rfl (lv_at hl 3 rfl) ?_
    refine tw_calli (tw_rU (As := [.int f]) (rest := [.ref (ad 0)]) S hK hI kX6_104_X5 (c_X1_isOf l D ad _ _ _ _ _ _ _ hn h6) (xI_th hn h6 hN hO) rfl rfl ⟨Nat.le_of_ble_eq_true rfl, Nat.le_of_ble_eq_true rfl⟩ ⟨Nat.le_of_ble_eq_true rfl, Nat.le_of_ble_eq_true rfl⟩ rfl hl.1 rfl (Nat.le_of_ble_eq_true rfl) dX6_is_27) hI (fun H locs hI => ?_)
    refine lv_topi (fun x3 e3 => ?_)
    refine lv_if_eq (tgt := 37) hx hb dX6_is_30 (by decide) (fun c4 => ?_) (fun c4 => ?_)
    · refine lv_iconst (v := 0) hx hb dX6_is_37 (by decide) ?_
      refine tw_calli (tw_rV (As := [.int 0]) (rest := []) S hK hI kX6_62 (c_X6_accept l D ad _ _ _ _ _ _) wX_0 rfl rfl ⟨Nat.le_of_ble_eq_true rfl, Nat.le_of_ble_eq_true rfl⟩ ⟨Nat.le_of_ble_eq_true rfl, Nat.le_of_ble_eq_true rfl⟩ rfl hl.1 rfl (Nat.le_of_ble_eq_true rfl) dX6_is_38) hI (fun H locs hI => ?_)
      refine lv_topi (fun x5 e5 => ?_)
      subst e5
      subst e3
      subst e1
      rw [is_ok hok hkd hn h6 hf]
      try rw [if_neg hf]
      try rw [if_pos c4]
      exact tw_iret S hr hlocks hI dX6_is_41
    · refine lv_iconst (v := 1) hx hb dX6_is_33 (by decide) ?_
      refine lv_goto (tgt := 38) hx hb dX6_is_34 (by decide) ?_
      refine tw_calli (tw_rV (As := [.int 1]) (rest := []) S hK hI kX6_62 (c_X6_accept l D ad _ _ _ _ _ _) wX_0 rfl rfl ⟨Nat.le_of_ble_eq_true rfl, Nat.le_of_ble_eq_true rfl⟩ ⟨Nat.le_of_ble_eq_true rfl, Nat.le_of_ble_eq_true rfl⟩ rfl hl.1 rfl (Nat.le_of_ble_eq_true rfl) dX6_is_38) hI (fun H locs hI => ?_)
      refine lv_topi (fun x6 e6 => ?_)
      subst e6
      subst e3
      subst e1
      rw [is_ok hok hkd hn h6 hf]
      try rw [if_neg hf]
      try rw [if_neg c4]
      exact tw_iret S hr hlocks hI dX6_is_41
  · exact (by subst e1; exact absurd c2 hf)

set_option maxHeartbeats 2000000 in
set_option maxRecDepth 100000 in
theorem c_X6_is_thbad (l : Launch) (D : tw_G) (ad : Nat → Nat) (b : tw_W) (σ : Sg) (h : Int32) (Q : Nat → Int32) (sz : Nat) (k : Nat) (f : Int32) (hok : okM σ) (hkd : okKd σ) (hn : k < nS σ) (h6 : k < 60) (hN : isNumK (σ.1 1 k) = false) (hO : isOneK (σ.1 1 k) = false) (hf : isFormF f = 0) : Met l yX6_is (tw_w yX6_is cX6_is 4 (some .int)) (tw_R 3 0 0) (tw_Pc D ad (wX b σ h Q) sz [.ref (ad 0), .int (nI k), .int f]) (tw_Q D ad (wX b ((isM σ (nI k) f).2) h Q) (tw_A ad (wX b σ h Q) sz) (some (.int (isM σ (nI k) f).1))) 0 0 (tw_A ad (wX b σ h Q) sz) := by
  refine tw_met (by decide) rfl (by simp [lg_sl, Value.category]) (fun p e s m below meth c ls S hK hr hlocks hnm hsz hI hl => ?_)
  have hx := S.1
  have hb := S.2.1
  have hl : lv_has ls 4 [(0, .ref (ad 0)), (1, .int (nI k)), (2, .int f)] := hl
  refine lv_aload_n hx hb dX6_is_0 rfl (lv_at hl 0 rfl) ?_
  refine lv_iload_n hx hb dX6_is_1 rfl (lv_at hl 1 rfl) ?_
  refine tw_calla (tw_rV (As := [.int (nI k)]) (rest := []) S hK hI kX6_78 (c_X6_findItem_some l D ad _ _ _ _ _ _ hn h6) wX_0 rfl rfl ⟨Nat.le_of_ble_eq_true rfl, Nat.le_of_ble_eq_true rfl⟩ ⟨Nat.le_of_ble_eq_true rfl, Nat.le_of_ble_eq_true rfl⟩ rfl hl.1 rfl (Nat.le_of_ble_eq_true rfl) dX6_is_2) hI (fun H locs hI => ?_)
  refine lv_astore_n (lv' := [(3, .ref (ad (100 + k))), (0, .ref (ad 0)), (1, .int (nI k)), (2, .int f)]) hx hb dX6_is_5 rfl hl (by decide) rfl (fun ls hl => ?_)
  refine lv_aload_n hx hb dX6_is_6 rfl (lv_at hl 0 rfl) ?_
  refine lv_ifnull hx hb dX6_is_7 ?_
  refine lv_iload_n hx hb dX6_is_10 rfl (lv_at hl 3 rfl) ?_
  refine tw_calli (tw_rS (As := [.int f]) (rest := []) S hK hI kX6_101 (c_X6_isForm l D ad _ _ _) ⟨Nat.le_of_ble_eq_true rfl, Nat.le_of_ble_eq_true rfl⟩ ⟨Nat.le_of_ble_eq_true rfl, Nat.le_of_ble_eq_true rfl⟩ rfl hl.1 rfl (Nat.le_of_ble_eq_true rfl) dX6_is_11) hI (fun H locs hI => ?_)
  refine lv_topi (fun x1 e1 => ?_)
  refine lv_if_ne (tgt := 24) hx hb dX6_is_14 (by decide) (fun c2 => ?_) (fun c2 => ?_)
  · exact (by subst e1; exact absurd hf c2)
  · refine lv_aload_n hx hb dX6_is_17 rfl (lv_at hl 1 rfl) ?_
    refine lv_bipush (v := (-2)) hx hb dX6_is_18 (by decide) ?_
    refine tw_calli (tw_rV (As := [.int (-2)]) (rest := []) S hK hI kX6_50 (c_X6_refuse l D ad _ _ _ _ _ _) wX_0 rfl rfl ⟨Nat.le_of_ble_eq_true rfl, Nat.le_of_ble_eq_true rfl⟩ ⟨Nat.le_of_ble_eq_true rfl, Nat.le_of_ble_eq_true rfl⟩ rfl hl.1 rfl (Nat.le_of_ble_eq_true rfl) dX6_is_20) hI (fun H locs hI => ?_)
    refine lv_topi (fun x3 e3 => ?_)
    subst e3
    subst e1
    rw [is_bad hok hn hf]
    try rw [if_pos hf]
    exact tw_iret S hr hlocks hI dX6_is_23

theorem c_X6_is (l : Launch) (D : tw_G) (ad : Nat → Nat) (b : tw_W) (σ : Sg) (h : Int32) (Q : Nat → Int32) (sz : Nat) (t f : Int32) (hok : okM σ) (hkd : okKd σ) : Met l yX6_is (tw_w yX6_is cX6_is 4 (some .int)) (tw_R 3 0 0) (tw_Pc D ad (wX b σ h Q) sz [.ref (ad 0), .int t, .int f]) (tw_Q D ad (wX b ((isM σ t f).2) h Q) (tw_A ad (wX b σ h Q) sz) (some (.int (isM σ t f).1))) 0 0 (tw_A ad (wX b σ h Q) sz) := by
  rcases item_or σ t (okN hok).1 with hv | ⟨k, hn, h6, rfl⟩
  · exact c_X6_is_none l D ad b σ h Q sz t f hok hkd hv
  · by_cases hf : isFormF f = 0
    · cases hN : isNumK (σ.1 1 k) with
      | true => exact c_X6_is_numbad l D ad b σ h Q sz k f hok hkd hn h6 hN hf
      | false =>
        cases hO : isOneK (σ.1 1 k) with
        | true => exact c_X6_is_onebad l D ad b σ h Q sz k f hok hkd hn h6 hN hO hf
        | false => exact c_X6_is_thbad l D ad b σ h Q sz k f hok hkd hn h6 hN hO hf
    · cases hN : isNumK (σ.1 1 k) with
      | true => exact c_X6_is_numok l D ad b σ h Q sz k f hok hkd hn h6 hN hf
      | false =>
        cases hO : isOneK (σ.1 1 k) with
        | true => exact c_X6_is_oneok l D ad b σ h Q sz k f hok hkd hn h6 hN hO hf
        | false => exact c_X6_is_thok l D ad b σ h Q sz k f hok hkd hn h6 hN hO hf
set_option maxHeartbeats 2000000 in
set_option maxRecDepth 100000 in
theorem c_X6_stamps_none (l : Launch) (D : tw_G) (ad : Nat → Nat) (b : tw_W) (σ : Sg) (h : Int32) (Q : Nat → Int32) (sz : Nat) (t : Int32) (hok : okM σ) (hv : noItem σ t) : Met l yX6_stamps (tw_w yX6_stamps cX6_stamps 4 (some .int)) (tw_R 3 0 0) (tw_Pc D ad (wX b σ h Q) sz [.ref (ad 0), .int t]) (tw_Q D ad (wX b ((stampsM σ t).2) h Q) (tw_A ad (wX b σ h Q) sz) (some (.int (stampsM σ t).1))) 0 0 (tw_A ad (wX b σ h Q) sz) := by
  refine tw_met (by decide) rfl (by simp [lg_sl, Value.category]) (fun p e s m below meth c ls S hK hr hlocks hnm hsz hI hl => ?_)
  have hx := S.1
  have hb := S.2.1
  have hl : lv_has ls 4 [(0, .ref (ad 0)), (1, .int t)] := hl
  refine lv_aload_n hx hb dX6_stamps_0 rfl (lv_at hl 0 rfl) ?_
  refine lv_iload_n hx hb dX6_stamps_1 rfl (lv_at hl 1 rfl) ?_
  refine tw_calla (tw_rV (As := [.int t]) (rest := []) S hK hI kX6_78 (c_X6_findItem_none l D ad _ _ _ _ _ _ (okN hok).1 hv) wX_0 rfl rfl ⟨Nat.le_of_ble_eq_true rfl, Nat.le_of_ble_eq_true rfl⟩ ⟨Nat.le_of_ble_eq_true rfl, Nat.le_of_ble_eq_true rfl⟩ rfl hl.1 rfl (Nat.le_of_ble_eq_true rfl) dX6_stamps_2) hI (fun H locs hI => ?_)
  refine lv_astore_nN (lv' := [(2, .null), (0, .ref (ad 0)), (1, .int t)]) hx hb dX6_stamps_5 rfl hl (by decide) rfl (fun ls hl => ?_)
  refine lv_aload_nN hx hb dX6_stamps_6 rfl (lv_at hl 0 rfl) ?_
  refine lv_instN hx hb dX6_stamps_7 ?_
  refine lv_if_eq (tgt := 27) hx hb dX6_stamps_10 (by decide) (fun c1 => ?_) (fun c1 => ?_)
  · refine lv_aload_n hx hb dX6_stamps_27 rfl (lv_at hl 1 rfl) ?_
    refine lv_aload_nN hx hb dX6_stamps_28 rfl (lv_at hl 0 rfl) ?_
    refine lv_ifnonnullN hx hb dX6_stamps_29 ?_
    refine lv_bipush (v := (-2)) hx hb dX6_stamps_32 (by decide) ?_
    refine lv_goto (tgt := 39) hx hb dX6_stamps_34 (by decide) ?_
    refine tw_calli (tw_rV (As := [.int (-2)]) (rest := []) S hK hI kX6_50 (c_X6_refuse l D ad _ _ _ _ _ _) wX_0 rfl rfl ⟨Nat.le_of_ble_eq_true rfl, Nat.le_of_ble_eq_true rfl⟩ ⟨Nat.le_of_ble_eq_true rfl, Nat.le_of_ble_eq_true rfl⟩ rfl hl.1 rfl (Nat.le_of_ble_eq_true rfl) dX6_stamps_39) hI (fun H locs hI => ?_)
    refine lv_topi (fun x2 e2 => ?_)
    refine lv_pop hx hb dX6_stamps_42 rfl ?_
    refine lv_iconst (v := 0) hx hb dX6_stamps_43 (by decide) ?_
    subst e2
    rw [st_none hok hv]
    try rw [if_pos (show (0 : Int32) = 0 from by decide)]
    exact tw_iret S hr hlocks hI dX6_stamps_44
  · exact absurd c1 (by decide)

set_option maxHeartbeats 2000000 in
set_option maxRecDepth 100000 in
theorem c_X6_stamps_num (l : Launch) (D : tw_G) (ad : Nat → Nat) (b : tw_W) (σ : Sg) (h : Int32) (Q : Nat → Int32) (sz : Nat) (k : Nat) (hok : okM σ) (hn : k < nS σ) (h6 : k < 60) (hN : isNumK (σ.1 1 k) = true) : Met l yX6_stamps (tw_w yX6_stamps cX6_stamps 4 (some .int)) (tw_R 3 0 0) (tw_Pc D ad (wX b σ h Q) sz [.ref (ad 0), .int (nI k)]) (tw_Q D ad (wX b ((stampsM σ (nI k)).2) h Q) (tw_A ad (wX b σ h Q) sz) (some (.int (stampsM σ (nI k)).1))) 0 0 (tw_A ad (wX b σ h Q) sz) := by
  refine tw_met (by decide) rfl (by simp [lg_sl, Value.category]) (fun p e s m below meth c ls S hK hr hlocks hnm hsz hI hl => ?_)
  have hx := S.1
  have hb := S.2.1
  have hl : lv_has ls 4 [(0, .ref (ad 0)), (1, .int (nI k))] := hl
  refine lv_aload_n hx hb dX6_stamps_0 rfl (lv_at hl 0 rfl) ?_
  refine lv_iload_n hx hb dX6_stamps_1 rfl (lv_at hl 1 rfl) ?_
  refine tw_calla (tw_rV (As := [.int (nI k)]) (rest := []) S hK hI kX6_78 (c_X6_findItem_some l D ad _ _ _ _ _ _ hn h6) wX_0 rfl rfl ⟨Nat.le_of_ble_eq_true rfl, Nat.le_of_ble_eq_true rfl⟩ ⟨Nat.le_of_ble_eq_true rfl, Nat.le_of_ble_eq_true rfl⟩ rfl hl.1 rfl (Nat.le_of_ble_eq_true rfl) dX6_stamps_2) hI (fun H locs hI => ?_)
  refine lv_astore_n (lv' := [(2, .ref (ad (100 + k))), (0, .ref (ad 0)), (1, .int (nI k))]) hx hb dX6_stamps_5 rfl hl (by decide) rfl (fun ls hl => ?_)
  refine lv_aload_n hx hb dX6_stamps_6 rfl (lv_at hl 0 rfl) ?_
  refine tw_inst0 (nm := RX3) S hK hI (tw_mem (by decide +kernel) rfl) (xI_num hn h6 hN) rfl (by decide) dX6_stamps_7 ?_
  refine lv_if_eq (tgt := 27) hx hb dX6_stamps_10 (by decide) (fun c1 => ?_) (fun c1 => ?_)
  · refine lv_aload_n hx hb dX6_stamps_27 rfl (lv_at hl 1 rfl) ?_
    refine lv_aload_n hx hb dX6_stamps_28 rfl (lv_at hl 0 rfl) ?_
    refine lv_ifnonnull (tgt := 37) hx hb dX6_stamps_29 (by decide) ?_
    refine lv_bipush (v := (-4)) hx hb dX6_stamps_37 (by decide) ?_
    refine tw_calli (tw_rV (As := [.int (-4)]) (rest := []) S hK hI kX6_50 (c_X6_refuse l D ad _ _ _ _ _ _) wX_0 rfl rfl ⟨Nat.le_of_ble_eq_true rfl, Nat.le_of_ble_eq_true rfl⟩ ⟨Nat.le_of_ble_eq_true rfl, Nat.le_of_ble_eq_true rfl⟩ rfl hl.1 rfl (Nat.le_of_ble_eq_true rfl) dX6_stamps_39) hI (fun H locs hI => ?_)
    refine lv_topi (fun x2 e2 => ?_)
    refine lv_pop hx hb dX6_stamps_42 rfl ?_
    refine lv_iconst (v := 0) hx hb dX6_stamps_43 (by decide) ?_
    subst e2
    rw [st_cast hok hn h6 (oneF_num hN)]
    try rw [if_pos (show (0 : Int32) = 0 from by decide)]
    exact tw_iret S hr hlocks hI dX6_stamps_44
  · exact absurd c1 (by decide)

set_option maxHeartbeats 2000000 in
set_option maxRecDepth 100000 in
theorem c_X6_stamps_th (l : Launch) (D : tw_G) (ad : Nat → Nat) (b : tw_W) (σ : Sg) (h : Int32) (Q : Nat → Int32) (sz : Nat) (k : Nat) (hok : okM σ) (hn : k < nS σ) (h6 : k < 60) (hN : isNumK (σ.1 1 k) = false) (hO : isOneK (σ.1 1 k) = false) : Met l yX6_stamps (tw_w yX6_stamps cX6_stamps 4 (some .int)) (tw_R 3 0 0) (tw_Pc D ad (wX b σ h Q) sz [.ref (ad 0), .int (nI k)]) (tw_Q D ad (wX b ((stampsM σ (nI k)).2) h Q) (tw_A ad (wX b σ h Q) sz) (some (.int (stampsM σ (nI k)).1))) 0 0 (tw_A ad (wX b σ h Q) sz) := by
  refine tw_met (by decide) rfl (by simp [lg_sl, Value.category]) (fun p e s m below meth c ls S hK hr hlocks hnm hsz hI hl => ?_)
  have hx := S.1
  have hb := S.2.1
  have hl : lv_has ls 4 [(0, .ref (ad 0)), (1, .int (nI k))] := hl
  refine lv_aload_n hx hb dX6_stamps_0 rfl (lv_at hl 0 rfl) ?_
  refine lv_iload_n hx hb dX6_stamps_1 rfl (lv_at hl 1 rfl) ?_
  refine tw_calla (tw_rV (As := [.int (nI k)]) (rest := []) S hK hI kX6_78 (c_X6_findItem_some l D ad _ _ _ _ _ _ hn h6) wX_0 rfl rfl ⟨Nat.le_of_ble_eq_true rfl, Nat.le_of_ble_eq_true rfl⟩ ⟨Nat.le_of_ble_eq_true rfl, Nat.le_of_ble_eq_true rfl⟩ rfl hl.1 rfl (Nat.le_of_ble_eq_true rfl) dX6_stamps_2) hI (fun H locs hI => ?_)
  refine lv_astore_n (lv' := [(2, .ref (ad (100 + k))), (0, .ref (ad 0)), (1, .int (nI k))]) hx hb dX6_stamps_5 rfl hl (by decide) rfl (fun ls hl => ?_)
  refine lv_aload_n hx hb dX6_stamps_6 rfl (lv_at hl 0 rfl) ?_
  refine tw_inst0 (nm := RX3) S hK hI (tw_mem (by decide +kernel) rfl) (xI_th hn h6 hN hO) rfl (by decide) dX6_stamps_7 ?_
  refine lv_if_eq (tgt := 27) hx hb dX6_stamps_10 (by decide) (fun c1 => ?_) (fun c1 => ?_)
  · refine lv_aload_n hx hb dX6_stamps_27 rfl (lv_at hl 1 rfl) ?_
    refine lv_aload_n hx hb dX6_stamps_28 rfl (lv_at hl 0 rfl) ?_
    refine lv_ifnonnull (tgt := 37) hx hb dX6_stamps_29 (by decide) ?_
    refine lv_bipush (v := (-4)) hx hb dX6_stamps_37 (by decide) ?_
    refine tw_calli (tw_rV (As := [.int (-4)]) (rest := []) S hK hI kX6_50 (c_X6_refuse l D ad _ _ _ _ _ _) wX_0 rfl rfl ⟨Nat.le_of_ble_eq_true rfl, Nat.le_of_ble_eq_true rfl⟩ ⟨Nat.le_of_ble_eq_true rfl, Nat.le_of_ble_eq_true rfl⟩ rfl hl.1 rfl (Nat.le_of_ble_eq_true rfl) dX6_stamps_39) hI (fun H locs hI => ?_)
    refine lv_topi (fun x2 e2 => ?_)
    refine lv_pop hx hb dX6_stamps_42 rfl ?_
    refine lv_iconst (v := 0) hx hb dX6_stamps_43 (by decide) ?_
    subst e2
    rw [st_cast hok hn h6 hO]
    try rw [if_pos (show (0 : Int32) = 0 from by decide)]
    exact tw_iret S hr hlocks hI dX6_stamps_44
  · exact absurd c1 (by decide)

set_option maxHeartbeats 2000000 in
set_option maxRecDepth 100000 in
theorem c_X6_stamps_one (l : Launch) (D : tw_G) (ad : Nat → Nat) (b : tw_W) (σ : Sg) (h : Int32) (Q : Nat → Int32) (sz : Nat) (k : Nat) (hok : okM σ) (hn : k < nS σ) (h6 : k < 60) (hN : isNumK (σ.1 1 k) = false) (hO : isOneK (σ.1 1 k) = true) : Met l yX6_stamps (tw_w yX6_stamps cX6_stamps 4 (some .int)) (tw_R 3 0 0) (tw_Pc D ad (wX b σ h Q) sz [.ref (ad 0), .int (nI k)]) (tw_Q D ad (wX b ((stampsM σ (nI k)).2) h Q) (tw_A ad (wX b σ h Q) sz) (some (.int (stampsM σ (nI k)).1))) 0 0 (tw_A ad (wX b σ h Q) sz) := by
  refine tw_met (by decide) rfl (by simp [lg_sl, Value.category]) (fun p e s m below meth c ls S hK hr hlocks hnm hsz hI hl => ?_)
  have hx := S.1
  have hb := S.2.1
  have hl : lv_has ls 4 [(0, .ref (ad 0)), (1, .int (nI k))] := hl
  refine lv_aload_n hx hb dX6_stamps_0 rfl (lv_at hl 0 rfl) ?_
  refine lv_iload_n hx hb dX6_stamps_1 rfl (lv_at hl 1 rfl) ?_
  refine tw_calla (tw_rV (As := [.int (nI k)]) (rest := []) S hK hI kX6_78 (c_X6_findItem_some l D ad _ _ _ _ _ _ hn h6) wX_0 rfl rfl ⟨Nat.le_of_ble_eq_true rfl, Nat.le_of_ble_eq_true rfl⟩ ⟨Nat.le_of_ble_eq_true rfl, Nat.le_of_ble_eq_true rfl⟩ rfl hl.1 rfl (Nat.le_of_ble_eq_true rfl) dX6_stamps_2) hI (fun H locs hI => ?_)
  refine lv_astore_n (lv' := [(2, .ref (ad (100 + k))), (0, .ref (ad 0)), (1, .int (nI k))]) hx hb dX6_stamps_5 rfl hl (by decide) rfl (fun ls hl => ?_)
  refine lv_aload_n hx hb dX6_stamps_6 rfl (lv_at hl 0 rfl) ?_
  refine tw_inst1 (nm := RX3) S hK hI (tw_mem (by decide +kernel) rfl) (xI_one hn h6 hN hO) rfl (tw_memN (by decide +kernel) rfl) dX6_stamps_7 ?_
  refine lv_if_eq (tgt := 27) hx hb dX6_stamps_10 (by decide) (fun c1 => ?_) (fun c1 => ?_)
  · exact absurd c1 (by decide)
  · refine lv_aload_n hx hb dX6_stamps_13 rfl (lv_at hl 0 rfl) ?_
    refine tw_cast (nm := RX3) S hK hI (tw_mem (by decide +kernel) rfl) (xI_one hn h6 hN hO) rfl (tw_memN (by decide +kernel) rfl) dX6_stamps_14 ?_
    refine lv_astore_n (lv' := [(3, .ref (ad (100 + k))), (2, .ref (ad (100 + k))), (0, .ref (ad 0)), (1, .int (nI k))]) hx hb dX6_stamps_17 rfl hl (by decide) rfl (fun ls hl => ?_)
    refine lv_aload_n hx hb dX6_stamps_18 rfl (lv_at hl 2 rfl) ?_
    refine lv_aload_n hx hb dX6_stamps_19 rfl (lv_at hl 0 rfl) ?_
    refine f6_109_3 S hK hI (xI_one hn h6 hN hO) rfl (v' := .int (σ.1 3 k)) rfl dX6_stamps_20 ?_
    refine lv_topi (fun x2 e2 => ?_)
    refine tw_calli (tw_rV (As := [.int x2]) (rest := []) S hK hI kX6_62 (c_X6_accept l D ad _ _ _ _ _ _) wX_0 rfl rfl ⟨Nat.le_of_ble_eq_true rfl, Nat.le_of_ble_eq_true rfl⟩ ⟨Nat.le_of_ble_eq_true rfl, Nat.le_of_ble_eq_true rfl⟩ rfl hl.1 rfl (Nat.le_of_ble_eq_true rfl) dX6_stamps_23) hI (fun H locs hI => ?_)
    refine lv_topi (fun x3 e3 => ?_)
    subst e3
    subst e2
    rw [st_ok hok hn h6 hO]
    try rw [if_neg (show ¬ (1 : Int32) = 0 from by decide)]
    exact tw_iret S hr hlocks hI dX6_stamps_26

theorem c_X6_stamps (l : Launch) (D : tw_G) (ad : Nat → Nat) (b : tw_W) (σ : Sg) (h : Int32) (Q : Nat → Int32) (sz : Nat) (t : Int32) (hok : okM σ) : Met l yX6_stamps (tw_w yX6_stamps cX6_stamps 4 (some .int)) (tw_R 3 0 0) (tw_Pc D ad (wX b σ h Q) sz [.ref (ad 0), .int t]) (tw_Q D ad (wX b ((stampsM σ t).2) h Q) (tw_A ad (wX b σ h Q) sz) (some (.int (stampsM σ t).1))) 0 0 (tw_A ad (wX b σ h Q) sz) := by
  rcases item_or σ t (okN hok).1 with hv | ⟨k, hn, h6, rfl⟩
  · exact c_X6_stamps_none l D ad b σ h Q sz t hok hv
  · cases hN : isNumK (σ.1 1 k) with
    | true => exact c_X6_stamps_num l D ad b σ h Q sz k hok hn h6 hN
    | false =>
      cases hO : isOneK (σ.1 1 k) with
      | true => exact c_X6_stamps_one l D ad b σ h Q sz k hok hn h6 hN hO
      | false => exact c_X6_stamps_th l D ad b σ h Q sz k hok hn h6 hN hO
set_option maxHeartbeats 2000000 in
set_option maxRecDepth 100000 in
theorem c_X6_count (l : Launch) (D : tw_G) (ad : Nat → Nat) (b : tw_W) (σ : Sg) (h : Int32) (Q : Nat → Int32) (sz : Nat) (wh : Int32) : Met l yX6_count (tw_w yX6_count cX6_count 2 (some .int)) (tw_R 0 0 0) (tw_Pc D ad (wX b σ h Q) sz [.ref (ad 0), .int wh]) (tw_Q D ad (wX b (σ) h Q) (tw_A ad (wX b σ h Q) sz) (some (.int (countM σ wh)))) 0 0 (tw_A ad (wX b σ h Q) sz) := by
  refine tw_met (by decide) rfl (by simp [lg_sl, Value.category]) (fun p e s m below meth c ls S hK hr hlocks hnm hsz hI hl => ?_)
  have hx := S.1
  have hb := S.2.1
  have hl : lv_has ls 2 [(0, .ref (ad 0)), (1, .int wh)] := hl
  refine lv_iload_n hx hb dX6_count_0 rfl (lv_at hl 1 rfl) ?_
  rcases tsw_0_4 wh with h1 | h1 | h1 | h1 | h1 | ⟨h1, n1_0, n1_1, n1_2, n1_3, n1_4⟩
  · have n1_1 : ¬ wh = 1 := by rw [h1]; decide
    have n1_2 : ¬ wh = 2 := by rw [h1]; decide
    have n1_3 : ¬ wh = 3 := by rw [h1]; decide
    have n1_4 : ¬ wh = 4 := by rw [h1]; decide
    refine lv_tableIn (off := 35) (tgt := 36) hx hb dX6_count_1 (by rw [h1]; decide) (by rw [h1]; decide) (by rw [h1]; decide) (by decide) ?_
    refine lv_aload_n hx hb dX6_count_36 rfl (lv_at hl 0 rfl) ?_
    refine gx_21 S hK hI dX6_count_37 ?_
    refine lv_topi (fun x2 e2 => ?_)
    subst e2
    unfold countM
    try rw [if_pos h1]
    exact tw_iret S hr hlocks hI dX6_count_40
  · have n1_0 : ¬ wh = 0 := by rw [h1]; decide
    have n1_2 : ¬ wh = 2 := by rw [h1]; decide
    have n1_3 : ¬ wh = 3 := by rw [h1]; decide
    have n1_4 : ¬ wh = 4 := by rw [h1]; decide
    refine lv_tableIn (off := 40) (tgt := 41) hx hb dX6_count_1 (by rw [h1]; decide) (by rw [h1]; decide) (by rw [h1]; decide) (by decide) ?_
    refine lv_aload_n hx hb dX6_count_41 rfl (lv_at hl 0 rfl) ?_
    refine gx_37 S hK hI dX6_count_42 ?_
    refine lv_topi (fun x3 e3 => ?_)
    subst e3
    unfold countM
    try rw [if_neg n1_0]
    try rw [if_pos h1]
    exact tw_iret S hr hlocks hI dX6_count_45
  · have n1_0 : ¬ wh = 0 := by rw [h1]; decide
    have n1_1 : ¬ wh = 1 := by rw [h1]; decide
    have n1_3 : ¬ wh = 3 := by rw [h1]; decide
    have n1_4 : ¬ wh = 4 := by rw [h1]; decide
    refine lv_tableIn (off := 45) (tgt := 46) hx hb dX6_count_1 (by rw [h1]; decide) (by rw [h1]; decide) (by rw [h1]; decide) (by decide) ?_
    refine lv_aload_n hx hb dX6_count_46 rfl (lv_at hl 0 rfl) ?_
    refine gx_40 S hK hI dX6_count_47 ?_
    refine lv_topi (fun x4 e4 => ?_)
    subst e4
    unfold countM
    try rw [if_neg n1_0]
    try rw [if_neg n1_1]
    try rw [if_pos h1]
    exact tw_iret S hr hlocks hI dX6_count_50
  · have n1_0 : ¬ wh = 0 := by rw [h1]; decide
    have n1_1 : ¬ wh = 1 := by rw [h1]; decide
    have n1_2 : ¬ wh = 2 := by rw [h1]; decide
    have n1_4 : ¬ wh = 4 := by rw [h1]; decide
    refine lv_tableIn (off := 50) (tgt := 51) hx hb dX6_count_1 (by rw [h1]; decide) (by rw [h1]; decide) (by rw [h1]; decide) (by decide) ?_
    refine lv_aload_n hx hb dX6_count_51 rfl (lv_at hl 0 rfl) ?_
    refine gx_43 S hK hI dX6_count_52 ?_
    refine lv_topi (fun x5 e5 => ?_)
    subst e5
    unfold countM
    try rw [if_neg n1_0]
    try rw [if_neg n1_1]
    try rw [if_neg n1_2]
    try rw [if_pos h1]
    exact tw_iret S hr hlocks hI dX6_count_55
  · have n1_0 : ¬ wh = 0 := by rw [h1]; decide
    have n1_1 : ¬ wh = 1 := by rw [h1]; decide
    have n1_2 : ¬ wh = 2 := by rw [h1]; decide
    have n1_3 : ¬ wh = 3 := by rw [h1]; decide
    refine lv_tableIn (off := 55) (tgt := 56) hx hb dX6_count_1 (by rw [h1]; decide) (by rw [h1]; decide) (by rw [h1]; decide) (by decide) ?_
    refine lv_aload_n hx hb dX6_count_56 rfl (lv_at hl 0 rfl) ?_
    refine gx_46 S hK hI dX6_count_57 ?_
    refine lv_topi (fun x6 e6 => ?_)
    subst e6
    unfold countM
    try rw [if_neg n1_0]
    try rw [if_neg n1_1]
    try rw [if_neg n1_2]
    try rw [if_neg n1_3]
    try rw [if_pos h1]
    exact tw_iret S hr hlocks hI dX6_count_60
  · refine lv_tableOut (tgt := 61) hx hb dX6_count_1 h1 (by decide) ?_
    refine lv_bipush (v := (-2)) hx hb dX6_count_61 (by decide) ?_
    unfold countM
    try rw [if_neg n1_0]
    try rw [if_neg n1_1]
    try rw [if_neg n1_2]
    try rw [if_neg n1_3]
    try rw [if_neg n1_4]
    exact tw_iret S hr hlocks hI dX6_count_63

set_option maxHeartbeats 2000000 in
set_option maxRecDepth 100000 in
theorem c_X6_out (l : Launch) (D : tw_G) (ad : Nat → Nat) (b : tw_W) (σ : Sg) (h : Int32) (Q : Nat → Int32) (sz : Nat)  : Met l yX6_out (tw_w yX6_out cX6_out 1 (some .int)) (tw_R 0 0 0) (tw_Pc D ad (wX b σ h Q) sz [.ref (ad 0)]) (tw_Q D ad (wX b (σ) h Q) (tw_A ad (wX b σ h Q) sz) (some (.int (σ.1 20 0)))) 0 0 (tw_A ad (wX b σ h Q) sz) := by
  refine tw_met (by decide) rfl (by simp [lg_sl, Value.category]) (fun p e s m below meth c ls S hK hr hlocks hnm hsz hI hl => ?_)
  have hx := S.1
  have hb := S.2.1
  have hl : lv_has ls 1 [(0, .ref (ad 0))] := hl
  refine lv_aload_n hx hb dX6_out_0 rfl (lv_at hl 0 rfl) ?_
  refine gx_31 S hK hI dX6_out_1 ?_
  refine lv_topi (fun x1 e1 => ?_)
  subst e1
  exact tw_iret S hr hlocks hI dX6_out_4

set_option maxHeartbeats 2000000 in
set_option maxRecDepth 100000 in
theorem c_X6_refused (l : Launch) (D : tw_G) (ad : Nat → Nat) (b : tw_W) (σ : Sg) (h : Int32) (Q : Nat → Int32) (sz : Nat)  : Met l yX6_refused (tw_w yX6_refused cX6_refused 1 (some .int)) (tw_R 0 0 0) (tw_Pc D ad (wX b σ h Q) sz [.ref (ad 0)]) (tw_Q D ad (wX b (σ) h Q) (tw_A ad (wX b σ h Q) sz) (some (.int (σ.1 15 0)))) 0 0 (tw_A ad (wX b σ h Q) sz) := by
  refine tw_met (by decide) rfl (by simp [lg_sl, Value.category]) (fun p e s m below meth c ls S hK hr hlocks hnm hsz hI hl => ?_)
  have hx := S.1
  have hb := S.2.1
  have hl : lv_has ls 1 [(0, .ref (ad 0))] := hl
  refine lv_aload_n hx hb dX6_refused_0 rfl (lv_at hl 0 rfl) ?_
  refine gx_34 S hK hI dX6_refused_1 ?_
  refine lv_topi (fun x1 e1 => ?_)
  subst e1
  exact tw_iret S hr hlocks hI dX6_refused_4
