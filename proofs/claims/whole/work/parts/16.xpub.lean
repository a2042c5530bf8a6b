/-! the class's public methods against the reference's functions: what they come to, case by case -/
theorem ixn {k : Nat} (h : k < 2 ^ 31) : ix (nI k) = k := nI_clamp h
theorem okN {σ : Sg} (hok : okM σ) : nS σ ≤ 60 ∧ σ.1 0 0 = nI (nS σ) := by
  obtain ⟨n, hn, e⟩ := hok.1
  have e2 : nS σ = n := by unfold nS; rw [e]; exact nI_clamp (by omega)
  rw [e2]
  exact ⟨hn, e⟩
theorem okZ {σ : Sg} (hok : okM σ) {k : Nat} (hk : k < 60) : szS σ k ≤ 3 ∧ σ.1 2 k = nI (szS σ k) := by
  obtain ⟨n, hn, e⟩ := hok.2.1 k hk
  have e2 : szS σ k = n := by unfold szS; rw [e]; exact nI_clamp (by omega)
  rw [e2]
  exact ⟨hn, e⟩
theorem okD {σ : Sg} (hok : okM σ) {r : Nat} (hr : r < 8) : dcS σ r ≤ 4 ∧ σ.1 5 r = nI (dcS σ r) := by
  obtain ⟨n, hn, e⟩ := hok.2.2 r hr
  have e2 : dcS σ r = n := by unfold dcS; rw [e]; exact nI_clamp (by omega)
  rw [e2]
  exact ⟨hn, e⟩
theorem pred_toInt {n : Nat} (h : n < 2 ^ 30) : (nI n - 1 : Int32).toInt = (n : Int) - 1 := pk_sub_toInt (a := n) (b := 1) h (by decide)
theorem isIn_out {v : Int32} {n : Nat} (hn : n < 2 ^ 30) (h : v < 0 ∨ nI n ≤ v) : isInF v 0 (nI n - 1) = 0 := by
  unfold isInF
  by_cases h0 : v < 0
  · rw [if_pos h0]
  · rw [if_neg h0, if_pos]
    rcases h with h | h
    · exact absurd h h0
    · rw [Int32.le_iff_toInt_le, nI_toInt (by omega)] at h
      rw [Int32.lt_iff_toInt_lt, pred_toInt hn]
      omega
theorem isIn_in {j n : Nat} (hn : n < 2 ^ 30) (h : j < n) : ¬ isInF (nI j) 0 (nI n - 1) = 0 := by
  unfold isInF
  rw [if_neg (nI_pos (by omega)), if_neg]
  · decide
  · rw [Int32.lt_iff_toInt_lt, pred_toInt hn, nI_toInt (by omega)]
    omega
theorem item_no {σ : Sg} {v : Int32} (hok : okM σ) (h : noItem σ v) : isItemM σ v = 0 := by
  have hn := okN hok
  unfold isItemM
  rw [hn.2]
  exact isIn_out (by omega) h
theorem item_yes {σ : Sg} {k : Nat} (hok : okM σ) (h : k < nS σ) : ¬ isItemM σ (nI k) = 0 := by
  have hn := okN hok
  unfold isItemM
  rw [hn.2]
  exact isIn_in (by omega) h
theorem numF0 {κ : Int32} (h : isNumK κ = false) : isNumF κ = 0 := by unfold isNumF; rw [if_pos (numK_not h)]
theorem numF1 {κ : Int32} (h : isNumK κ = true) : isNumF κ = 1 := by unfold isNumF; rw [if_neg (numK h)]
theorem wrong_0 (σ : Sg) (t i : Int32) : wrongM σ t i 0 = -4 := by unfold wrongM; rw [if_pos rfl]
theorem wrong_ok {σ : Sg} (hok : okM σ) {k j : Nat} {q : Int32} (hk : k < 60) (hj : j < szS σ k) (hq : ¬ q = 0) : wrongM σ (nI k) (nI j) q = 0 := by
  unfold wrongM
  rw [if_neg hq, ixn (by omega), (okZ hok hk).2, if_neg (isIn_in (by have := (okZ hok hk).1; omega) hj)]
theorem wrong_out {σ : Sg} (hok : okM σ) {k : Nat} {i q : Int32} (hk : k < 60) (hi : i < 0 ∨ nI (szS σ k) ≤ i) (hq : ¬ q = 0) : wrongM σ (nI k) i q = -5 := by
  unfold wrongM
  rw [if_neg hq, ixn (by omega), (okZ hok hk).2, if_pos (isIn_out (by have := (okZ hok hk).1; omega) hi)]
theorem place_or (z : Nat) (i : Int32) (hz : z ≤ 3) : (i < 0 ∨ nI z ≤ i) ∨ ∃ j : Nat, j < z ∧ i = nI j := by
  rcases pk_ix i (n := z) (by omega) with h | h | ⟨j, hj, e⟩
  · exact Or.inl (Or.inl h)
  · exact Or.inl (Or.inr h)
  · exact Or.inr ⟨j, hj, e⟩
theorem put_none {σ : Sg} {t i v : Int32} (hok : okM σ) (h : noItem σ t) : putM σ t i v = (-2, refuseM σ (-2)) := by
  unfold putM
  rw [if_pos (item_no (okM_acc hok) h), refuse_acc]
theorem put_cast {σ : Sg} {k : Nat} {i v : Int32} (hok : okM σ) (h : k < nS σ) (h6 : k < 60) (hN : isNumK (σ.1 1 k) = false) : putM σ (nI k) i v = (-4, refuseM σ (-4)) := by
  unfold putM
  rw [if_neg (item_yes (okM_acc hok) h), ixn (by omega), show isNumF ((acc σ).1 1 k) = 0 from numF0 hN, wrong_0, if_neg (by decide), refuse_acc]
theorem put_index {σ : Sg} {k : Nat} {i v : Int32} (hok : okM σ) (h : k < nS σ) (h6 : k < 60) (hN : isNumK (σ.1 1 k) = true) (hi : i < 0 ∨ nI (szS σ k) ≤ i) : putM σ (nI k) i v = (-5, refuseM σ (-5)) := by
  unfold putM
  rw [if_neg (item_yes (okM_acc hok) h), ixn (by omega), show isNumF ((acc σ).1 1 k) = 1 from numF1 hN, wrong_out (okM_acc hok) h6 hi (by decide), if_neg (by decide), refuse_acc]
theorem put_ok {σ : Sg} {k j : Nat} {v : Int32} (hok : okM σ) (h : k < nS σ) (h6 : k < 60) (hN : isNumK (σ.1 1 k) = true) (hj : j < szS σ k) : putM σ (nI k) (nI j) v = (1, sC (acc σ) (3 * k + j) (keptF (σ.1 1 k) v.toInt64)) := by
  have h3 := (okZ hok h6).1
  unfold putM
  rw [if_neg (item_yes (okM_acc hok) h), ixn (by omega), show isNumF ((acc σ).1 1 k) = 1 from numF1 hN, wrong_ok (okM_acc hok) h6 hj (by decide), if_pos rfl, ix3 (vp_in_nI h6 (by decide)) (vp_in_nI (show j < 3 by omega) (by decide)), ixn (by omega), ixn (by omega)]
  rfl

set_option maxHeartbeats 2000000 in
set_option maxRecDepth 100000 in
theorem c_X6_numberRow_none (l : Launch) (D : tw_G) (ad : Nat → Nat) (b : tw_W) (σ : Sg) (h : Int32) (Q : Nat → Int32) (sz : Nat) (v : Int32) (i : Int32) (hok : okM σ) (hv : noItem σ v) : Met l yX6_numberRow (tw_w yX6_numberRow cX6_numberRow 5 (some (.object "MailRooms$NumberRow"))) (tw_R 2 0 0) (tw_Pc D ad (wX b σ h Q) sz [.ref (ad 0), .int v, .int i]) (tw_Q D ad (wX b (refuseM σ (-2)) h Q) (tw_A ad (wX b σ h Q) sz) (some .null)) 0 0 (tw_A ad (wX b σ h Q) sz) := by
  refine tw_met (by decide) rfl (by simp [lg_sl, Value.category]) (fun p e s m below meth c ls S hK hr hlocks hnm hsz hI hl => ?_)
  have hx := S.1
  have hb := S.2.1
  have hl : lv_has ls 5 [(0, .ref (ad 0)), (1, .int v), (2, .int i)] := hl
  refine lv_aload_n hx hb dX6_numberRow_0 rfl (lv_at hl 0 rfl) ?_
  refine lv_iload_n hx hb dX6_numberRow_1 rfl (lv_at hl 1 rfl) ?_
  refine tw_calla (tw_rV (As := [.int v]) (rest := []) S hK hI kX6_78 (c_X6_findItem_none l D ad _ _ _ _ _ _ (okN hok).1 hv) wX_0 rfl rfl ⟨Nat.le_of_ble_eq_true rfl, Nat.le_of_ble_eq_true rfl⟩ ⟨Nat.le_of_ble_eq_true rfl, Nat.le_of_ble_eq_true rfl⟩ rfl hl.1 rfl (Nat.le_of_ble_eq_true rfl) dX6_numberRow_2) hI (fun H locs hI => ?_)
  refine lv_astore_nN (lv' := [(3, .null), (0, .ref (ad 0)), (1, .int v), (2, .int i)]) hx hb dX6_numberRow_5 rfl hl (by decide) rfl (fun ls hl => ?_)
  refine lv_aload_nN hx hb dX6_numberRow_6 rfl (lv_at hl 0 rfl) ?_
  refine lv_instN hx hb dX6_numberRow_7 ?_
  refine lv_if_eq (tgt := 40) hx hb dX6_numberRow_10 (by decide) (fun c1 => ?_) (fun c1 => ?_)
  · refine lv_aload_n hx hb dX6_numberRow_40 rfl (lv_at hl 1 rfl) ?_
    refine lv_aload_nN hx hb dX6_numberRow_41 rfl (lv_at hl 0 rfl) ?_
    refine lv_ifnonnullN hx hb dX6_numberRow_42 ?_
    refine lv_bipush (v := (-2)) hx hb dX6_numberRow_45 (by decide) ?_
    refine lv_goto (tgt := 52) hx hb dX6_numberRow_47 (by decide) ?_
    refine tw_calli (tw_rV (As := [.int (-2)]) (rest := []) S hK hI kX6_50 (c_X6_refuse l D ad _ _ _ _ _ _) wX_0 rfl rfl ⟨Nat.le_of_ble_eq_true rfl, Nat.le_of_ble_eq_true rfl⟩ ⟨Nat.le_of_ble_eq_true rfl, Nat.le_of_ble_eq_true rfl⟩ rfl hl.1 rfl (Nat.le_of_ble_eq_true rfl) dX6_numberRow_52) hI (fun H locs hI => ?_)
    refine lv_topi (fun x2 e2 => ?_)
    refine lv_pop hx hb dX6_numberRow_55 rfl ?_
    refine lv_null hx hb dX6_numberRow_56 ?_
    subst e2
    try rw [if_pos (show (0 : Int32) = 0 from by decide)]
    exact tw_aret S hr (Or.inl rfl) hlocks hI dX6_numberRow_57
  · exact absurd c1 (by decide)

set_option maxHeartbeats 2000000 in
set_option maxRecDepth 100000 in
theorem c_X6_numberRow_one (l : Launch) (D : tw_G) (ad : Nat → Nat) (b : tw_W) (σ : Sg) (h : Int32) (Q : Nat → Int32) (sz : Nat) (k : Nat) (i : Int32) (hn : k < nS σ) (h6 : k < 60) (hN : isNumK (σ.1 1 k) = false) (hO : isOneK (σ.1 1 k) = true) : Met l yX6_numberRow (tw_w yX6_numberRow cX6_numberRow 5 (some (.object "MailRooms$NumberRow"))) (tw_R 2 0 0) (tw_Pc D ad (wX b σ h Q) sz [.ref (ad 0), .int (nI k), .int i]) (tw_Q D ad (wX b (refuseM σ (-4)) h Q) (tw_A ad (wX b σ h Q) sz) (some .null)) 0 0 (tw_A ad (wX b σ h Q) sz) := by
  refine tw_met (by decide) rfl (by simp [lg_sl, Value.category]) (fun p e s m below meth c ls S hK hr hlocks hnm hsz hI hl => ?_)
  have hx := S.1
  have hb := S.2.1
  have hl : lv_has ls 5 [(0, .ref (ad 0)), (1, .int (nI k)), (2, .int i)] := hl
  refine lv_aload_n hx hb dX6_numberRow_0 rfl (lv_at hl 0 rfl) ?_
  refine lv_iload_n hx hb dX6_numberRow_1 rfl (lv_at hl 1 rfl) ?_
  refine tw_calla (tw_rV (As := [.int (nI k)]) (rest := []) S hK hI kX6_78 (c_X6_findItem_some l D ad _ _ _ _ _ _ hn h6) wX_0 rfl rfl ⟨Nat.le_of_ble_eq_true rfl, Nat.le_of_ble_eq_true rfl⟩ ⟨Nat.le_of_ble_eq_true rfl, Nat.le_of_ble_eq_true rfl⟩ rfl hl.1 rfl (Nat.le_of_ble_eq_true rfl) dX6_numberRow_2) hI (fun H locs hI => ?_)
  refine lv_astore_n (lv' := [(3, .ref (ad (100 + k))), (0, .ref (ad 0)), (1, .int (nI k)), (2, .int i)]) hx hb dX6_numberRow_5 rfl hl (by decide) rfl (fun ls hl => ?_)
  refine lv_aload_n hx hb dX6_numberRow_6 rfl (lv_at hl 0 rfl) ?_
  refine tw_inst0 (nm := RX2) S hK hI (tw_mem (by decide +kernel) rfl) (xI_one hn h6 hN hO) rfl (by decide) dX6_numberRow_7 ?_
  refine lv_if_eq (tgt := 40) hx hb dX6_numberRow_10 (by decide) (fun c1 => ?_) (fun c1 => ?_)
  · refine lv_aload_n hx hb dX6_numberRow_40 rfl (lv_at hl 1 rfl) ?_
    refine lv_aload_n hx hb dX6_numberRow_41 rfl (lv_at hl 0 rfl) ?_
    refine lv_ifnonnull (tgt := 50) hx hb dX6_numberRow_42 (by decide) ?_
    refine lv_bipush (v := (-4)) hx hb dX6_numberRow_50 (by decide) ?_
    refine tw_calli (tw_rV (As := [.int (-4)]) (rest := []) S hK hI kX6_50 (c_X6_refuse l D ad _ _ _ _ _ _) wX_0 rfl rfl ⟨Nat.le_of_ble_eq_true rfl, Nat.le_of_ble_eq_true rfl⟩ ⟨Nat.le_of_ble_eq_true rfl, Nat.le_of_ble_eq_true rfl⟩ rfl hl.1 rfl (Nat.le_of_ble_eq_true rfl) dX6_numberRow_52) hI (fun H locs hI => ?_)
    refine lv_topi (fun x2 e2 => ?_)
    refine lv_pop hx hb dX6_numberRow_55 rfl ?_
    refine lv_null hx hb dX6_numberRow_56 ?_
    subst e2
    try rw [if_pos (show (0 : Int32) = 0 from by decide)]
    exact tw_aret S hr (Or.inl rfl) hlocks hI dX6_numberRow_57
  · exact absurd c1 (by decide)

set_option maxHeartbeats 2000000 in
set_option maxRecDepth 100000 in
theorem c_X6_numberRow_th (l : Launch) (D : tw_G) (ad : Nat → Nat) (b : tw_W) (σ : Sg) (h : Int32) (Q : Nat → Int32) (sz : Nat) (k : Nat) (i : Int32) (hn : k < nS σ) (h6 : k < 60) (hN : isNumK (σ.1 1 k) = false) (hO : isOneK (σ.1 1 k) = false) : Met l yX6_numberRow (tw_w yX6_numberRow cX6_numberRow 5 (some (.object "MailRooms$NumberRow"))) (tw_R 2 0 0) (tw_Pc D ad (wX b σ h Q) sz [.ref (ad 0), .int (nI k), .int i]) (tw_Q D ad (wX b (refuseM σ (-4)) h Q) (tw_A ad (wX b σ h Q) sz) (some .null)) 0 0 (tw_A ad (wX b σ h Q) sz) := by
  refine tw_met (by decide) rfl (by simp [lg_sl, Value.category]) (fun p e s m below meth c ls S hK hr hlocks hnm hsz hI hl => ?_)
  have hx := S.1
  have hb := S.2.1
  have hl : lv_has ls 5 [(0, .ref (ad 0)), (1, .int (nI k)), (2, .int i)] := hl
  refine lv_aload_n hx hb dX6_numberRow_0 rfl (lv_at hl 0 rfl) ?_
  refine lv_iload_n hx hb dX6_numberRow_1 rfl (lv_at hl 1 rfl) ?_
  refine tw_calla (tw_rV (As := [.int (nI k)]) (rest := []) S hK hI kX6_78 (c_X6_findItem_some l D ad _ _ _ _ _ _ hn h6) wX_0 rfl rfl ⟨Nat.le_of_ble_eq_true rfl, Nat.le_of_ble_eq_true rfl⟩ ⟨Nat.le_of_ble_eq_true rfl, Nat.le_of_ble_eq_true rfl⟩ rfl hl.1 rfl (Nat.le_of_ble_eq_true rfl) dX6_numberRow_2) hI (fun H locs hI => ?_)
  refine lv_astore_n (lv' := [(3, .ref (ad (100 + k))), (0, .ref (ad 0)), (1, .int (nI k)), (2, .int i)]) hx hb dX6_numberRow_5 rfl hl (by decide) rfl (fun ls hl => ?_)
  refine lv_aload_n hx hb dX6_numberRow_6 rfl (lv_at hl 0 rfl) ?_
  refine tw_inst0 (nm := RX2) S hK hI (tw_mem (by decide +kernel) rfl) (xI_th hn h6 hN hO) rfl (by decide) dX6_numberRow_7 ?_
  refine lv_if_eq (tgt := 40) hx hb dX6_numberRow_10 (by decide) (fun c1 => ?_) (fun c1 => ?_)
  · refine lv_aload_n hx hb dX6_numberRow_40 rfl (lv_at hl 1 rfl) ?_
    refine lv_aload_n hx hb dX6_numberRow_41 rfl (lv_at hl 0 rfl) ?_
    refine lv_ifnonnull (tgt := 50) hx hb dX6_numberRow_42 (by decide) ?_
    refine lv_bipush (v := (-4)) hx hb dX6_numberRow_50 (by decide) ?_
    refine tw_calli (tw_rV (As := [.int (-4)]) (rest := []) S hK hI kX6_50 (c_X6_refuse l D ad _ _ _ _ _ _) wX_0 rfl rfl ⟨Nat.le_of_ble_eq_true rfl, Nat.le_of_ble_eq_true rfl⟩ ⟨Nat.le_of_ble_eq_true rfl, Nat.le_of_ble_eq_true rfl⟩ rfl hl.1 rfl (Nat.le_of_ble_eq_true rfl) dX6_numberRow_52) hI (fun H locs hI => ?_)
    refine lv_topi (fun x2 e2 => ?_)
    refine lv_pop hx hb dX6_numberRow_55 rfl ?_
    refine lv_null hx hb dX6_numberRow_56 ?_
    subst e2
    try rw [if_pos (show (0 : Int32) = 0 from by decide)]
    exact tw_aret S hr (Or.inl rfl) hlocks hI dX6_numberRow_57
  · exact absurd c1 (by decide)

set_option maxHeartbeats 2000000 in
set_option maxRecDepth 100000 in
theorem c_X6_numberRow_out (l : Launch) (D : tw_G) (ad : Nat → Nat) (b : tw_W) (σ : Sg) (h : Int32) (Q : Nat → Int32) (sz : Nat) (k : Nat) (i : Int32) (hn : k < nS σ) (h6 : k < 60) (hN : isNumK (σ.1 1 k) = true) (hi : i < 0 ∨ nI (szS σ k) ≤ i) : Met l yX6_numberRow (tw_w yX6_numberRow cX6_numberRow 5 (some (.object "MailRooms$NumberRow"))) (tw_R 2 0 0) (tw_Pc D ad (wX b σ h Q) sz [.ref (ad 0), .int (nI k), .int i]) (tw_Q D ad (wX b (refuseM σ (-5)) h Q) (tw_A ad (wX b σ h Q) sz) (some .null)) 0 0 (tw_A ad (wX b σ h Q) sz) := by
  refine tw_met (by decide) rfl (by simp [lg_sl, Value.category]) (fun p e s m below meth c ls S hK hr hlocks hnm hsz hI hl => ?_)
  have hx := S.1
  have hb := S.2.1
  have hl : lv_has ls 5 [(0, .ref (ad 0)), (1, .int (nI k)), (2, .int i)] := hl
  refine lv_aload_n hx hb dX6_numberRow_0 rfl (lv_at hl 0 rfl) ?_
  refine lv_iload_n hx hb dX6_numberRow_1 rfl (lv_at hl 1 rfl) ?_
  refine tw_calla (tw_rV (As := [.int (nI k)]) (rest := []) S hK hI kX6_78 (c_X6_findItem_some l D ad _ _ _ _ _ _ hn h6) wX_0 rfl rfl ⟨Nat.le_of_ble_eq_true rfl, Nat.le_of_ble_eq_true rfl⟩ ⟨Nat.le_of_ble_eq_true rfl, Nat.le_of_ble_eq_true rfl⟩ rfl hl.1 rfl (Nat.le_of_ble_eq_true rfl) dX6_numberRow_2) hI (fun H locs hI => ?_)
  refine lv_astore_n (lv' := [(3, .ref (ad (100 + k))), (0, .ref (ad 0)), (1, .int (nI k)), (2, .int i)]) hx hb dX6_numberRow_5 rfl hl (by decide) rfl (fun ls hl => ?_)
  refine lv_aload_n hx hb dX6_numberRow_6 rfl (lv_at hl 0 rfl) ?_
  refine tw_inst1 (nm := RX2) S hK hI (tw_mem (by decide +kernel) rfl) (xI_num hn h6 hN) rfl (tw_memN (by decide +kernel) rfl) dX6_numberRow_7 ?_
  refine lv_if_eq (tgt := 40) hx hb dX6_numberRow_10 (by decide) (fun c1 => ?_) (fun c1 => ?_)
  · exact absurd c1 (by decide)
  · refine lv_aload_n hx hb dX6_numberRow_13 rfl (lv_at hl 0 rfl) ?_
    refine tw_cast (nm := RX2) S hK hI (tw_mem (by decide +kernel) rfl) (xI_num hn h6 hN) rfl (tw_memN (by decide +kernel) rfl) dX6_numberRow_14 ?_
    refine lv_astore (lv' := [(4, .ref (ad (100 + k))), (3, .ref (ad (100 + k))), (0, .ref (ad 0)), (1, .int (nI k)), (2, .int i)]) hx hb dX6_numberRow_17 hl (by decide) rfl (fun ls hl => ?_)
    refine lv_aload hx hb dX6_numberRow_19 (lv_at hl 0 rfl) ?_
    refine lv_iload_n hx hb dX6_numberRow_21 rfl (lv_at hl 4 rfl) ?_
    refine tw_calli (tw_rV (As := [.int i]) (rest := []) S hK hI kX6_165 (c_X2_hasPlace_out l D ad _ _ _ _ _ _ _ hn h6 hN hi) (xI_num hn h6 hN) rfl rfl ⟨Nat.le_of_ble_eq_true rfl, Nat.le_of_ble_eq_true rfl⟩ ⟨Nat.le_of_ble_eq_true rfl, Nat.le_of_ble_eq_true rfl⟩ rfl hl.1 rfl (Nat.le_of_ble_eq_true rfl) dX6_numberRow_22) hI (fun H locs hI => ?_)
    refine lv_if_eq (tgt := 31) hx hb dX6_numberRow_25 (by decide) (fun c2 => ?_) (fun c2 => ?_)
    · refine lv_aload_n hx hb dX6_numberRow_31 rfl (lv_at hl 2 rfl) ?_
      refine lv_bipush (v := (-5)) hx hb dX6_numberRow_32 (by decide) ?_
      refine tw_calli (tw_rV (As := [.int (-5)]) (rest := []) S hK hI kX6_50 (c_X6_refuse l D ad _ _ _ _ _ _) wX_0 rfl rfl ⟨Nat.le_of_ble_eq_true rfl, Nat.le_of_ble_eq_true rfl⟩ ⟨Nat.le_of_ble_eq_true rfl, Nat.le_of_ble_eq_true rfl⟩ rfl hl.1 rfl (Nat.le_of_ble_eq_true rfl) dX6_numberRow_34) hI (fun H locs hI => ?_)
      refine lv_topi (fun x3 e3 => ?_)
      refine lv_pop hx hb dX6_numberRow_37 rfl ?_
      refine lv_null hx hb dX6_numberRow_38 ?_
      subst e3
      try rw [if_neg (show ¬ (1 : Int32) = 0 from by decide)]
      try rw [if_pos (show (0 : Int32) = 0 from by decide)]
      exact tw_aret S hr (Or.inl rfl) hlocks hI dX6_numberRow_39
    · exact absurd c2 (by decide)

set_option maxHeartbeats 2000000 in
set_option maxRecDepth 100000 in
theorem c_X6_numberRow_in (l : Launch) (D : tw_G) (ad : Nat → Nat) (b : tw_W) (σ : Sg) (h : Int32) (Q : Nat → Int32) (sz : Nat) (k i : Nat) (hn : k < nS σ) (h6 : k < 60) (hN : isNumK (σ.1 1 k) = true) (hi : i < szS σ k) (hz : szS σ k ≤ 3) : Met l yX6_numberRow (tw_w yX6_numberRow cX6_numberRow 5 (some (.object "MailRooms$NumberRow"))) (tw_R 2 0 0) (tw_Pc D ad (wX b σ h Q) sz [.ref (ad 0), .int (nI k), .int (nI i)]) (tw_Q D ad (wX b (σ) h Q) (tw_A ad (wX b σ h Q) sz) (some (.ref (ad (100 + k))))) 0 0 (tw_A ad (wX b σ h Q) sz) := by
  refine tw_met (by decide) rfl (by simp [lg_sl, Value.category]) (fun p e s m below meth c ls S hK hr hlocks hnm hsz hI hl => ?_)
  have hx := S.1
  have hb := S.2.1
  have hl : lv_has ls 5 [(0, .ref (ad 0)), (1, .int (nI k)), (2, .int (nI i))] := hl
  refine lv_aload_n hx hb dX6_numberRow_0 rfl (lv_at hl 0 rfl) ?_
  refine lv_iload_n hx hb dX6_numberRow_1 rfl (lv_at hl 1 rfl) ?_
  refine tw_calla (tw_rV (As := [.int (nI k)]) (rest := []) S hK hI kX6_78 (c_X6_findItem_some l D ad _ _ _ _ _ _ hn h6) wX_0 rfl rfl ⟨Nat.le_of_ble_eq_true rfl, Nat.le_of_ble_eq_true rfl⟩ ⟨Nat.le_of_ble_eq_true rfl, Nat.le_of_ble_eq_true rfl⟩ rfl hl.1 rfl (Nat.le_of_ble_eq_true rfl) dX6_numberRow_2) hI (fun H locs hI => ?_)
  refine lv_astore_n (lv' := [(3, .ref (ad (100 + k))), (0, .ref (ad 0)), (1, .int (nI k)), (2, .int (nI i))]) hx hb dX6_numberRow_5 rfl hl (by decide) rfl (fun ls hl => ?_)
  refine lv_aload_n hx hb dX6_numberRow_6 rfl (lv_at hl 0 rfl) ?_
  refine tw_inst1 (nm := RX2) S hK hI (tw_mem (by decide +kernel) rfl) (xI_num hn h6 hN) rfl (tw_memN (by decide +kernel) rfl) dX6_numberRow_7 ?_
  refine lv_if_eq (tgt := 40) hx hb dX6_numberRow_10 (by decide) (fun c1 => ?_) (fun c1 => ?_)
  · exact absurd c1 (by decide)
  · refine lv_aload_n hx hb dX6_numberRow_13 rfl (lv_at hl 0 rfl) ?_
    refine tw_cast (nm := RX2) S hK hI (tw_mem (by decide +kernel) rfl) (xI_num hn h6 hN) rfl (tw_memN (by decide +kernel) rfl) dX6_numberRow_14 ?_
    refine lv_astore (lv' := [(4, .ref (ad (100 + k))), (3, .ref (ad (100 + k))), (0, .ref (ad 0)), (1, .int (nI k)), (2, .int (nI i))]) hx hb dX6_numberRow_17 hl (by decide) rfl (fun ls hl => ?_)
    refine lv_aload hx hb dX6_numberRow_19 (lv_at hl 0 rfl) ?_
    refine lv_iload_n hx hb dX6_numberRow_21 rfl (lv_at hl 4 rfl) ?_
    refine tw_calli (tw_rV (As := [.int (nI i)]) (rest := []) S hK hI kX6_165 (c_X2_hasPlace_in l D ad _ _ _ _ _ _ _ hn h6 hN hi hz) (xI_num hn h6 hN) rfl rfl ⟨Nat.le_of_ble_eq_true rfl, Nat.le_of_ble_eq_true rfl⟩ ⟨Nat.le_of_ble_eq_true rfl, Nat.le_of_ble_eq_true rfl⟩ rfl hl.1 rfl (Nat.le_of_ble_eq_true rfl) dX6_numberRow_22) hI (fun H locs hI => ?_)
    refine lv_if_eq (tgt := 31) hx hb dX6_numberRow_25 (by decide) (fun c2 => ?_) (fun c2 => ?_)
    · exact absurd c2 (by decide)
    · refine lv_aload hx hb dX6_numberRow_28 (lv_at hl 0 rfl) ?_
      try rw [if_neg (show ¬ (1 : Int32) = 0 from by decide)]
      try rw [if_neg (show ¬ (1 : Int32) = 0 from by decide)]
      exact tw_aret S hr (Or.inr ⟨_, rfl⟩) hlocks hI dX6_numberRow_30

theorem get_none {σ : Sg} {t i : Int32} (hok : okM σ) (h : noItem σ t) : getM σ t i = (0, refuseM σ (-2)) := by
  unfold getM whyG
  rw [if_pos (item_no (okM_acc hok) h), if_neg (by decide), refuse_acc]
theorem get_cast {σ : Sg} {k : Nat} {i : Int32} (hok : okM σ) (h : k < nS σ) (h6 : k < 60) (hN : isNumK (σ.1 1 k) = false) : getM σ (nI k) i = (0, refuseM σ (-4)) := by
  unfold getM whyG
  rw [if_neg (item_yes (okM_acc hok) h), ixn (by omega), show isNumF ((acc σ).1 1 k) = 0 from numF0 hN, wrong_0, if_neg (by decide), refuse_acc]
theorem get_index {σ : Sg} {k : Nat} {i : Int32} (hok : okM σ) (h : k < nS σ) (h6 : k < 60) (hN : isNumK (σ.1 1 k) = true) (hi : i < 0 ∨ nI (szS σ k) ≤ i) : getM σ (nI k) i = (0, refuseM σ (-5)) := by
  unfold getM whyG
  rw [if_neg (item_yes (okM_acc hok) h), ixn (by omega), show isNumF ((acc σ).1 1 k) = 1 from numF1 hN, wrong_out (okM_acc hok) h6 hi (by decide), if_neg (by decide), refuse_acc]
theorem get_ok {σ : Sg} {k j : Nat} (hok : okM σ) (h : k < nS σ) (h6 : k < 60) (hN : isNumK (σ.1 1 k) = true) (hj : j < szS σ k) : getM σ (nI k) (nI j) = (getV (σ.2 (3 * k + j)), acc σ) := by
  have h3 := (okZ hok h6).1
  unfold getM whyG
  rw [if_neg (item_yes (okM_acc hok) h), ixn (by omega), show isNumF ((acc σ).1 1 k) = 1 from numF1 hN, wrong_ok (okM_acc hok) h6 hj (by decide), if_pos rfl, ix3 (vp_in_nI h6 (by decide)) (vp_in_nI (show j < 3 by omega) (by decide)), ixn (by omega), ixn (by omega)]
  rfl
theorem thF0 {κ : Int32} (hN : isNumK κ = true) : isThF κ = 0 := by
  have h := numK hN
  unfold isThF
  rw [Int32.lt_iff_toInt_lt] at h
  have e3 : (3 : Int32).toInt = 3 := by decide
  have e8 : (8 : Int32).toInt = 8 := by decide
  rw [if_neg, if_pos]
  · rw [Int32.lt_iff_toInt_lt]; omega
  · intro q; subst q; revert h; decide
theorem oneK {κ : Int32} (h : isOneK κ = true) : 5 ≤ κ ∧ κ ≤ 7 := by
  unfold isOneK at h
  rw [Bool.and_eq_true] at h
  exact ⟨of_decide_eq_true h.1, of_decide_eq_true h.2⟩
theorem thF1 {κ : Int32} (hO : isOneK κ = true) : isThF κ = 0 := by
  obtain ⟨a, b⟩ := oneK hO
  rw [Int32.le_iff_toInt_le] at a b
  have e5 : (5 : Int32).toInt = 5 := by decide
  have e7 : (7 : Int32).toInt = 7 := by decide
  have e8 : (8 : Int32).toInt = 8 := by decide
  unfold isThF
  rw [if_neg, if_pos]
  · rw [Int32.lt_iff_toInt_lt]; omega
  · intro q; subst q; revert a; decide
theorem thF2 {κ : Int32} (hN : isNumK κ = false) (hO : isOneK κ = false) : isThF κ = 1 := by
  have h := numK_not hN
  rw [Int32.lt_iff_toInt_lt] at h
  have e3 : (3 : Int32).toInt = 3 := by decide
  have e5 : (5 : Int32).toInt = 5 := by decide
  have e7 : (7 : Int32).toInt = 7 := by decide
  have e8 : (8 : Int32).toInt = 8 := by decide
  unfold isThF
  by_cases h4 : κ = 4
  · rw [if_pos h4]
  · rw [if_neg h4, if_neg]
    intro q
    rw [Int32.lt_iff_toInt_lt] at q
    have n4 := lv_neT h4 (a := 4) (by decide)
    have : isOneK κ = true := by
      unfold isOneK
      rw [Bool.and_eq_true]
      exact ⟨decide_eq_true (by rw [Int32.le_iff_toInt_le]; omega), decide_eq_true (by rw [Int32.le_iff_toInt_le]; omega)⟩
    rw [this] at hO
    cases hO
theorem at_none {σ : Sg} {t i : Int32} (hok : okM σ) (h : noItem σ t) : atM σ t i = (-2, refuseM σ (-2)) := by
  unfold atM whyA
  rw [if_pos (item_no (okM_acc hok) h), if_neg (by decide), refuse_acc]
theorem at_cast {σ : Sg} {k : Nat} {i : Int32} (hok : okM σ) (h : k < nS σ) (h6 : k < 60) (hT : isThF (σ.1 1 k) = 0) : atM σ (nI k) i = (-4, refuseM σ (-4)) := by
  unfold atM whyA
  rw [if_neg (item_yes (okM_acc hok) h), ixn (by omega), show isThF ((acc σ).1 1 k) = 0 from hT, wrong_0, if_neg (by decide), refuse_acc]
theorem at_index {σ : Sg} {k : Nat} {i : Int32} (hok : okM σ) (h : k < nS σ) (h6 : k < 60) (hT : isThF (σ.1 1 k) = 1) (hi : i < 0 ∨ nI (szS σ k) ≤ i) : atM σ (nI k) i = (-5, refuseM σ (-5)) := by
  unfold atM whyA
  rw [if_neg (item_yes (okM_acc hok) h), ixn (by omega), show isThF ((acc σ).1 1 k) = 1 from hT, wrong_out (okM_acc hok) h6 hi (by decide), if_neg (by decide), refuse_acc]
theorem at_ok {σ : Sg} {k j : Nat} (hok : okM σ) (h : k < nS σ) (h6 : k < 60) (hT : isThF (σ.1 1 k) = 1) (hj : j < szS σ k) : atM σ (nI k) (nI j) = ((σ.2 (3 * k + j)).toInt32, acc σ) := by
  have h3 := (okZ hok h6).1
  unfold atM whyA
  rw [if_neg (item_yes (okM_acc hok) h), ixn (by omega), show isThF ((acc σ).1 1 k) = 1 from hT, wrong_ok (okM_acc hok) h6 hj (by decide), if_pos rfl, ix3 (vp_in_nI h6 (by decide)) (vp_in_nI (show j < 3 by omega) (by decide)), ixn (by omega), ixn (by omega)]
  rfl
theorem st_none {σ : Sg} {t : Int32} (hok : okM σ) (h : noItem σ t) : stampsM σ t = (0, refuseM σ (-2)) := by
  unfold stampsM whyS
  rw [if_pos (item_no (okM_acc hok) h), if_neg (by decide), refuse_acc]
theorem oneF1 {κ : Int32} (hO : isOneK κ = true) : isOneF κ = 1 := by
  obtain ⟨a, b⟩ := oneK hO
  rw [Int32.le_iff_toInt_le] at a b
  unfold isOneF isInF
  rw [if_neg (by rw [Int32.lt_iff_toInt_lt]; omega), if_neg (by rw [Int32.lt_iff_toInt_lt]; omega)]
theorem oneF0 {κ : Int32} (hO : isOneK κ = false) : isOneF κ = 0 := by
  unfold isOneF isInF
  by_cases h5 : κ < 5
  · rw [if_pos h5]
  · rw [if_neg h5, if_pos]
    rcases Int.lt_or_le (7 : Int32).toInt κ.toInt with q | q
    · rw [Int32.lt_iff_toInt_lt]; exact q
    · have : isOneK κ = true := by
        rw [Int32.lt_iff_toInt_lt] at h5
        unfold isOneK
        rw [Bool.and_eq_true]
        exact ⟨decide_eq_true (by rw [Int32.le_iff_toInt_le]; omega), decide_eq_true (by rw [Int32.le_iff_toInt_le]; exact q)⟩
      rw [this] at hO
      cases hO
theorem oneF_num {κ : Int32} (hN : isNumK κ = true) : isOneK κ = false := by
  have h := numK hN
  rw [Int32.lt_iff_toInt_lt] at h
  have e3 : (3 : Int32).toInt = 3 := by decide
  have e5 : (5 : Int32).toInt = 5 := by decide
  unfold isOneK
  rw [Bool.and_eq_false_iff]
  exact Or.inl (decide_eq_false (by rw [Int32.le_iff_toInt_le]; omega))
theorem st_cast {σ : Sg} {k : Nat} (hok : okM σ) (h : k < nS σ) (h6 : k < 60) (hO : isOneK (σ.1 1 k) = false) : stampsM σ (nI k) = (0, refuseM σ (-4)) := by
  unfold stampsM whyS
  rw [if_neg (item_yes (okM_acc hok) h), ixn (by omega), show isOneF ((acc σ).1 1 k) = 0 from oneF0 hO, if_pos rfl, if_neg (by decide), refuse_acc]
theorem st_ok {σ : Sg} {k : Nat} (hok : okM σ) (h : k < nS σ) (h6 : k < 60) (hO : isOneK (σ.1 1 k) = true) : stampsM σ (nI k) = (σ.1 3 k, acc σ) := by
  unfold stampsM whyS
  rw [if_neg (item_yes (okM_acc hok) h), ixn (by omega), show isOneF ((acc σ).1 1 k) = 1 from oneF1 hO, if_pos (by decide)]
  rfl
